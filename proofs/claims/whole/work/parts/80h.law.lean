set_option maxRecDepth 20000 in
theorem hL_X11_run : GoodIn wsL_law [Cond.code yX11_run cX11_run 3 (some .int)] := goodIn_r _ [259] (by decide +kernel) (by decide +kernel)
set_option maxRecDepth 20000 in
theorem hL_X11_run_r1 : GoodIn wsL_law wsX11_run_r1 := goodIn_r _ [39, 35, 55, 47, 15, 43, 260, 261, 262, 38, 263, 100, 101, 264, 265, 266, 34, 267, 91, 268, 269, 270, 271, 90] (by decide +kernel) (by decide +kernel)
set_option maxRecDepth 20000 in
theorem hL_X11_run_r2 : GoodIn wsL_law wsX11_run_r2 := goodIn_r _ [92, 89, 272, 273, 274, 275, 276, 277, 183, 2, 184, 278, 279, 280, 281, 282, 283, 284, 285, 286, 287, 288, 289, 98] (by decide +kernel) (by decide +kernel)
set_option maxRecDepth 20000 in
theorem hL_X11_run_r3 : GoodIn wsL_law wsX11_run_r3 := goodIn_r _ [99, 290, 291, 292, 293, 294, 295, 296, 297, 298, 299, 300, 301, 302, 303, 304, 305, 306, 307, 308, 309, 310, 311, 312] (by decide +kernel) (by decide +kernel)
set_option maxRecDepth 20000 in
theorem hL_X11_run_r4 : GoodIn wsL_law wsX11_run_r4 := goodIn_r _ [313, 314, 315, 316, 317, 318, 319, 320, 321, 322, 323, 324, 325, 326, 327, 328, 329, 330, 331, 332, 333, 334, 335, 336] (by decide +kernel) (by decide +kernel)
set_option maxRecDepth 20000 in
theorem hL_X11_run_r5 : GoodIn wsL_law wsX11_run_r5 := goodIn_r _ [337, 338, 339, 340, 341, 342, 343, 344, 345, 346, 347, 348, 349, 350, 351, 352, 353, 354, 355, 356, 357, 358, 359, 360] (by decide +kernel) (by decide +kernel)
set_option maxRecDepth 20000 in
theorem hL_X11_run_r6 : GoodIn wsL_law wsX11_run_r6 := goodIn_r _ [361, 362, 363, 364, 365, 366, 367, 368, 369, 370, 371, 372, 373, 374, 375, 376, 377, 378, 379, 380, 381, 382, 383, 384] (by decide +kernel) (by decide +kernel)
set_option maxRecDepth 20000 in
theorem hL_X11_run_r7 : GoodIn wsL_law wsX11_run_r7 := goodIn_r _ [385, 386, 387, 388, 389, 390, 391, 392, 393, 394, 395, 396, 46, 397, 134, 135, 398, 399, 400, 401, 402, 403, 404, 42] (by decide +kernel) (by decide +kernel)
set_option maxRecDepth 20000 in
theorem hL_X11_run_r8 : GoodIn wsL_law wsX11_run_r8 := goodIn_r _ [405, 122, 123, 124, 125, 120, 406, 407, 408, 409, 121, 119, 410, 411, 412, 413, 126, 128, 414, 415, 416, 417, 418, 419] (by decide +kernel) (by decide +kernel)
set_option maxRecDepth 20000 in
theorem hL_X11_run_r9 : GoodIn wsL_law wsX11_run_r9 := goodIn_r _ [420, 421, 127, 422, 423, 424, 14, 425, 60, 426, 427, 428, 22, 429, 74, 73, 430, 431, 432, 18, 433, 434, 435, 436] (by decide +kernel) (by decide +kernel)
set_option maxRecDepth 20000 in
theorem hL_X11_run_r10 : GoodIn wsL_law wsX11_run_r10 := goodIn_r _ [437, 64, 66, 438, 439, 440, 441, 442, 443, 444, 445, 65, 446, 447, 448, 449, 450, 451, 452, 453, 454, 455, 456, 457] (by decide +kernel) (by decide +kernel)
set_option maxRecDepth 20000 in
theorem hL_X11_run_r11 : GoodIn wsL_law wsX11_run_r11 := goodIn_r _ [458, 459, 460, 461, 462, 463, 72, 464, 465, 466, 467, 468, 469, 470, 471, 472, 473, 474, 475, 476, 477, 478, 479, 71] (by decide +kernel) (by decide +kernel)
set_option maxRecDepth 20000 in
theorem hL_X11_run_r12 : GoodIn wsL_law wsX11_run_r12 := goodIn_r _ [480, 481, 482, 483, 484, 485, 486, 487, 488, 489, 490, 491, 492, 493, 494, 495, 496, 497, 498, 499, 500, 501, 502, 503] (by decide +kernel) (by decide +kernel)
set_option maxRecDepth 20000 in
theorem hL_X11_run_r13 : GoodIn wsL_law wsX11_run_r13 := goodIn_r _ [504, 505, 506, 507, 508, 509, 510, 511, 512, 513, 514, 515, 516, 517, 518, 519, 520, 521, 522, 523, 129, 524, 194, 195] (by decide +kernel) (by decide +kernel)
set_option maxRecDepth 20000 in
theorem hL_X11_run_r14 : GoodIn wsL_law wsX11_run_r14 := goodIn_r _ [26, 196, 79, 525, 526, 527, 528, 529, 530, 531, 532, 533, 534, 535, 536, 537, 538, 539, 540, 541, 542, 543, 544, 545] (by decide +kernel) (by decide +kernel)
set_option maxRecDepth 20000 in
theorem hL_X11_run_r15 : GoodIn wsL_law wsX11_run_r15 := goodIn_r _ [546, 547, 548, 549, 550, 551, 552, 136, 553, 554, 555] (by decide +kernel) (by decide +kernel)
set_option maxRecDepth 20000 in
theorem hL_X11_run_wsX110 : GoodIn wsL_law wsX110 := goodIn_r _ [991, 992, 993, 994, 995, 996, 997, 998, 999, 1000, 1001, 1002, 1003] (by decide +kernel) (by decide +kernel)
set_option maxRecDepth 20000 in
theorem hL_X11_run_wsX90 : GoodIn wsL_law wsX90 := goodIn_r _ [1055, 1056, 1057, 1058] (by decide +kernel) (by decide +kernel)
set_option maxRecDepth 20000 in
theorem hL_X11_run_wsX00 : GoodIn wsL_law wsX00 := goodIn_r _ [1044] (by decide +kernel) (by decide +kernel)
set_option maxRecDepth 20000 in
theorem hL_X11_run_wsX60 : GoodIn wsL_law wsX60 := goodIn_r _ [1063, 1064, 1065, 1066, 1067, 1068, 1069, 1070, 1071, 1072, 1073] (by decide +kernel) (by decide +kernel)
set_option maxRecDepth 20000 in
theorem hL_X11_run_wsX50 : GoodIn wsL_law wsX50 := goodIn_r _ [1059, 1060, 1061, 1062] (by decide +kernel) (by decide +kernel)
set_option maxRecDepth 20000 in
theorem hL_X11_run_wsX80 : GoodIn wsL_law wsX80 := goodIn_r _ [1053, 1054] (by decide +kernel) (by decide +kernel)
set_option maxRecDepth 20000 in
theorem hL_X11_run_wsX70 : GoodIn wsL_law wsX70 := goodIn_r _ [1086, 1087, 1088, 1089, 1090, 1091, 1092, 1093] (by decide +kernel) (by decide +kernel)
set_option maxRecDepth 20000 in
theorem hL_X11_run_wsX30 : GoodIn wsL_law wsX30 := goodIn_r _ [1074, 1075, 1076] (by decide +kernel) (by decide +kernel)
set_option maxRecDepth 20000 in
theorem hL_X11_run_wsX100 : GoodIn wsL_law wsX100 := goodIn_r _ [1048, 1049, 1050, 1051] (by decide +kernel) (by decide +kernel)
set_option maxRecDepth 20000 in
theorem hL_X11_run_wsX20 : GoodIn wsL_law wsX20 := goodIn_r _ [1045, 1046, 1047] (by decide +kernel) (by decide +kernel)
set_option maxRecDepth 20000 in
theorem hL_X11_run_wsX40 : GoodIn wsL_law wsX40 := goodIn_r _ [1052] (by decide +kernel) (by decide +kernel)
theorem ggL_law_X11_run : GoodIn wsL_law wsX11_run := goodIn_app (a := [Cond.code yX11_run cX11_run 3 (some .int)]) hL_X11_run (goodIn_app (goodIn_app (goodIn_app (goodIn_app (goodIn_app (goodIn_app (goodIn_app (goodIn_app (goodIn_app (goodIn_app (goodIn_app (goodIn_app hL_X11_run_r1 (goodIn_app hL_X11_run_r2 (goodIn_app hL_X11_run_r3 (goodIn_app hL_X11_run_r4 (goodIn_app hL_X11_run_r5 (goodIn_app hL_X11_run_r6 (goodIn_app hL_X11_run_r7 (goodIn_app hL_X11_run_r8 (goodIn_app hL_X11_run_r9 (goodIn_app hL_X11_run_r10 (goodIn_app hL_X11_run_r11 (goodIn_app hL_X11_run_r12 (goodIn_app hL_X11_run_r13 (goodIn_app hL_X11_run_r14 (hL_X11_run_r15))))))))))))))) hL_X11_run_wsX110) hL_X11_run_wsX90) hL_X11_run_wsX00) hL_X11_run_wsX60) hL_X11_run_wsX50) hL_X11_run_wsX80) hL_X11_run_wsX70) hL_X11_run_wsX30) hL_X11_run_wsX100) hL_X11_run_wsX20) hL_X11_run_wsX40)
set_option maxRecDepth 20000 in
theorem hL_X12_run : GoodIn wsL_law [Cond.code yX12_run cX12_run 5 (some .int)] := goodIn_r _ [559] (by decide +kernel) (by decide +kernel)
set_option maxRecDepth 20000 in
theorem hL_X12_run_r1 : GoodIn wsL_law wsX12_run_r1 := goodIn_r _ [172, 560, 561, 170, 154, 562, 563, 158, 173, 164, 161, 163, 564, 565, 566, 5, 567, 568, 569, 570, 571, 572, 165, 573] (by decide +kernel) (by decide +kernel)
set_option maxRecDepth 20000 in
theorem hL_X12_run_r2 : GoodIn wsL_law wsX12_run_r2 := goodIn_r _ [574, 575, 576, 577, 578, 579, 243, 580, 581, 582, 583, 584, 585, 586, 587, 588, 157, 203, 204, 205, 589, 590, 591, 592] (by decide +kernel) (by decide +kernel)
set_option maxRecDepth 20000 in
theorem hL_X12_run_r3 : GoodIn wsL_law wsX12_run_r3 := goodIn_r _ [593, 594, 595, 596, 159, 160, 162, 597, 598, 599, 600, 601, 602, 603, 604, 605, 606, 607, 608, 609, 610, 611, 612, 613] (by decide +kernel) (by decide +kernel)
set_option maxRecDepth 20000 in
theorem hL_X12_run_r4 : GoodIn wsL_law wsX12_run_r4 := goodIn_r _ [614, 615, 616, 617, 618, 619, 620, 621, 622, 623, 624, 625, 626, 627, 628, 629, 630, 631, 632, 633, 201, 634, 635, 636] (by decide +kernel) (by decide +kernel)
set_option maxRecDepth 20000 in
theorem hL_X12_run_r5 : GoodIn wsL_law wsX12_run_r5 := goodIn_r _ [637, 638, 639, 640, 641, 642, 643, 644, 645, 166, 646, 647, 648, 649, 155, 650, 651, 652, 653, 654, 655, 656, 657, 658] (by decide +kernel) (by decide +kernel)
set_option maxRecDepth 20000 in
theorem hL_X12_run_r6 : GoodIn wsL_law wsX12_run_r6 := goodIn_r _ [659, 660, 661, 662, 663, 664, 665, 666, 667, 668, 669, 168, 670, 671, 672, 673, 674, 675, 676, 677, 678, 679, 680, 681] (by decide +kernel) (by decide +kernel)
set_option maxRecDepth 20000 in
theorem hL_X12_run_r7 : GoodIn wsL_law wsX12_run_r7 := goodIn_r _ [682, 167, 683, 684, 685, 686, 687, 688, 689, 690, 691, 692, 693, 694, 695, 696, 697, 698, 699, 700, 701, 702, 703, 704] (by decide +kernel) (by decide +kernel)
set_option maxRecDepth 20000 in
theorem hL_X12_run_r8 : GoodIn wsL_law wsX12_run_r8 := goodIn_r _ [705, 706, 707, 708, 709, 169, 710, 711, 712, 713, 714, 715, 716, 717, 718, 719, 720, 721, 722, 723, 724, 725, 726, 727] (by decide +kernel) (by decide +kernel)
set_option maxRecDepth 20000 in
theorem hL_X12_run_r9 : GoodIn wsL_law wsX12_run_r9 := goodIn_r _ [728, 729, 730, 731, 732, 733, 734, 171] (by decide +kernel) (by decide +kernel)
set_option maxRecDepth 20000 in
theorem hL_X12_run_wsX120 : GoodIn wsL_law wsX120 := goodIn_r _ [1004, 1005, 1006, 1007, 1008, 1009, 1010, 1011, 1012, 1013, 1014, 1015, 1016, 1017, 1018, 1019, 1020, 1021, 1022, 1023, 1024, 1025, 1026, 1027, 1028, 1029, 1030, 1031, 1032, 1033, 1034, 1035, 1036, 1037, 1038, 1039, 1040, 1041, 1042, 1043] (by decide +kernel) (by decide +kernel)
theorem ggL_law_X12_run : GoodIn wsL_law wsX12_run := goodIn_app (a := [Cond.code yX12_run cX12_run 5 (some .int)]) hL_X12_run (goodIn_app (goodIn_app hL_X12_run_r1 (goodIn_app hL_X12_run_r2 (goodIn_app hL_X12_run_r3 (goodIn_app hL_X12_run_r4 (goodIn_app hL_X12_run_r5 (goodIn_app hL_X12_run_r6 (goodIn_app hL_X12_run_r7 (goodIn_app hL_X12_run_r8 (hL_X12_run_r9))))))))) hL_X12_run_wsX120)
