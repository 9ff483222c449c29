set_option maxRecDepth 20000 in
theorem ggL_law_X12_span : GoodIn wsL_law wsX12_span := goodIn_r _ [816, 154, 767, 768, 5, 769, 222, 203, 204, 205, 817, 818, 819, 820, 654, 655, 656, 657, 821, 822, 823, 824, 1004, 1005, 1006, 1007, 1008, 1009, 1010, 1011, 1012, 1013, 1014, 1015, 1016, 1017, 1018, 1019, 1020, 1021, 1022, 1023, 1024, 1025, 1026, 1027, 1028, 1029, 1030, 1031, 1032, 1033, 1034, 1035, 1036, 1037, 1038, 1039, 1040, 1041, 1042, 1043] (by decide +kernel) (by decide +kernel)
set_option maxRecDepth 20000 in
theorem gL_law_X12_span : GoodIn wsL_law (wsV RL 66 RX12 yX12_span wsX12_span) := goodIn_app (goodIn_of _ (by decide +kernel)) ggL_law_X12_span
set_option maxRecDepth 20000 in
theorem ggL_law_X11_thin : GoodIn wsL_law wsX11_thin := goodIn_r _ [828, 15, 182, 183, 2, 184, 829, 830, 831, 14, 832, 60, 801, 802, 803, 804, 833, 810, 811, 812, 991, 992, 993, 994, 995, 996, 997, 998, 999, 1000, 1001, 1002, 1003, 1044] (by decide +kernel) (by decide +kernel)
set_option maxRecDepth 20000 in
theorem gL_law_X11_thin : GoodIn wsL_law (wsV RL 67 RX11 yX11_thin wsX11_thin) := goodIn_app (goodIn_of _ (by decide +kernel)) ggL_law_X11_thin
set_option maxRecDepth 20000 in
theorem ggL_law_X12_thin : GoodIn wsL_law wsX12_thin := goodIn_r _ [837, 201, 838, 154, 203, 204, 5, 205, 817, 818, 819, 820, 654, 655, 656, 657, 821, 822, 823, 824, 1004, 1005, 1006, 1007, 1008, 1009, 1010, 1011, 1012, 1013, 1014, 1015, 1016, 1017, 1018, 1019, 1020, 1021, 1022, 1023, 1024, 1025, 1026, 1027, 1028, 1029, 1030, 1031, 1032, 1033, 1034, 1035, 1036, 1037, 1038, 1039, 1040, 1041, 1042, 1043] (by decide +kernel) (by decide +kernel)
set_option maxRecDepth 20000 in
theorem gL_law_X12_thin : GoodIn wsL_law (wsV RL 70 RX12 yX12_thin wsX12_thin) := goodIn_app (goodIn_of _ (by decide +kernel)) ggL_law_X12_thin
set_option maxRecDepth 20000 in
theorem ggL_law_X11_nets : GoodIn wsL_law wsX11_nets := goodIn_r _ [842, 19, 15, 843, 844, 2, 845, 182, 183, 184, 846, 847, 848, 849, 850, 851, 18, 852, 64, 66, 438, 439, 440, 441, 378, 379, 442, 443, 444, 445, 65, 446, 447, 448, 449, 450, 451, 991, 992, 993, 994, 995, 996, 997, 998, 999, 1000, 1001, 1002, 1003, 1044, 1045, 1046, 1047] (by decide +kernel) (by decide +kernel)
set_option maxRecDepth 20000 in
theorem gL_law_X11_nets : GoodIn wsL_law (wsV RL 71 RX11 yX11_nets wsX11_nets) := goodIn_app (goodIn_of _ (by decide +kernel)) ggL_law_X11_nets
set_option maxRecDepth 20000 in
theorem ggL_law_X12_nets : GoodIn wsL_law wsX12_nets := goodIn_r _ [856, 857, 203, 204, 5, 205, 858, 859, 860, 861, 174, 154, 678, 167, 674, 675, 676, 677, 166, 679, 680, 681, 682, 683, 684, 685, 686, 687, 688, 689, 1004, 1005, 1006, 1007, 1008, 1009, 1010, 1011, 1012, 1013, 1014, 1015, 1016, 1017, 1018, 1019, 1020, 1021, 1022, 1023, 1024, 1025, 1026, 1027, 1028, 1029, 1030, 1031, 1032, 1033, 1034, 1035, 1036, 1037, 1038, 1039, 1040, 1041, 1042, 1043] (by decide +kernel) (by decide +kernel)
set_option maxRecDepth 20000 in
theorem gL_law_X12_nets : GoodIn wsL_law (wsV RL 74 RX12 yX12_nets wsX12_nets) := goodIn_app (goodIn_of _ (by decide +kernel)) ggL_law_X12_nets
set_option maxRecDepth 20000 in
theorem ggL_law_X11_netOf : GoodIn wsL_law wsX11_netOf := goodIn_r _ [865, 19, 15, 214, 215, 2, 216, 182, 183, 184, 759, 760, 761, 843, 844, 845, 846, 847, 848, 849, 850, 851, 18, 852, 64, 66, 438, 439, 440, 441, 378, 379, 442, 443, 444, 445, 65, 446, 447, 448, 449, 450, 451, 866, 867, 868, 869, 991, 992, 993, 994, 995, 996, 997, 998, 999, 1000, 1001, 1002, 1003, 1044, 1045, 1046, 1047] (by decide +kernel) (by decide +kernel)
set_option maxRecDepth 20000 in
theorem gL_law_X11_netOf : GoodIn wsL_law (wsV RL 75 RX11 yX11_netOf wsX11_netOf) := goodIn_app (goodIn_of _ (by decide +kernel)) ggL_law_X11_netOf
set_option maxRecDepth 20000 in
theorem ggL_law_X12_netOf : GoodIn wsL_law wsX12_netOf := goodIn_r _ [873, 766, 857, 174, 767, 768, 5, 769, 222, 203, 204, 205, 858, 859, 860, 861, 154, 678, 167, 674, 675, 676, 677, 166, 679, 680, 681, 682, 683, 684, 685, 686, 687, 688, 689, 1004, 1005, 1006, 1007, 1008, 1009, 1010, 1011, 1012, 1013, 1014, 1015, 1016, 1017, 1018, 1019, 1020, 1021, 1022, 1023, 1024, 1025, 1026, 1027, 1028, 1029, 1030, 1031, 1032, 1033, 1034, 1035, 1036, 1037, 1038, 1039, 1040, 1041, 1042, 1043] (by decide +kernel) (by decide +kernel)
set_option maxRecDepth 20000 in
theorem gL_law_X12_netOf : GoodIn wsL_law (wsV RL 78 RX12 yX12_netOf wsX12_netOf) := goodIn_app (goodIn_of _ (by decide +kernel)) ggL_law_X12_netOf
set_option maxRecDepth 20000 in
theorem ggL_law_X11_net : GoodIn wsL_law wsX11_net := goodIn_r _ [877, 19, 15, 843, 844, 2, 845, 182, 183, 184, 846, 847, 848, 849, 850, 851, 18, 852, 64, 66, 438, 439, 440, 441, 378, 379, 442, 443, 444, 445, 65, 446, 447, 448, 449, 450, 451, 878, 879, 880, 881, 882, 883, 884, 885, 886, 887, 888, 889, 890, 891, 892, 893, 894, 895, 896, 897, 991, 992, 993, 994, 995, 996, 997, 998, 999, 1000, 1001, 1002, 1003, 1044, 1045, 1046, 1047] (by decide +kernel) (by decide +kernel)
set_option maxRecDepth 20000 in
theorem gL_law_X11_net : GoodIn wsL_law (wsV RL 79 RX11 yX11_net wsX11_net) := goodIn_app (goodIn_of _ (by decide +kernel)) ggL_law_X11_net
set_option maxRecDepth 20000 in
theorem ggL_law_X12_net : GoodIn wsL_law wsX12_net := goodIn_r _ [901, 857, 174, 203, 204, 5, 205, 858, 859, 860, 861, 154, 678, 167, 674, 675, 676, 677, 166, 679, 680, 681, 682, 683, 684, 685, 686, 687, 688, 689, 1004, 1005, 1006, 1007, 1008, 1009, 1010, 1011, 1012, 1013, 1014, 1015, 1016, 1017, 1018, 1019, 1020, 1021, 1022, 1023, 1024, 1025, 1026, 1027, 1028, 1029, 1030, 1031, 1032, 1033, 1034, 1035, 1036, 1037, 1038, 1039, 1040, 1041, 1042, 1043] (by decide +kernel) (by decide +kernel)
set_option maxRecDepth 20000 in
theorem gL_law_X12_net : GoodIn wsL_law (wsV RL 82 RX12 yX12_net wsX12_net) := goodIn_app (goodIn_of _ (by decide +kernel)) ggL_law_X12_net
set_option maxRecDepth 20000 in
theorem ggL_law_X11_joined : GoodIn wsL_law wsX11_joined := goodIn_r _ [905, 15, 19, 214, 215, 2, 216, 182, 183, 184, 843, 844, 845, 774, 534, 535, 14, 536, 60, 846, 847, 848, 849, 850, 851, 18, 852, 64, 66, 438, 439, 440, 441, 378, 379, 442, 443, 444, 445, 65, 446, 447, 448, 449, 450, 451, 866, 867, 868, 869, 991, 992, 993, 994, 995, 996, 997, 998, 999, 1000, 1001, 1002, 1003, 1044, 1045, 1046, 1047] (by decide +kernel) (by decide +kernel)
set_option maxRecDepth 20000 in
theorem gL_law_X11_joined : GoodIn wsL_law (wsV RL 83 RX11 yX11_joined wsX11_joined) := goodIn_app (goodIn_of _ (by decide +kernel)) ggL_law_X11_joined
set_option maxRecDepth 20000 in
theorem ggL_law_X12_joined : GoodIn wsL_law wsX12_joined := goodIn_r _ [909, 857, 174, 767, 768, 5, 769, 222, 203, 204, 205, 858, 859, 860, 861, 154, 678, 167, 674, 675, 676, 677, 166, 679, 680, 681, 682, 683, 684, 685, 686, 687, 688, 689, 654, 655, 656, 657, 1004, 1005, 1006, 1007, 1008, 1009, 1010, 1011, 1012, 1013, 1014, 1015, 1016, 1017, 1018, 1019, 1020, 1021, 1022, 1023, 1024, 1025, 1026, 1027, 1028, 1029, 1030, 1031, 1032, 1033, 1034, 1035, 1036, 1037, 1038, 1039, 1040, 1041, 1042, 1043] (by decide +kernel) (by decide +kernel)
set_option maxRecDepth 20000 in
theorem gL_law_X12_joined : GoodIn wsL_law (wsV RL 86 RX12 yX12_joined wsX12_joined) := goodIn_app (goodIn_of _ (by decide +kernel)) ggL_law_X12_joined
set_option maxRecDepth 20000 in
theorem ggL_law_X11_device : GoodIn wsL_law wsX11_device := goodIn_r _ [913, 51, 914, 915, 916, 50, 917, 142, 141, 183, 2, 184, 182, 918, 919, 920, 921, 145, 146, 147, 148, 143, 922, 513, 514, 515, 923, 924, 925, 926, 149, 927, 802, 803, 14, 804, 60, 928, 929, 930, 931, 932, 810, 811, 812, 933, 934, 935, 936, 144, 450, 451, 991, 992, 993, 994, 995, 996, 997, 998, 999, 1000, 1001, 1002, 1003, 1077, 1078, 1079, 1080, 1081, 1082, 1083, 1084, 1085, 1044] (by decide +kernel) (by decide +kernel)
set_option maxRecDepth 20000 in
theorem gL_law_X11_device : GoodIn wsL_law (wsV RL 87 RX11 yX11_device wsX11_device) := goodIn_app (goodIn_of _ (by decide +kernel)) ggL_law_X11_device
set_option maxRecDepth 20000 in
theorem ggL_law_X12_device : GoodIn wsL_law wsX12_device := goodIn_r _ [940, 941, 176, 942, 943, 944, 5, 945, 946, 201, 947, 175, 203, 204, 205, 948, 949, 950, 951, 154, 817, 818, 819, 820, 654, 655, 656, 657, 952, 953, 954, 955, 678, 167, 674, 675, 676, 677, 166, 679, 680, 681, 682, 687, 688, 689, 1004, 1005, 1006, 1007, 1008, 1009, 1010, 1011, 1012, 1013, 1014, 1015, 1016, 1017, 1018, 1019, 1020, 1021, 1022, 1023, 1024, 1025, 1026, 1027, 1028, 1029, 1030, 1031, 1032, 1033, 1034, 1035, 1036, 1037, 1038, 1039, 1040, 1041, 1042, 1043] (by decide +kernel) (by decide +kernel)
set_option maxRecDepth 20000 in
theorem gL_law_X12_device : GoodIn wsL_law (wsV RL 90 RX12 yX12_device wsX12_device) := goodIn_app (goodIn_of _ (by decide +kernel)) ggL_law_X12_device
set_option maxRecDepth 20000 in
theorem ggL_law_X11_section : GoodIn wsL_law wsX11_section := goodIn_r _ [959, 19, 15, 54, 182, 183, 2, 184, 960, 465, 466, 18, 467, 434, 435, 436, 437, 64, 66, 438, 439, 440, 441, 378, 379, 442, 443, 444, 445, 65, 446, 447, 448, 449, 450, 451, 961, 962, 963, 964, 965, 457, 458, 459, 966, 967, 968, 969, 53, 991, 992, 993, 994, 995, 996, 997, 998, 999, 1000, 1001, 1002, 1003, 1044, 1045, 1046, 1047] (by decide +kernel) (by decide +kernel)
set_option maxRecDepth 20000 in
theorem gL_law_X11_section : GoodIn wsL_law (wsV RL 91 RX11 yX11_section wsX11_section) := goodIn_app (goodIn_of _ (by decide +kernel)) ggL_law_X11_section
set_option maxRecDepth 20000 in
theorem ggL_law_X12_section : GoodIn wsL_law wsX12_section := goodIn_r _ [973, 202, 974, 177, 154, 166, 203, 204, 5, 205, 670, 671, 672, 673, 674, 675, 676, 677, 678, 679, 680, 681, 682, 167, 683, 684, 685, 686, 687, 688, 689, 1004, 1005, 1006, 1007, 1008, 1009, 1010, 1011, 1012, 1013, 1014, 1015, 1016, 1017, 1018, 1019, 1020, 1021, 1022, 1023, 1024, 1025, 1026, 1027, 1028, 1029, 1030, 1031, 1032, 1033, 1034, 1035, 1036, 1037, 1038, 1039, 1040, 1041, 1042, 1043] (by decide +kernel) (by decide +kernel)
set_option maxRecDepth 20000 in
theorem gL_law_X12_section : GoodIn wsL_law (wsV RL 94 RX12 yX12_section wsX12_section) := goodIn_app (goodIn_of _ (by decide +kernel)) ggL_law_X12_section
set_option maxRecDepth 20000 in
theorem ggL_law_X11_out : GoodIn wsL_law wsX11_out := goodIn_r _ [978, 54, 53, 182, 183, 2, 184, 991, 992, 993, 994, 995, 996, 997, 998, 999, 1000, 1001, 1002, 1003] (by decide +kernel) (by decide +kernel)
set_option maxRecDepth 20000 in
theorem gL_law_X11_out : GoodIn wsL_law (wsV RL 95 RX11 yX11_out wsX11_out) := goodIn_app (goodIn_of _ (by decide +kernel)) ggL_law_X11_out
set_option maxRecDepth 20000 in
theorem ggL_law_X12_out : GoodIn wsL_law wsX12_out := goodIn_r _ [982, 974, 177, 203, 204, 5, 205, 1004, 1005, 1006, 1007, 1008, 1009, 1010, 1011, 1012, 1013, 1014, 1015, 1016, 1017, 1018, 1019, 1020, 1021, 1022, 1023, 1024, 1025, 1026, 1027, 1028, 1029, 1030, 1031, 1032, 1033, 1034, 1035, 1036, 1037, 1038, 1039, 1040, 1041, 1042, 1043] (by decide +kernel) (by decide +kernel)
set_option maxRecDepth 20000 in
theorem gL_law_X12_out : GoodIn wsL_law (wsV RL 98 RX12 yX12_out wsX12_out) := goodIn_app (goodIn_of _ (by decide +kernel)) ggL_law_X12_out
set_option maxRecDepth 20000 in
theorem ggL_law_X11_digest : GoodIn wsL_law wsX11_digest := goodIn_r _ [986, 15, 991, 992, 993, 994, 995, 996, 997, 998, 999, 1000, 1001, 1002, 1003, 1044] (by decide +kernel) (by decide +kernel)
set_option maxRecDepth 20000 in
theorem gL_law_X11_digest : GoodIn wsL_law (wsV RL 99 RX11 yX11_digest wsX11_digest) := goodIn_app (goodIn_of _ (by decide +kernel)) ggL_law_X11_digest
set_option maxRecDepth 20000 in
theorem ggL_law_X12_digest : GoodIn wsL_law wsX12_digest := goodIn_r _ [990, 154, 1004, 1005, 1006, 1007, 1008, 1009, 1010, 1011, 1012, 1013, 1014, 1015, 1016, 1017, 1018, 1019, 1020, 1021, 1022, 1023, 1024, 1025, 1026, 1027, 1028, 1029, 1030, 1031, 1032, 1033, 1034, 1035, 1036, 1037, 1038, 1039, 1040, 1041, 1042, 1043] (by decide +kernel) (by decide +kernel)
set_option maxRecDepth 20000 in
theorem gL_law_X12_digest : GoodIn wsL_law (wsV RL 102 RX12 yX12_digest wsX12_digest) := goodIn_app (goodIn_of _ (by decide +kernel)) ggL_law_X12_digest
theorem dL_law_0 : decode cL_law 0 = .ok (.new 7, 3) := by decide +kernel
theorem dL_law_3 : decode cL_law 3 = .ok (.dup, 1) := by decide +kernel
theorem dL_law_4 : decode cL_law 4 = .ok (.invokespecial 9, 3) := by decide +kernel
theorem dL_law_7 : decode cL_law 7 = .ok (.astore_n 1, 1) := by decide +kernel
theorem dL_law_8 : decode cL_law 8 = .ok (.new 10, 3) := by decide +kernel
theorem dL_law_11 : decode cL_law 11 = .ok (.dup, 1) := by decide +kernel
theorem dL_law_12 : decode cL_law 12 = .ok (.invokespecial 12, 3) := by decide +kernel
theorem dL_law_15 : decode cL_law 15 = .ok (.astore_n 2, 1) := by decide +kernel
theorem dL_law_16 : decode cL_law 16 = .ok (.iconst 0, 1) := by decide +kernel
theorem dL_law_17 : decode cL_law 17 = .ok (.istore_n 3, 1) := by decide +kernel
theorem dL_law_18 : decode cL_law 18 = .ok (.iload_n 3, 1) := by decide +kernel
theorem dL_law_19 : decode cL_law 19 = .ok (.aload_n 0, 1) := by decide +kernel
theorem dL_law_20 : decode cL_law 20 = .ok (.arraylength, 1) := by decide +kernel
theorem dL_law_21 : decode cL_law 21 = .ok (.bipush 7, 2) := by decide +kernel
theorem dL_law_23 : decode cL_law 23 = .ok (.isub, 1) := by decide +kernel
theorem dL_law_24 : decode cL_law 24 = .ok (.if_icmp .gt 795, 3) := by decide +kernel
theorem dL_law_27 : decode cL_law 27 = .ok (.aload_n 0, 1) := by decide +kernel
theorem dL_law_28 : decode cL_law 28 = .ok (.iload_n 3, 1) := by decide +kernel
theorem dL_law_29 : decode cL_law 29 = .ok (.iaload, 1) := by decide +kernel
theorem dL_law_30 : decode cL_law 30 = .ok (.bipush 31, 2) := by decide +kernel
theorem dL_law_32 : decode cL_law 32 = .ok (.iand, 1) := by decide +kernel
theorem dL_law_33 : decode cL_law 33 = .ok (.tableswitch 780 0 20 #[99, 190, 223, 246, 309, 332, 345, 358, 371, 404, 427, 450, 493, 526, 549, 592, 635, 678, 711, 744, 767], 99) := by decide +kernel
theorem dL_law_132 : decode cL_law 132 = .ok (.aload_n 1, 1) := by decide +kernel
theorem dL_law_133 : decode cL_law 133 = .ok (.aload_n 0, 1) := by decide +kernel
