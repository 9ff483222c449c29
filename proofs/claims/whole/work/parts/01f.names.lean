theorem dX12_chooseBare_34 : decode cX12_chooseBare 34 = .ok (.ishr, 1) := by decide +kernel
theorem dX12_chooseBare_35 : decode cX12_chooseBare 35 = .ok (.iconst 1, 1) := by decide +kernel
theorem dX12_chooseBare_36 : decode cX12_chooseBare 36 = .ok (.iand, 1) := by decide +kernel
theorem dX12_chooseBare_37 : decode cX12_chooseBare 37 = .ok (.iconst 1, 1) := by decide +kernel
theorem dX12_chooseBare_38 : decode cX12_chooseBare 38 = .ok (.if_icmp .ne 26, 3) := by decide +kernel
theorem dX12_chooseBare_41 : decode cX12_chooseBare 41 = .ok (.iload_n 2, 1) := by decide +kernel
theorem dX12_chooseBare_42 : decode cX12_chooseBare 42 = .ok (.sipush 2736, 3) := by decide +kernel
theorem dX12_chooseBare_45 : decode cX12_chooseBare 45 = .ok (.if_icmp .ge 15, 3) := by decide +kernel
theorem dX12_chooseBare_48 : decode cX12_chooseBare 48 = .ok (.aload_n 0, 1) := by decide +kernel
theorem dX12_chooseBare_49 : decode cX12_chooseBare 49 = .ok (.iload_n 2, 1) := by decide +kernel
theorem dX12_chooseBare_50 : decode cX12_chooseBare 50 = .ok (.aload_n 0, 1) := by decide +kernel
theorem dX12_chooseBare_51 : decode cX12_chooseBare 51 = .ok (.getfield 45, 3) := by decide +kernel
theorem dX12_chooseBare_54 : decode cX12_chooseBare 54 = .ok (.invokevirtual 233, 3) := by decide +kernel
theorem dX12_chooseBare_57 : decode cX12_chooseBare 57 = .ok (.ifCond .eq 7, 3) := by decide +kernel
theorem dX12_chooseBare_60 : decode cX12_chooseBare 60 = .ok (.iconst 1, 1) := by decide +kernel
theorem dX12_chooseBare_61 : decode cX12_chooseBare 61 = .ok (.goto 4, 3) := by decide +kernel
theorem dX12_chooseBare_64 : decode cX12_chooseBare 64 = .ok (.iconst 0, 1) := by decide +kernel
theorem dX12_chooseBare_65 : decode cX12_chooseBare 65 = .ok (.bastore, 1) := by decide +kernel
theorem dX12_chooseBare_66 : decode cX12_chooseBare 66 = .ok (.iinc 2 1, 3) := by decide +kernel
theorem dX12_chooseBare_69 : decode cX12_chooseBare 69 = .ok (.goto (-63), 3) := by decide +kernel
theorem dX12_chooseBare_72 : decode cX12_chooseBare 72 = .ok (.return_, 1) := by decide +kernel
set_option maxRecDepth 20000 in
theorem ggX12_turnAll_X12_chooseBare : GoodIn wsX12_turnAll wsX12_chooseBare := goodIn_r _ [8, 2, 3, 9, 10, 11, 12, 7, 13, 14, 15, 16, 17, 18, 19, 20, 21, 22, 23, 24, 25, 26, 27, 28, 29, 30, 31, 32, 33, 34, 39, 40, 41, 42, 43, 44, 45, 46, 47, 48, 49, 50, 51, 52, 53, 54, 55, 56, 57, 58, 59, 60, 61, 62, 63, 64, 65, 66, 67, 68, 69, 70, 71, 72, 73, 74, 75, 76, 77, 78] (by decide +kernel) (by decide +kernel)
set_option maxRecDepth 20000 in
theorem gX12_turnAll_X12_chooseBare : GoodIn wsX12_turnAll (wsV RX12 237 RX12 yX12_chooseBare wsX12_chooseBare) := goodIn_app (goodIn_of _ (by decide +kernel)) ggX12_turnAll_X12_chooseBare
set_option maxRecDepth 20000 in
theorem ggX12_turnAll_X12_touches : GoodIn wsX12_turnAll wsX12_touches := goodIn_r _ [34, 28, 29, 7, 30] (by decide +kernel) (by decide +kernel)
set_option maxRecDepth 20000 in
theorem gX12_turnAll_X12_touches : GoodIn wsX12_turnAll (wsV RX12 233 RX12 yX12_touches wsX12_touches) := goodIn_app (goodIn_of _ (by decide +kernel)) ggX12_turnAll_X12_touches
set_option maxRecDepth 20000 in
theorem ggX12_turnAll_X12_change : GoodIn wsX12_turnAll wsX12_change := goodIn_r _ [38, 3, 2, 39, 40, 41, 42, 43, 44, 45, 46, 47, 48, 49, 50, 51, 52, 53, 54, 55, 56, 57, 58, 59, 60, 61, 62, 63, 64, 65, 66, 67, 68, 69, 70, 71, 72, 73, 74, 75, 76, 77, 78] (by decide +kernel) (by decide +kernel)
set_option maxRecDepth 20000 in
theorem gX12_turnAll_X12_change : GoodIn wsX12_turnAll (wsV RX12 230 RX12 yX12_change wsX12_change) := goodIn_app (goodIn_of _ (by decide +kernel)) ggX12_turnAll_X12_change
theorem dX12_turnAll_0 : decode cX12_turnAll 0 = .ok (.iconst 0, 1) := by decide +kernel
theorem dX12_turnAll_1 : decode cX12_turnAll 1 = .ok (.istore 4, 2) := by decide +kernel
theorem dX12_turnAll_3 : decode cX12_turnAll 3 = .ok (.iload 4, 2) := by decide +kernel
theorem dX12_turnAll_5 : decode cX12_turnAll 5 = .ok (.sipush 2880, 3) := by decide +kernel
theorem dX12_turnAll_8 : decode cX12_turnAll 8 = .ok (.if_icmp .ge 17, 3) := by decide +kernel
theorem dX12_turnAll_11 : decode cX12_turnAll 11 = .ok (.aload_n 0, 1) := by decide +kernel
theorem dX12_turnAll_12 : decode cX12_turnAll 12 = .ok (.getfield 54, 3) := by decide +kernel
theorem dX12_turnAll_15 : decode cX12_turnAll 15 = .ok (.iload 4, 2) := by decide +kernel
theorem dX12_turnAll_17 : decode cX12_turnAll 17 = .ok (.iconst 0, 1) := by decide +kernel
theorem dX12_turnAll_18 : decode cX12_turnAll 18 = .ok (.bastore, 1) := by decide +kernel
theorem dX12_turnAll_19 : decode cX12_turnAll 19 = .ok (.iinc 4 1, 3) := by decide +kernel
theorem dX12_turnAll_22 : decode cX12_turnAll 22 = .ok (.goto (-19), 3) := by decide +kernel
theorem dX12_turnAll_25 : decode cX12_turnAll 25 = .ok (.iconst 0, 1) := by decide +kernel
theorem dX12_turnAll_26 : decode cX12_turnAll 26 = .ok (.istore 4, 2) := by decide +kernel
theorem dX12_turnAll_28 : decode cX12_turnAll 28 = .ok (.iload 4, 2) := by decide +kernel
theorem dX12_turnAll_30 : decode cX12_turnAll 30 = .ok (.iload_n 3, 1) := by decide +kernel
theorem dX12_turnAll_31 : decode cX12_turnAll 31 = .ok (.if_icmp .ge 136, 3) := by decide +kernel
theorem dX12_turnAll_34 : decode cX12_turnAll 34 = .ok (.iload_n 1, 1) := by decide +kernel
theorem dX12_turnAll_35 : decode cX12_turnAll 35 = .ok (.iload_n 2, 1) := by decide +kernel
theorem dX12_turnAll_36 : decode cX12_turnAll 36 = .ok (.if_icmp .eq 131, 3) := by decide +kernel
theorem dX12_turnAll_39 : decode cX12_turnAll 39 = .ok (.iload 4, 2) := by decide +kernel
theorem dX12_turnAll_41 : decode cX12_turnAll 41 = .ok (.ifCond .ne 13, 3) := by decide +kernel
theorem dX12_turnAll_44 : decode cX12_turnAll 44 = .ok (.aload_n 0, 1) := by decide +kernel
theorem dX12_turnAll_45 : decode cX12_turnAll 45 = .ok (.iconst 1, 1) := by decide +kernel
theorem dX12_turnAll_46 : decode cX12_turnAll 46 = .ok (.iload_n 1, 1) := by decide +kernel
theorem dX12_turnAll_47 : decode cX12_turnAll 47 = .ok (.ishl, 1) := by decide +kernel
theorem dX12_turnAll_48 : decode cX12_turnAll 48 = .ok (.invokevirtual 237, 3) := by decide +kernel
theorem dX12_turnAll_51 : decode cX12_turnAll 51 = .ok (.goto 56, 3) := by decide +kernel
theorem dX12_turnAll_54 : decode cX12_turnAll 54 = .ok (.iconst 0, 1) := by decide +kernel
theorem dX12_turnAll_55 : decode cX12_turnAll 55 = .ok (.istore 5, 2) := by decide +kernel
theorem dX12_turnAll_57 : decode cX12_turnAll 57 = .ok (.iload 5, 2) := by decide +kernel
theorem dX12_turnAll_59 : decode cX12_turnAll 59 = .ok (.sipush 2880, 3) := by decide +kernel
theorem dX12_turnAll_62 : decode cX12_turnAll 62 = .ok (.if_icmp .ge 45, 3) := by decide +kernel
theorem dX12_turnAll_65 : decode cX12_turnAll 65 = .ok (.aload_n 0, 1) := by decide +kernel
theorem dX12_turnAll_66 : decode cX12_turnAll 66 = .ok (.getfield 51, 3) := by decide +kernel
theorem dX12_turnAll_69 : decode cX12_turnAll 69 = .ok (.iload 5, 2) := by decide +kernel
theorem dX12_turnAll_71 : decode cX12_turnAll 71 = .ok (.aload_n 0, 1) := by decide +kernel
theorem dX12_turnAll_72 : decode cX12_turnAll 72 = .ok (.getfield 7, 3) := by decide +kernel
theorem dX12_turnAll_75 : decode cX12_turnAll 75 = .ok (.iload 5, 2) := by decide +kernel
theorem dX12_turnAll_77 : decode cX12_turnAll 77 = .ok (.iaload, 1) := by decide +kernel
theorem dX12_turnAll_78 : decode cX12_turnAll 78 = .ok (.iload_n 1, 1) := by decide +kernel
theorem dX12_turnAll_79 : decode cX12_turnAll 79 = .ok (.if_icmp .ne 20, 3) := by decide +kernel
theorem dX12_turnAll_82 : decode cX12_turnAll 82 = .ok (.aload_n 0, 1) := by decide +kernel
theorem dX12_turnAll_83 : decode cX12_turnAll 83 = .ok (.iload 5, 2) := by decide +kernel
theorem dX12_turnAll_85 : decode cX12_turnAll 85 = .ok (.aload_n 0, 1) := by decide +kernel
theorem dX12_turnAll_86 : decode cX12_turnAll 86 = .ok (.getfield 54, 3) := by decide +kernel
theorem dX12_turnAll_89 : decode cX12_turnAll 89 = .ok (.invokevirtual 233, 3) := by decide +kernel
theorem dX12_turnAll_92 : decode cX12_turnAll 92 = .ok (.ifCond .eq 7, 3) := by decide +kernel
theorem dX12_turnAll_95 : decode cX12_turnAll 95 = .ok (.iconst 1, 1) := by decide +kernel
theorem dX12_turnAll_96 : decode cX12_turnAll 96 = .ok (.goto 4, 3) := by decide +kernel
theorem dX12_turnAll_99 : decode cX12_turnAll 99 = .ok (.iconst 0, 1) := by decide +kernel
theorem dX12_turnAll_100 : decode cX12_turnAll 100 = .ok (.bastore, 1) := by decide +kernel
theorem dX12_turnAll_101 : decode cX12_turnAll 101 = .ok (.iinc 5 1, 3) := by decide +kernel
theorem dX12_turnAll_104 : decode cX12_turnAll 104 = .ok (.goto (-47), 3) := by decide +kernel
theorem dX12_turnAll_107 : decode cX12_turnAll 107 = .ok (.aload_n 0, 1) := by decide +kernel
theorem dX12_turnAll_108 : decode cX12_turnAll 108 = .ok (.iload_n 2, 1) := by decide +kernel
theorem dX12_turnAll_109 : decode cX12_turnAll 109 = .ok (.invokevirtual 230, 3) := by decide +kernel
theorem dX12_turnAll_112 : decode cX12_turnAll 112 = .ok (.iconst 0, 1) := by decide +kernel
theorem dX12_turnAll_113 : decode cX12_turnAll 113 = .ok (.istore 5, 2) := by decide +kernel
theorem dX12_turnAll_115 : decode cX12_turnAll 115 = .ok (.iload 5, 2) := by decide +kernel
theorem dX12_turnAll_117 : decode cX12_turnAll 117 = .ok (.sipush 2880, 3) := by decide +kernel
theorem dX12_turnAll_120 : decode cX12_turnAll 120 = .ok (.if_icmp .ge 41, 3) := by decide +kernel
theorem dX12_turnAll_123 : decode cX12_turnAll 123 = .ok (.aload_n 0, 1) := by decide +kernel
theorem dX12_turnAll_124 : decode cX12_turnAll 124 = .ok (.getfield 54, 3) := by decide +kernel
theorem dX12_turnAll_127 : decode cX12_turnAll 127 = .ok (.iload 5, 2) := by decide +kernel
theorem dX12_turnAll_129 : decode cX12_turnAll 129 = .ok (.aload_n 0, 1) := by decide +kernel
theorem dX12_turnAll_130 : decode cX12_turnAll 130 = .ok (.getfield 54, 3) := by decide +kernel
theorem dX12_turnAll_133 : decode cX12_turnAll 133 = .ok (.iload 5, 2) := by decide +kernel
theorem dX12_turnAll_135 : decode cX12_turnAll 135 = .ok (.baload, 1) := by decide +kernel
theorem dX12_turnAll_136 : decode cX12_turnAll 136 = .ok (.ifCond .ne 13, 3) := by decide +kernel
theorem dX12_turnAll_139 : decode cX12_turnAll 139 = .ok (.aload_n 0, 1) := by decide +kernel
theorem dX12_turnAll_140 : decode cX12_turnAll 140 = .ok (.getfield 51, 3) := by decide +kernel
theorem dX12_turnAll_143 : decode cX12_turnAll 143 = .ok (.iload 5, 2) := by decide +kernel
theorem dX12_turnAll_145 : decode cX12_turnAll 145 = .ok (.baload, 1) := by decide +kernel
theorem dX12_turnAll_146 : decode cX12_turnAll 146 = .ok (.ifCond .eq 7, 3) := by decide +kernel
theorem dX12_turnAll_149 : decode cX12_turnAll 149 = .ok (.iconst 1, 1) := by decide +kernel
theorem dX12_turnAll_150 : decode cX12_turnAll 150 = .ok (.goto 4, 3) := by decide +kernel
theorem dX12_turnAll_153 : decode cX12_turnAll 153 = .ok (.iconst 0, 1) := by decide +kernel
theorem dX12_turnAll_154 : decode cX12_turnAll 154 = .ok (.bastore, 1) := by decide +kernel
theorem dX12_turnAll_155 : decode cX12_turnAll 155 = .ok (.iinc 5 1, 3) := by decide +kernel
theorem dX12_turnAll_158 : decode cX12_turnAll 158 = .ok (.goto (-43), 3) := by decide +kernel
theorem dX12_turnAll_161 : decode cX12_turnAll 161 = .ok (.iinc 4 1, 3) := by decide +kernel
theorem dX12_turnAll_164 : decode cX12_turnAll 164 = .ok (.goto (-136), 3) := by decide +kernel
theorem dX12_turnAll_167 : decode cX12_turnAll 167 = .ok (.return_, 1) := by decide +kernel
set_option maxRecDepth 20000 in
theorem ggX12_dropAll_X12_findStanding : GoodIn wsX12_dropAll wsX12_findStanding := goodIn_r _ [7, 1, 8, 9, 10, 6, 11, 2, 12, 13, 14, 15, 16, 17, 18, 19, 20, 21, 22, 23, 24, 25, 26, 27, 28, 29, 30, 31, 32, 33, 34, 35, 36, 37, 38, 39, 40, 41, 42, 43, 44, 45, 46, 47, 48, 49, 50, 51, 52, 53, 54, 55, 56, 57, 58, 59, 60, 61, 62, 63, 64] (by decide +kernel) (by decide +kernel)
set_option maxRecDepth 20000 in
theorem gX12_dropAll_X12_findStanding : GoodIn wsX12_dropAll (wsV RX12 240 RX12 yX12_findStanding wsX12_findStanding) := goodIn_app (goodIn_of _ (by decide +kernel)) ggX12_dropAll_X12_findStanding
theorem dX12_dropAll_0 : decode cX12_dropAll 0 = .ok (.aload_n 0, 1) := by decide +kernel
theorem dX12_dropAll_1 : decode cX12_dropAll 1 = .ok (.invokevirtual 240, 3) := by decide +kernel
theorem dX12_dropAll_4 : decode cX12_dropAll 4 = .ok (.iconst 0, 1) := by decide +kernel
theorem dX12_dropAll_5 : decode cX12_dropAll 5 = .ok (.istore_n 1, 1) := by decide +kernel
theorem dX12_dropAll_6 : decode cX12_dropAll 6 = .ok (.iload_n 1, 1) := by decide +kernel
theorem dX12_dropAll_7 : decode cX12_dropAll 7 = .ok (.sipush 2880, 3) := by decide +kernel
theorem dX12_dropAll_10 : decode cX12_dropAll 10 = .ok (.if_icmp .ge 34, 3) := by decide +kernel
theorem dX12_dropAll_13 : decode cX12_dropAll 13 = .ok (.aload_n 0, 1) := by decide +kernel
theorem dX12_dropAll_14 : decode cX12_dropAll 14 = .ok (.getfield 7, 3) := by decide +kernel
theorem dX12_dropAll_17 : decode cX12_dropAll 17 = .ok (.iload_n 1, 1) := by decide +kernel
theorem dX12_dropAll_18 : decode cX12_dropAll 18 = .ok (.aload_n 0, 1) := by decide +kernel
theorem dX12_dropAll_19 : decode cX12_dropAll 19 = .ok (.getfield 45, 3) := by decide +kernel
theorem dX12_dropAll_22 : decode cX12_dropAll 22 = .ok (.iload_n 1, 1) := by decide +kernel
theorem dX12_dropAll_23 : decode cX12_dropAll 23 = .ok (.baload, 1) := by decide +kernel
theorem dX12_dropAll_24 : decode cX12_dropAll 24 = .ok (.ifCond .eq 12, 3) := by decide +kernel
theorem dX12_dropAll_27 : decode cX12_dropAll 27 = .ok (.aload_n 0, 1) := by decide +kernel
theorem dX12_dropAll_28 : decode cX12_dropAll 28 = .ok (.getfield 7, 3) := by decide +kernel
theorem dX12_dropAll_31 : decode cX12_dropAll 31 = .ok (.iload_n 1, 1) := by decide +kernel
theorem dX12_dropAll_32 : decode cX12_dropAll 32 = .ok (.iaload, 1) := by decide +kernel
theorem dX12_dropAll_33 : decode cX12_dropAll 33 = .ok (.goto 4, 3) := by decide +kernel
theorem dX12_dropAll_36 : decode cX12_dropAll 36 = .ok (.iconst 0, 1) := by decide +kernel
theorem dX12_dropAll_37 : decode cX12_dropAll 37 = .ok (.iastore, 1) := by decide +kernel
theorem dX12_dropAll_38 : decode cX12_dropAll 38 = .ok (.iinc 1 1, 3) := by decide +kernel
theorem dX12_dropAll_41 : decode cX12_dropAll 41 = .ok (.goto (-35), 3) := by decide +kernel
theorem dX12_dropAll_44 : decode cX12_dropAll 44 = .ok (.return_, 1) := by decide +kernel
theorem dX12_volumeOf_0 : decode cX12_volumeOf 0 = .ok (.iconst 0, 1) := by decide +kernel
theorem dX12_volumeOf_1 : decode cX12_volumeOf 1 = .ok (.istore_n 2, 1) := by decide +kernel
theorem dX12_volumeOf_2 : decode cX12_volumeOf 2 = .ok (.iconst 0, 1) := by decide +kernel
theorem dX12_volumeOf_3 : decode cX12_volumeOf 3 = .ok (.istore_n 3, 1) := by decide +kernel
theorem dX12_volumeOf_4 : decode cX12_volumeOf 4 = .ok (.iload_n 3, 1) := by decide +kernel
theorem dX12_volumeOf_5 : decode cX12_volumeOf 5 = .ok (.sipush 2880, 3) := by decide +kernel
theorem dX12_volumeOf_8 : decode cX12_volumeOf 8 = .ok (.if_icmp .ge 27, 3) := by decide +kernel
theorem dX12_volumeOf_11 : decode cX12_volumeOf 11 = .ok (.iload_n 2, 1) := by decide +kernel
theorem dX12_volumeOf_12 : decode cX12_volumeOf 12 = .ok (.aload_n 0, 1) := by decide +kernel
theorem dX12_volumeOf_13 : decode cX12_volumeOf 13 = .ok (.getfield 7, 3) := by decide +kernel
theorem dX12_volumeOf_16 : decode cX12_volumeOf 16 = .ok (.iload_n 3, 1) := by decide +kernel
theorem dX12_volumeOf_17 : decode cX12_volumeOf 17 = .ok (.iaload, 1) := by decide +kernel
theorem dX12_volumeOf_18 : decode cX12_volumeOf 18 = .ok (.iload_n 1, 1) := by decide +kernel
theorem dX12_volumeOf_19 : decode cX12_volumeOf 19 = .ok (.if_icmp .ne 7, 3) := by decide +kernel
theorem dX12_volumeOf_22 : decode cX12_volumeOf 22 = .ok (.iconst 1, 1) := by decide +kernel
theorem dX12_volumeOf_23 : decode cX12_volumeOf 23 = .ok (.goto 4, 3) := by decide +kernel
theorem dX12_volumeOf_26 : decode cX12_volumeOf 26 = .ok (.iconst 0, 1) := by decide +kernel
theorem dX12_volumeOf_27 : decode cX12_volumeOf 27 = .ok (.iadd, 1) := by decide +kernel
theorem dX12_volumeOf_28 : decode cX12_volumeOf 28 = .ok (.istore_n 2, 1) := by decide +kernel
theorem dX12_volumeOf_29 : decode cX12_volumeOf 29 = .ok (.iinc 3 1, 3) := by decide +kernel
theorem dX12_volumeOf_32 : decode cX12_volumeOf 32 = .ok (.goto (-28), 3) := by decide +kernel
theorem dX12_volumeOf_35 : decode cX12_volumeOf 35 = .ok (.iload_n 2, 1) := by decide +kernel
theorem dX12_volumeOf_36 : decode cX12_volumeOf 36 = .ok (.ireturn, 1) := by decide +kernel
set_option maxRecDepth 20000 in
theorem ggX12_floating_X12_findStanding : GoodIn wsX12_floating wsX12_findStanding := goodIn_r _ [7, 1, 8, 9, 10, 6, 11, 2, 12, 13, 14, 15, 16, 17, 18, 19, 20, 21, 22, 23, 24, 25, 26, 27, 28, 29, 30, 31, 32, 33, 34, 35, 36, 37, 38, 39, 40, 41, 42, 43, 44, 45, 46, 47, 48, 49, 50, 51, 52, 53, 54, 55, 56, 57, 58, 59, 60, 61, 62, 63, 64] (by decide +kernel) (by decide +kernel)
set_option maxRecDepth 20000 in
theorem gX12_floating_X12_findStanding : GoodIn wsX12_floating (wsV RX12 240 RX12 yX12_findStanding wsX12_findStanding) := goodIn_app (goodIn_of _ (by decide +kernel)) ggX12_floating_X12_findStanding
theorem dX12_floating_0 : decode cX12_floating 0 = .ok (.aload_n 0, 1) := by decide +kernel
theorem dX12_floating_1 : decode cX12_floating 1 = .ok (.invokevirtual 240, 3) := by decide +kernel
theorem dX12_floating_4 : decode cX12_floating 4 = .ok (.iconst 0, 1) := by decide +kernel
theorem dX12_floating_5 : decode cX12_floating 5 = .ok (.istore_n 1, 1) := by decide +kernel
theorem dX12_floating_6 : decode cX12_floating 6 = .ok (.iconst 0, 1) := by decide +kernel
theorem dX12_floating_7 : decode cX12_floating 7 = .ok (.istore_n 2, 1) := by decide +kernel
theorem dX12_floating_8 : decode cX12_floating 8 = .ok (.iload_n 2, 1) := by decide +kernel
theorem dX12_floating_9 : decode cX12_floating 9 = .ok (.sipush 2880, 3) := by decide +kernel
theorem dX12_floating_12 : decode cX12_floating 12 = .ok (.if_icmp .ge 35, 3) := by decide +kernel
theorem dX12_floating_15 : decode cX12_floating 15 = .ok (.iload_n 1, 1) := by decide +kernel
theorem dX12_floating_16 : decode cX12_floating 16 = .ok (.aload_n 0, 1) := by decide +kernel
theorem dX12_floating_17 : decode cX12_floating 17 = .ok (.getfield 7, 3) := by decide +kernel
theorem dX12_floating_20 : decode cX12_floating 20 = .ok (.iload_n 2, 1) := by decide +kernel
theorem dX12_floating_21 : decode cX12_floating 21 = .ok (.iaload, 1) := by decide +kernel
theorem dX12_floating_22 : decode cX12_floating 22 = .ok (.ifCond .le 16, 3) := by decide +kernel
theorem dX12_floating_25 : decode cX12_floating 25 = .ok (.aload_n 0, 1) := by decide +kernel
theorem dX12_floating_26 : decode cX12_floating 26 = .ok (.getfield 45, 3) := by decide +kernel
theorem dX12_floating_29 : decode cX12_floating 29 = .ok (.iload_n 2, 1) := by decide +kernel
theorem dX12_floating_30 : decode cX12_floating 30 = .ok (.baload, 1) := by decide +kernel
theorem dX12_floating_31 : decode cX12_floating 31 = .ok (.ifCond .ne 7, 3) := by decide +kernel
theorem dX12_floating_34 : decode cX12_floating 34 = .ok (.iconst 1, 1) := by decide +kernel
theorem dX12_floating_35 : decode cX12_floating 35 = .ok (.goto 4, 3) := by decide +kernel
theorem dX12_floating_38 : decode cX12_floating 38 = .ok (.iconst 0, 1) := by decide +kernel
theorem dX12_floating_39 : decode cX12_floating 39 = .ok (.iadd, 1) := by decide +kernel
theorem dX12_floating_40 : decode cX12_floating 40 = .ok (.istore_n 1, 1) := by decide +kernel
theorem dX12_floating_41 : decode cX12_floating 41 = .ok (.iinc 2 1, 3) := by decide +kernel
theorem dX12_floating_44 : decode cX12_floating 44 = .ok (.goto (-36), 3) := by decide +kernel
theorem dX12_floating_47 : decode cX12_floating 47 = .ok (.iload_n 1, 1) := by decide +kernel
theorem dX12_floating_48 : decode cX12_floating 48 = .ok (.ireturn, 1) := by decide +kernel
set_option maxRecDepth 20000 in
theorem ggX12_atPlaces_X12_layAt : GoodIn wsX12_atPlaces wsX12_layAt := goodIn_r _ [12, 13, 14, 15, 16, 11, 17, 26, 27, 28, 29, 30, 31, 32, 33, 34, 35, 36, 37, 38, 39, 40, 41, 42, 43, 44, 45, 46, 47, 48, 49, 50, 51, 52, 53, 54, 55, 56, 57, 58, 59, 60, 61, 62, 63, 64, 65] (by decide +kernel) (by decide +kernel)
set_option maxRecDepth 20000 in
theorem gX12_atPlaces_X12_layAt : GoodIn wsX12_atPlaces (wsV RX12 246 RX12 yX12_layAt wsX12_layAt) := goodIn_app (goodIn_of _ (by decide +kernel)) ggX12_atPlaces_X12_layAt
set_option maxRecDepth 20000 in
theorem ggX12_atPlaces_X12_cutAt : GoodIn wsX12_atPlaces wsX12_cutAt := goodIn_r _ [21, 13, 14, 15, 16, 11, 17, 26, 27, 28, 29, 30, 31, 32, 33, 34, 35, 36, 37, 38, 39, 40, 41, 42, 43, 44, 45, 46, 47, 48, 49, 50, 51, 52, 53, 54, 55, 56, 57, 58, 59, 60, 61, 62, 63, 64, 65] (by decide +kernel) (by decide +kernel)
set_option maxRecDepth 20000 in
theorem gX12_atPlaces_X12_cutAt : GoodIn wsX12_atPlaces (wsV RX12 250 RX12 yX12_cutAt wsX12_cutAt) := goodIn_app (goodIn_of _ (by decide +kernel)) ggX12_atPlaces_X12_cutAt
set_option maxRecDepth 20000 in
theorem ggX12_atPlaces_X12_dopeAt : GoodIn wsX12_atPlaces wsX12_dopeAt := goodIn_r _ [25, 13, 14, 15, 16, 11, 17, 26, 27, 28, 29, 30, 31, 32, 33, 34, 35, 36, 37, 38, 39, 40, 41, 42, 43, 44, 45, 46, 47, 48, 49, 50, 51, 52, 53, 54, 55, 56, 57, 58, 59, 60, 61, 62, 63, 64, 65] (by decide +kernel) (by decide +kernel)
set_option maxRecDepth 20000 in
theorem gX12_atPlaces_X12_dopeAt : GoodIn wsX12_atPlaces (wsV RX12 253 RX12 yX12_dopeAt wsX12_dopeAt) := goodIn_app (goodIn_of _ (by decide +kernel)) ggX12_atPlaces_X12_dopeAt
theorem dX12_atPlaces_0 : decode cX12_atPlaces 0 = .ok (.iconst 0, 1) := by decide +kernel
theorem dX12_atPlaces_1 : decode cX12_atPlaces 1 = .ok (.istore_n 2, 1) := by decide +kernel
theorem dX12_atPlaces_2 : decode cX12_atPlaces 2 = .ok (.iload_n 2, 1) := by decide +kernel
theorem dX12_atPlaces_3 : decode cX12_atPlaces 3 = .ok (.sipush 144, 3) := by decide +kernel
theorem dX12_atPlaces_6 : decode cX12_atPlaces 6 = .ok (.if_icmp .ge 123, 3) := by decide +kernel
theorem dX12_atPlaces_9 : decode cX12_atPlaces 9 = .ok (.aload_n 0, 1) := by decide +kernel
theorem dX12_atPlaces_10 : decode cX12_atPlaces 10 = .ok (.getfield 243, 3) := by decide +kernel
theorem dX12_atPlaces_13 : decode cX12_atPlaces 13 = .ok (.ifCond .lt 21, 3) := by decide +kernel
theorem dX12_atPlaces_16 : decode cX12_atPlaces 16 = .ok (.aload_n 0, 1) := by decide +kernel
theorem dX12_atPlaces_17 : decode cX12_atPlaces 17 = .ok (.getfield 13, 3) := by decide +kernel
theorem dX12_atPlaces_20 : decode cX12_atPlaces 20 = .ok (.sipush 144, 3) := by decide +kernel
theorem dX12_atPlaces_23 : decode cX12_atPlaces 23 = .ok (.aload_n 0, 1) := by decide +kernel
theorem dX12_atPlaces_24 : decode cX12_atPlaces 24 = .ok (.getfield 243, 3) := by decide +kernel
theorem dX12_atPlaces_27 : decode cX12_atPlaces 27 = .ok (.imul, 1) := by decide +kernel
theorem dX12_atPlaces_28 : decode cX12_atPlaces 28 = .ok (.iload_n 2, 1) := by decide +kernel
theorem dX12_atPlaces_29 : decode cX12_atPlaces 29 = .ok (.iadd, 1) := by decide +kernel
theorem dX12_atPlaces_30 : decode cX12_atPlaces 30 = .ok (.baload, 1) := by decide +kernel
theorem dX12_atPlaces_31 : decode cX12_atPlaces 31 = .ok (.ifCond .eq 92, 3) := by decide +kernel
theorem dX12_atPlaces_34 : decode cX12_atPlaces 34 = .ok (.aload_n 0, 1) := by decide +kernel
theorem dX12_atPlaces_35 : decode cX12_atPlaces 35 = .ok (.getfield 21, 3) := by decide +kernel
theorem dX12_atPlaces_38 : decode cX12_atPlaces 38 = .ok (.iload_n 1, 1) := by decide +kernel
theorem dX12_atPlaces_39 : decode cX12_atPlaces 39 = .ok (.iaload, 1) := by decide +kernel
theorem dX12_atPlaces_40 : decode cX12_atPlaces 40 = .ok (.iconst 1, 1) := by decide +kernel
theorem dX12_atPlaces_41 : decode cX12_atPlaces 41 = .ok (.if_icmp .ne 23, 3) := by decide +kernel
theorem dX12_atPlaces_44 : decode cX12_atPlaces 44 = .ok (.aload_n 0, 1) := by decide +kernel
theorem dX12_atPlaces_45 : decode cX12_atPlaces 45 = .ok (.iload_n 2, 1) := by decide +kernel
theorem dX12_atPlaces_46 : decode cX12_atPlaces 46 = .ok (.aload_n 0, 1) := by decide +kernel
theorem dX12_atPlaces_47 : decode cX12_atPlaces 47 = .ok (.getfield 24, 3) := by decide +kernel
theorem dX12_atPlaces_50 : decode cX12_atPlaces 50 = .ok (.iload_n 1, 1) := by decide +kernel
theorem dX12_atPlaces_51 : decode cX12_atPlaces 51 = .ok (.iaload, 1) := by decide +kernel
theorem dX12_atPlaces_52 : decode cX12_atPlaces 52 = .ok (.aload_n 0, 1) := by decide +kernel
theorem dX12_atPlaces_53 : decode cX12_atPlaces 53 = .ok (.getfield 30, 3) := by decide +kernel
theorem dX12_atPlaces_56 : decode cX12_atPlaces 56 = .ok (.iload_n 1, 1) := by decide +kernel
theorem dX12_atPlaces_57 : decode cX12_atPlaces 57 = .ok (.iaload, 1) := by decide +kernel
theorem dX12_atPlaces_58 : decode cX12_atPlaces 58 = .ok (.invokevirtual 246, 3) := by decide +kernel
theorem dX12_atPlaces_61 : decode cX12_atPlaces 61 = .ok (.goto 62, 3) := by decide +kernel
theorem dX12_atPlaces_64 : decode cX12_atPlaces 64 = .ok (.aload_n 0, 1) := by decide +kernel
theorem dX12_atPlaces_65 : decode cX12_atPlaces 65 = .ok (.getfield 21, 3) := by decide +kernel
theorem dX12_atPlaces_68 : decode cX12_atPlaces 68 = .ok (.iload_n 1, 1) := by decide +kernel
theorem dX12_atPlaces_69 : decode cX12_atPlaces 69 = .ok (.iaload, 1) := by decide +kernel
theorem dX12_atPlaces_70 : decode cX12_atPlaces 70 = .ok (.iconst 2, 1) := by decide +kernel
theorem dX12_atPlaces_71 : decode cX12_atPlaces 71 = .ok (.if_icmp .ne 23, 3) := by decide +kernel
theorem dX12_atPlaces_74 : decode cX12_atPlaces 74 = .ok (.aload_n 0, 1) := by decide +kernel
theorem dX12_atPlaces_75 : decode cX12_atPlaces 75 = .ok (.iload_n 2, 1) := by decide +kernel
theorem dX12_atPlaces_76 : decode cX12_atPlaces 76 = .ok (.aload_n 0, 1) := by decide +kernel
theorem dX12_atPlaces_77 : decode cX12_atPlaces 77 = .ok (.getfield 33, 3) := by decide +kernel
theorem dX12_atPlaces_80 : decode cX12_atPlaces 80 = .ok (.iload_n 1, 1) := by decide +kernel
theorem dX12_atPlaces_81 : decode cX12_atPlaces 81 = .ok (.iaload, 1) := by decide +kernel
theorem dX12_atPlaces_82 : decode cX12_atPlaces 82 = .ok (.aload_n 0, 1) := by decide +kernel
theorem dX12_atPlaces_83 : decode cX12_atPlaces 83 = .ok (.getfield 30, 3) := by decide +kernel
theorem dX12_atPlaces_86 : decode cX12_atPlaces 86 = .ok (.iload_n 1, 1) := by decide +kernel
theorem dX12_atPlaces_87 : decode cX12_atPlaces 87 = .ok (.iaload, 1) := by decide +kernel
theorem dX12_atPlaces_88 : decode cX12_atPlaces 88 = .ok (.invokevirtual 250, 3) := by decide +kernel
theorem dX12_atPlaces_91 : decode cX12_atPlaces 91 = .ok (.goto 32, 3) := by decide +kernel
theorem dX12_atPlaces_94 : decode cX12_atPlaces 94 = .ok (.aload_n 0, 1) := by decide +kernel
theorem dX12_atPlaces_95 : decode cX12_atPlaces 95 = .ok (.iload_n 2, 1) := by decide +kernel
theorem dX12_atPlaces_96 : decode cX12_atPlaces 96 = .ok (.aload_n 0, 1) := by decide +kernel
theorem dX12_atPlaces_97 : decode cX12_atPlaces 97 = .ok (.getfield 24, 3) := by decide +kernel
theorem dX12_atPlaces_100 : decode cX12_atPlaces 100 = .ok (.iload_n 1, 1) := by decide +kernel
theorem dX12_atPlaces_101 : decode cX12_atPlaces 101 = .ok (.iaload, 1) := by decide +kernel
theorem dX12_atPlaces_102 : decode cX12_atPlaces 102 = .ok (.aload_n 0, 1) := by decide +kernel
theorem dX12_atPlaces_103 : decode cX12_atPlaces 103 = .ok (.getfield 27, 3) := by decide +kernel
theorem dX12_atPlaces_106 : decode cX12_atPlaces 106 = .ok (.iload_n 1, 1) := by decide +kernel
theorem dX12_atPlaces_107 : decode cX12_atPlaces 107 = .ok (.iaload, 1) := by decide +kernel
theorem dX12_atPlaces_108 : decode cX12_atPlaces 108 = .ok (.aload_n 0, 1) := by decide +kernel
theorem dX12_atPlaces_109 : decode cX12_atPlaces 109 = .ok (.getfield 30, 3) := by decide +kernel
theorem dX12_atPlaces_112 : decode cX12_atPlaces 112 = .ok (.iload_n 1, 1) := by decide +kernel
theorem dX12_atPlaces_113 : decode cX12_atPlaces 113 = .ok (.iaload, 1) := by decide +kernel
theorem dX12_atPlaces_114 : decode cX12_atPlaces 114 = .ok (.aload_n 0, 1) := by decide +kernel
theorem dX12_atPlaces_115 : decode cX12_atPlaces 115 = .ok (.getfield 33, 3) := by decide +kernel
theorem dX12_atPlaces_118 : decode cX12_atPlaces 118 = .ok (.iload_n 1, 1) := by decide +kernel
theorem dX12_atPlaces_119 : decode cX12_atPlaces 119 = .ok (.iaload, 1) := by decide +kernel
theorem dX12_atPlaces_120 : decode cX12_atPlaces 120 = .ok (.invokevirtual 253, 3) := by decide +kernel
theorem dX12_atPlaces_123 : decode cX12_atPlaces 123 = .ok (.iinc 2 1, 3) := by decide +kernel
theorem dX12_atPlaces_126 : decode cX12_atPlaces 126 = .ok (.goto (-124), 3) := by decide +kernel
theorem dX12_atPlaces_129 : decode cX12_atPlaces 129 = .ok (.return_, 1) := by decide +kernel
set_option maxRecDepth 20000 in
theorem ggX12_isWanted_X12_volumeOf : GoodIn wsX12_isWanted wsX12_volumeOf := goodIn_r _ [8, 9, 10, 11, 12, 13, 14, 15, 16, 17, 18, 19, 20, 21, 22, 23, 24, 25, 26, 27, 28, 29, 30, 31, 32, 33, 34, 35, 36, 37, 38, 39, 40, 41, 42, 43, 44, 45, 46, 47, 48, 49] (by decide +kernel) (by decide +kernel)
set_option maxRecDepth 20000 in
theorem gX12_isWanted_X12_volumeOf : GoodIn wsX12_isWanted (wsV RX12 257 RX12 yX12_volumeOf wsX12_volumeOf) := goodIn_app (goodIn_of _ (by decide +kernel)) ggX12_isWanted_X12_volumeOf
theorem dX12_isWanted_0 : decode cX12_isWanted 0 = .ok (.aload_n 0, 1) := by decide +kernel
theorem dX12_isWanted_1 : decode cX12_isWanted 1 = .ok (.aload_n 0, 1) := by decide +kernel
theorem dX12_isWanted_2 : decode cX12_isWanted 2 = .ok (.getfield 24, 3) := by decide +kernel
theorem dX12_isWanted_5 : decode cX12_isWanted 5 = .ok (.iload_n 1, 1) := by decide +kernel
theorem dX12_isWanted_6 : decode cX12_isWanted 6 = .ok (.iaload, 1) := by decide +kernel
theorem dX12_isWanted_7 : decode cX12_isWanted 7 = .ok (.invokevirtual 257, 3) := by decide +kernel
theorem dX12_isWanted_10 : decode cX12_isWanted 10 = .ok (.istore_n 2, 1) := by decide +kernel
theorem dX12_isWanted_11 : decode cX12_isWanted 11 = .ok (.bipush 10, 2) := by decide +kernel
theorem dX12_isWanted_13 : decode cX12_isWanted 13 = .ok (.aload_n 0, 1) := by decide +kernel
theorem dX12_isWanted_14 : decode cX12_isWanted 14 = .ok (.getfield 30, 3) := by decide +kernel
theorem dX12_isWanted_17 : decode cX12_isWanted 17 = .ok (.iload_n 1, 1) := by decide +kernel
theorem dX12_isWanted_18 : decode cX12_isWanted 18 = .ok (.iaload, 1) := by decide +kernel
theorem dX12_isWanted_19 : decode cX12_isWanted 19 = .ok (.imul, 1) := by decide +kernel
theorem dX12_isWanted_20 : decode cX12_isWanted 20 = .ok (.istore_n 3, 1) := by decide +kernel
theorem dX12_isWanted_21 : decode cX12_isWanted 21 = .ok (.aload_n 0, 1) := by decide +kernel
theorem dX12_isWanted_22 : decode cX12_isWanted 22 = .ok (.getfield 27, 3) := by decide +kernel
theorem dX12_isWanted_25 : decode cX12_isWanted 25 = .ok (.iload_n 1, 1) := by decide +kernel
theorem dX12_isWanted_26 : decode cX12_isWanted 26 = .ok (.iaload, 1) := by decide +kernel
theorem dX12_isWanted_27 : decode cX12_isWanted 27 = .ok (.bipush 61, 2) := by decide +kernel
theorem dX12_isWanted_29 : decode cX12_isWanted 29 = .ok (.if_icmp .ne 16, 3) := by decide +kernel
theorem dX12_isWanted_32 : decode cX12_isWanted 32 = .ok (.iload_n 2, 1) := by decide +kernel
theorem dX12_isWanted_33 : decode cX12_isWanted 33 = .ok (.iload_n 3, 1) := by decide +kernel
theorem dX12_isWanted_34 : decode cX12_isWanted 34 = .ok (.if_icmp .ne 7, 3) := by decide +kernel
theorem dX12_isWanted_37 : decode cX12_isWanted 37 = .ok (.iconst 1, 1) := by decide +kernel
theorem dX12_isWanted_38 : decode cX12_isWanted 38 = .ok (.goto 41, 3) := by decide +kernel
theorem dX12_isWanted_41 : decode cX12_isWanted 41 = .ok (.iconst 0, 1) := by decide +kernel
theorem dX12_isWanted_42 : decode cX12_isWanted 42 = .ok (.goto 37, 3) := by decide +kernel
theorem dX12_isWanted_45 : decode cX12_isWanted 45 = .ok (.aload_n 0, 1) := by decide +kernel
theorem dX12_isWanted_46 : decode cX12_isWanted 46 = .ok (.getfield 27, 3) := by decide +kernel
theorem dX12_isWanted_49 : decode cX12_isWanted 49 = .ok (.iload_n 1, 1) := by decide +kernel
theorem dX12_isWanted_50 : decode cX12_isWanted 50 = .ok (.iaload, 1) := by decide +kernel
theorem dX12_isWanted_51 : decode cX12_isWanted 51 = .ok (.bipush 60, 2) := by decide +kernel
theorem dX12_isWanted_53 : decode cX12_isWanted 53 = .ok (.if_icmp .ne 16, 3) := by decide +kernel
theorem dX12_isWanted_56 : decode cX12_isWanted 56 = .ok (.iload_n 2, 1) := by decide +kernel
theorem dX12_isWanted_57 : decode cX12_isWanted 57 = .ok (.iload_n 3, 1) := by decide +kernel
theorem dX12_isWanted_58 : decode cX12_isWanted 58 = .ok (.if_icmp .ge 7, 3) := by decide +kernel
theorem dX12_isWanted_61 : decode cX12_isWanted 61 = .ok (.iconst 1, 1) := by decide +kernel
theorem dX12_isWanted_62 : decode cX12_isWanted 62 = .ok (.goto 17, 3) := by decide +kernel
theorem dX12_isWanted_65 : decode cX12_isWanted 65 = .ok (.iconst 0, 1) := by decide +kernel
theorem dX12_isWanted_66 : decode cX12_isWanted 66 = .ok (.goto 13, 3) := by decide +kernel
theorem dX12_isWanted_69 : decode cX12_isWanted 69 = .ok (.iload_n 2, 1) := by decide +kernel
theorem dX12_isWanted_70 : decode cX12_isWanted 70 = .ok (.iload_n 3, 1) := by decide +kernel
theorem dX12_isWanted_71 : decode cX12_isWanted 71 = .ok (.if_icmp .le 7, 3) := by decide +kernel
theorem dX12_isWanted_74 : decode cX12_isWanted 74 = .ok (.iconst 1, 1) := by decide +kernel
theorem dX12_isWanted_75 : decode cX12_isWanted 75 = .ok (.goto 4, 3) := by decide +kernel
theorem dX12_isWanted_78 : decode cX12_isWanted 78 = .ok (.iconst 0, 1) := by decide +kernel
theorem dX12_isWanted_79 : decode cX12_isWanted 79 = .ok (.ireturn, 1) := by decide +kernel
set_option maxRecDepth 20000 in
theorem ggX12_doStep_X12_atPlaces : GoodIn wsX12_doStep wsX12_atPlaces := goodIn_r _ [13, 8, 14, 1, 2, 3, 4, 5, 15, 16, 17, 12, 18, 6, 19, 20, 21, 22, 23, 24, 25, 26, 27, 28, 29, 30, 98, 99, 100, 101, 102, 103, 104, 105, 106, 107, 108, 109, 110, 111, 112, 113, 114, 115, 116, 117, 118, 119, 120, 121, 122, 123, 124, 125, 126, 127, 128, 129, 130, 131, 132, 133, 134, 135, 136, 137] (by decide +kernel) (by decide +kernel)
set_option maxRecDepth 20000 in
theorem gX12_doStep_X12_atPlaces : GoodIn wsX12_doStep (wsV RX12 260 RX12 yX12_atPlaces wsX12_atPlaces) := goodIn_app (goodIn_of _ (by decide +kernel)) ggX12_doStep_X12_atPlaces
set_option maxRecDepth 20000 in
theorem ggX12_doStep_X12_coat : GoodIn wsX12_doStep wsX12_coat := goodIn_r _ [34, 35, 7, 36, 37, 38, 12, 39, 6, 40, 41, 42, 43, 44, 45, 46, 47, 48, 49, 50, 51, 52, 53, 54, 55, 56, 57, 58, 59, 60, 61, 62, 63, 64, 98, 99, 100, 101, 102, 103, 104, 105, 106, 107, 108, 109, 110, 111, 112, 113, 114, 115, 116, 117, 118, 119, 120, 121, 122, 123, 124, 125, 126, 127, 128, 129, 130, 131, 132, 133, 134, 135, 136, 137] (by decide +kernel) (by decide +kernel)
set_option maxRecDepth 20000 in
theorem gX12_doStep_X12_coat : GoodIn wsX12_doStep (wsV RX12 263 RX12 yX12_coat wsX12_coat) := goodIn_app (goodIn_of _ (by decide +kernel)) ggX12_doStep_X12_coat
set_option maxRecDepth 20000 in
theorem ggX12_doStep_X12_chooseBare : GoodIn wsX12_doStep wsX12_chooseBare := goodIn_r _ [68, 35, 6, 7, 36, 37, 38, 12, 39, 40, 41, 42, 43, 44, 45, 46, 47, 48, 49, 50, 51, 52, 53, 54, 55, 56, 69, 70, 71, 72, 98, 99, 100, 101, 102, 103, 104, 105, 106, 107, 108, 109, 110, 111, 112, 113, 114, 115, 116, 117, 118, 119, 120, 121, 122, 123, 124, 125, 126, 127, 128, 129, 130, 131, 132, 133, 134, 135, 136, 137] (by decide +kernel) (by decide +kernel)
set_option maxRecDepth 20000 in
theorem gX12_doStep_X12_chooseBare : GoodIn wsX12_doStep (wsV RX12 237 RX12 yX12_chooseBare wsX12_chooseBare) := goodIn_app (goodIn_of _ (by decide +kernel)) ggX12_doStep_X12_chooseBare
set_option maxRecDepth 20000 in
theorem ggX12_doStep_X12_change : GoodIn wsX12_doStep wsX12_change := goodIn_r _ [64, 6, 35, 98, 99, 100, 101, 102, 103, 104, 105, 106, 107, 108, 109, 110, 111, 112, 113, 114, 115, 116, 117, 118, 119, 120, 121, 122, 123, 124, 125, 126, 127, 128, 129, 130, 131, 132, 133, 134, 135, 136, 137] (by decide +kernel) (by decide +kernel)
set_option maxRecDepth 20000 in
theorem gX12_doStep_X12_change : GoodIn wsX12_doStep (wsV RX12 230 RX12 yX12_change wsX12_change) := goodIn_app (goodIn_of _ (by decide +kernel)) ggX12_doStep_X12_change
set_option maxRecDepth 20000 in
theorem ggX12_doStep_X12_turnAll : GoodIn wsX12_doStep wsX12_turnAll := goodIn_r _ [76, 77, 35, 6, 65, 66, 67, 12, 68, 7, 36, 37, 38, 39, 40, 41, 42, 43, 44, 45, 46, 47, 48, 49, 50, 51, 52, 53, 54, 55, 56, 69, 70, 71, 72, 61, 62, 63, 64, 98, 99, 100, 101, 102, 103, 104, 105, 106, 107, 108, 109, 110, 111, 112, 113, 114, 115, 116, 117, 118, 119, 120, 121, 122, 123, 124, 125, 126, 127, 128, 129, 130, 131, 132, 133, 134, 135, 136, 137] (by decide +kernel) (by decide +kernel)
set_option maxRecDepth 20000 in
theorem gX12_doStep_X12_turnAll : GoodIn wsX12_doStep (wsV RX12 266 RX12 yX12_turnAll wsX12_turnAll) := goodIn_app (goodIn_of _ (by decide +kernel)) ggX12_doStep_X12_turnAll
set_option maxRecDepth 20000 in
theorem ggX12_doStep_X12_findOpen : GoodIn wsX12_doStep wsX12_findOpen := goodIn_r _ [39, 6, 40, 41, 42, 12, 43, 7, 44, 45, 46, 47, 48, 49, 50, 51, 52, 53, 54, 55, 56, 98, 99, 100, 101, 102, 103, 104, 105, 106, 107, 108, 109, 110, 111, 112, 113, 114, 115, 116, 117, 118, 119, 120, 121, 122, 123, 124, 125, 126, 127, 128, 129, 130, 131, 132, 133, 134, 135, 136, 137] (by decide +kernel) (by decide +kernel)
set_option maxRecDepth 20000 in
theorem gX12_doStep_X12_findOpen : GoodIn wsX12_doStep (wsV RX12 223 RX12 yX12_findOpen wsX12_findOpen) := goodIn_app (goodIn_of _ (by decide +kernel)) ggX12_doStep_X12_findOpen
set_option maxRecDepth 20000 in
theorem ggX12_doStep_X12_dropAll : GoodIn wsX12_doStep wsX12_dropAll := goodIn_r _ [81, 6, 7, 82, 83, 84, 12, 85, 40, 41, 42, 43, 44, 45, 46, 47, 48, 49, 50, 51, 52, 53, 54, 55, 56, 98, 99, 100, 101, 102, 103, 104, 105, 106, 107, 108, 109, 110, 111, 112, 113, 114, 115, 116, 117, 118, 119, 120, 121, 122, 123, 124, 125, 126, 127, 128, 129, 130, 131, 132, 133, 134, 135, 136, 137] (by decide +kernel) (by decide +kernel)
set_option maxRecDepth 20000 in
theorem gX12_doStep_X12_dropAll : GoodIn wsX12_doStep (wsV RX12 269 RX12 yX12_dropAll wsX12_dropAll) := goodIn_app (goodIn_of _ (by decide +kernel)) ggX12_doStep_X12_dropAll
set_option maxRecDepth 20000 in
theorem ggX12_doStep_X12_isWanted : GoodIn wsX12_doStep wsX12_isWanted := goodIn_r _ [89, 2, 3, 5, 90, 91, 92, 12, 93, 6, 98, 99, 100, 101, 102, 103, 104, 105, 106, 107, 108, 109, 110, 111, 112, 113, 114, 115, 116, 117, 118, 119, 120, 121, 122, 123, 124, 125, 126, 127, 128, 129, 130, 131, 132, 133, 134, 135, 136, 137] (by decide +kernel) (by decide +kernel)
set_option maxRecDepth 20000 in
theorem gX12_doStep_X12_isWanted : GoodIn wsX12_doStep (wsV RX12 272 RX12 yX12_isWanted wsX12_isWanted) := goodIn_app (goodIn_of _ (by decide +kernel)) ggX12_doStep_X12_isWanted
set_option maxRecDepth 20000 in
theorem ggX12_doStep_X12_floating : GoodIn wsX12_doStep wsX12_floating := goodIn_r _ [97, 6, 7, 82, 83, 84, 12, 85, 40, 41, 42, 43, 44, 45, 46, 47, 48, 49, 50, 51, 52, 53, 54, 55, 56, 98, 99, 100, 101, 102, 103, 104, 105, 106, 107, 108, 109, 110, 111, 112, 113, 114, 115, 116, 117, 118, 119, 120, 121, 122, 123, 124, 125, 126, 127, 128, 129, 130, 131, 132, 133, 134, 135, 136, 137] (by decide +kernel) (by decide +kernel)
set_option maxRecDepth 20000 in
theorem gX12_doStep_X12_floating : GoodIn wsX12_doStep (wsV RX12 275 RX12 yX12_floating wsX12_floating) := goodIn_app (goodIn_of _ (by decide +kernel)) ggX12_doStep_X12_floating
theorem dX12_doStep_0 : decode cX12_doStep 0 = .ok (.aload_n 0, 1) := by decide +kernel
theorem dX12_doStep_1 : decode cX12_doStep 1 = .ok (.getfield 21, 3) := by decide +kernel
theorem dX12_doStep_4 : decode cX12_doStep 4 = .ok (.iload_n 1, 1) := by decide +kernel
theorem dX12_doStep_5 : decode cX12_doStep 5 = .ok (.iaload, 1) := by decide +kernel
theorem dX12_doStep_6 : decode cX12_doStep 6 = .ok (.tableswitch 285 1 12 #[62, 62, 62, 70, 89, 125, 150, 209, 243, 250, 263, 271], 62) := by decide +kernel
theorem dX12_doStep_68 : decode cX12_doStep 68 = .ok (.aload_n 0, 1) := by decide +kernel
theorem dX12_doStep_69 : decode cX12_doStep 69 = .ok (.iload_n 1, 1) := by decide +kernel
theorem dX12_doStep_70 : decode cX12_doStep 70 = .ok (.invokevirtual 260, 3) := by decide +kernel
theorem dX12_doStep_73 : decode cX12_doStep 73 = .ok (.goto 231, 3) := by decide +kernel
theorem dX12_doStep_76 : decode cX12_doStep 76 = .ok (.aload_n 0, 1) := by decide +kernel
theorem dX12_doStep_77 : decode cX12_doStep 77 = .ok (.aload_n 0, 1) := by decide +kernel
theorem dX12_doStep_78 : decode cX12_doStep 78 = .ok (.getfield 24, 3) := by decide +kernel
theorem dX12_doStep_81 : decode cX12_doStep 81 = .ok (.iload_n 1, 1) := by decide +kernel
theorem dX12_doStep_82 : decode cX12_doStep 82 = .ok (.iaload, 1) := by decide +kernel
theorem dX12_doStep_83 : decode cX12_doStep 83 = .ok (.aload_n 0, 1) := by decide +kernel
theorem dX12_doStep_84 : decode cX12_doStep 84 = .ok (.getfield 30, 3) := by decide +kernel
theorem dX12_doStep_87 : decode cX12_doStep 87 = .ok (.iload_n 1, 1) := by decide +kernel
theorem dX12_doStep_88 : decode cX12_doStep 88 = .ok (.iaload, 1) := by decide +kernel
theorem dX12_doStep_89 : decode cX12_doStep 89 = .ok (.invokevirtual 263, 3) := by decide +kernel
theorem dX12_doStep_92 : decode cX12_doStep 92 = .ok (.goto 212, 3) := by decide +kernel
theorem dX12_doStep_95 : decode cX12_doStep 95 = .ok (.iconst 0, 1) := by decide +kernel
theorem dX12_doStep_96 : decode cX12_doStep 96 = .ok (.istore_n 2, 1) := by decide +kernel
theorem dX12_doStep_97 : decode cX12_doStep 97 = .ok (.iload_n 2, 1) := by decide +kernel
theorem dX12_doStep_98 : decode cX12_doStep 98 = .ok (.aload_n 0, 1) := by decide +kernel
theorem dX12_doStep_99 : decode cX12_doStep 99 = .ok (.getfield 30, 3) := by decide +kernel
theorem dX12_doStep_102 : decode cX12_doStep 102 = .ok (.iload_n 1, 1) := by decide +kernel
theorem dX12_doStep_103 : decode cX12_doStep 103 = .ok (.iaload, 1) := by decide +kernel
theorem dX12_doStep_104 : decode cX12_doStep 104 = .ok (.if_icmp .ge 24, 3) := by decide +kernel
theorem dX12_doStep_107 : decode cX12_doStep 107 = .ok (.aload_n 0, 1) := by decide +kernel
theorem dX12_doStep_108 : decode cX12_doStep 108 = .ok (.aload_n 0, 1) := by decide +kernel
theorem dX12_doStep_109 : decode cX12_doStep 109 = .ok (.getfield 33, 3) := by decide +kernel
theorem dX12_doStep_112 : decode cX12_doStep 112 = .ok (.iload_n 1, 1) := by decide +kernel
theorem dX12_doStep_113 : decode cX12_doStep 113 = .ok (.iaload, 1) := by decide +kernel
theorem dX12_doStep_114 : decode cX12_doStep 114 = .ok (.invokevirtual 237, 3) := by decide +kernel
theorem dX12_doStep_117 : decode cX12_doStep 117 = .ok (.aload_n 0, 1) := by decide +kernel
theorem dX12_doStep_118 : decode cX12_doStep 118 = .ok (.iconst 0, 1) := by decide +kernel
theorem dX12_doStep_119 : decode cX12_doStep 119 = .ok (.invokevirtual 230, 3) := by decide +kernel
theorem dX12_doStep_122 : decode cX12_doStep 122 = .ok (.iinc 2 1, 3) := by decide +kernel
theorem dX12_doStep_125 : decode cX12_doStep 125 = .ok (.goto (-28), 3) := by decide +kernel
theorem dX12_doStep_128 : decode cX12_doStep 128 = .ok (.goto 176, 3) := by decide +kernel
theorem dX12_doStep_131 : decode cX12_doStep 131 = .ok (.aload_n 0, 1) := by decide +kernel
theorem dX12_doStep_132 : decode cX12_doStep 132 = .ok (.aload_n 0, 1) := by decide +kernel
theorem dX12_doStep_133 : decode cX12_doStep 133 = .ok (.getfield 24, 3) := by decide +kernel
theorem dX12_doStep_136 : decode cX12_doStep 136 = .ok (.iload_n 1, 1) := by decide +kernel
theorem dX12_doStep_137 : decode cX12_doStep 137 = .ok (.iaload, 1) := by decide +kernel
theorem dX12_doStep_138 : decode cX12_doStep 138 = .ok (.aload_n 0, 1) := by decide +kernel
theorem dX12_doStep_139 : decode cX12_doStep 139 = .ok (.getfield 27, 3) := by decide +kernel
theorem dX12_doStep_142 : decode cX12_doStep 142 = .ok (.iload_n 1, 1) := by decide +kernel
theorem dX12_doStep_143 : decode cX12_doStep 143 = .ok (.iaload, 1) := by decide +kernel
theorem dX12_doStep_144 : decode cX12_doStep 144 = .ok (.aload_n 0, 1) := by decide +kernel
theorem dX12_doStep_145 : decode cX12_doStep 145 = .ok (.getfield 30, 3) := by decide +kernel
theorem dX12_doStep_148 : decode cX12_doStep 148 = .ok (.iload_n 1, 1) := by decide +kernel
theorem dX12_doStep_149 : decode cX12_doStep 149 = .ok (.iaload, 1) := by decide +kernel
theorem dX12_doStep_150 : decode cX12_doStep 150 = .ok (.invokevirtual 266, 3) := by decide +kernel
theorem dX12_doStep_153 : decode cX12_doStep 153 = .ok (.goto 151, 3) := by decide +kernel
theorem dX12_doStep_156 : decode cX12_doStep 156 = .ok (.aload_n 0, 1) := by decide +kernel
theorem dX12_doStep_157 : decode cX12_doStep 157 = .ok (.invokevirtual 223, 3) := by decide +kernel
theorem dX12_doStep_160 : decode cX12_doStep 160 = .ok (.iconst 0, 1) := by decide +kernel
theorem dX12_doStep_161 : decode cX12_doStep 161 = .ok (.istore_n 2, 1) := by decide +kernel
theorem dX12_doStep_162 : decode cX12_doStep 162 = .ok (.iload_n 2, 1) := by decide +kernel
theorem dX12_doStep_163 : decode cX12_doStep 163 = .ok (.sipush 144, 3) := by decide +kernel
theorem dX12_doStep_166 : decode cX12_doStep 166 = .ok (.aload_n 0, 1) := by decide +kernel
theorem dX12_doStep_167 : decode cX12_doStep 167 = .ok (.getfield 30, 3) := by decide +kernel
theorem dX12_doStep_170 : decode cX12_doStep 170 = .ok (.iload_n 1, 1) := by decide +kernel
theorem dX12_doStep_171 : decode cX12_doStep 171 = .ok (.iaload, 1) := by decide +kernel
theorem dX12_doStep_172 : decode cX12_doStep 172 = .ok (.imul, 1) := by decide +kernel
theorem dX12_doStep_173 : decode cX12_doStep 173 = .ok (.if_icmp .ge 39, 3) := by decide +kernel
theorem dX12_doStep_176 : decode cX12_doStep 176 = .ok (.aload_n 0, 1) := by decide +kernel
theorem dX12_doStep_177 : decode cX12_doStep 177 = .ok (.getfield 7, 3) := by decide +kernel
theorem dX12_doStep_180 : decode cX12_doStep 180 = .ok (.iload_n 2, 1) := by decide +kernel
theorem dX12_doStep_181 : decode cX12_doStep 181 = .ok (.aload_n 0, 1) := by decide +kernel
theorem dX12_doStep_182 : decode cX12_doStep 182 = .ok (.getfield 45, 3) := by decide +kernel
theorem dX12_doStep_185 : decode cX12_doStep 185 = .ok (.iload_n 2, 1) := by decide +kernel
theorem dX12_doStep_186 : decode cX12_doStep 186 = .ok (.baload, 1) := by decide +kernel
theorem dX12_doStep_187 : decode cX12_doStep 187 = .ok (.ifCond .eq 12, 3) := by decide +kernel
theorem dX12_doStep_190 : decode cX12_doStep 190 = .ok (.aload_n 0, 1) := by decide +kernel
theorem dX12_doStep_191 : decode cX12_doStep 191 = .ok (.getfield 24, 3) := by decide +kernel
theorem dX12_doStep_194 : decode cX12_doStep 194 = .ok (.iload_n 1, 1) := by decide +kernel
theorem dX12_doStep_195 : decode cX12_doStep 195 = .ok (.iaload, 1) := by decide +kernel
theorem dX12_doStep_196 : decode cX12_doStep 196 = .ok (.goto 9, 3) := by decide +kernel
theorem dX12_doStep_199 : decode cX12_doStep 199 = .ok (.aload_n 0, 1) := by decide +kernel
theorem dX12_doStep_200 : decode cX12_doStep 200 = .ok (.getfield 7, 3) := by decide +kernel
theorem dX12_doStep_203 : decode cX12_doStep 203 = .ok (.iload_n 2, 1) := by decide +kernel
theorem dX12_doStep_204 : decode cX12_doStep 204 = .ok (.iaload, 1) := by decide +kernel
theorem dX12_doStep_205 : decode cX12_doStep 205 = .ok (.iastore, 1) := by decide +kernel
theorem dX12_doStep_206 : decode cX12_doStep 206 = .ok (.iinc 2 1, 3) := by decide +kernel
theorem dX12_doStep_209 : decode cX12_doStep 209 = .ok (.goto (-47), 3) := by decide +kernel
theorem dX12_doStep_212 : decode cX12_doStep 212 = .ok (.goto 92, 3) := by decide +kernel
theorem dX12_doStep_215 : decode cX12_doStep 215 = .ok (.sipush 144, 3) := by decide +kernel
theorem dX12_doStep_218 : decode cX12_doStep 218 = .ok (.aload_n 0, 1) := by decide +kernel
theorem dX12_doStep_219 : decode cX12_doStep 219 = .ok (.getfield 30, 3) := by decide +kernel
theorem dX12_doStep_222 : decode cX12_doStep 222 = .ok (.iload_n 1, 1) := by decide +kernel
theorem dX12_doStep_223 : decode cX12_doStep 223 = .ok (.iaload, 1) := by decide +kernel
theorem dX12_doStep_224 : decode cX12_doStep 224 = .ok (.imul, 1) := by decide +kernel
theorem dX12_doStep_225 : decode cX12_doStep 225 = .ok (.istore_n 2, 1) := by decide +kernel
theorem dX12_doStep_226 : decode cX12_doStep 226 = .ok (.iload_n 2, 1) := by decide +kernel
theorem dX12_doStep_227 : decode cX12_doStep 227 = .ok (.sipush 2880, 3) := by decide +kernel
theorem dX12_doStep_230 : decode cX12_doStep 230 = .ok (.if_icmp .ge 16, 3) := by decide +kernel
theorem dX12_doStep_233 : decode cX12_doStep 233 = .ok (.aload_n 0, 1) := by decide +kernel
theorem dX12_doStep_234 : decode cX12_doStep 234 = .ok (.getfield 7, 3) := by decide +kernel
theorem dX12_doStep_237 : decode cX12_doStep 237 = .ok (.iload_n 2, 1) := by decide +kernel
theorem dX12_doStep_238 : decode cX12_doStep 238 = .ok (.iconst 0, 1) := by decide +kernel
theorem dX12_doStep_239 : decode cX12_doStep 239 = .ok (.iastore, 1) := by decide +kernel
theorem dX12_doStep_240 : decode cX12_doStep 240 = .ok (.iinc 2 1, 3) := by decide +kernel
theorem dX12_doStep_243 : decode cX12_doStep 243 = .ok (.goto (-17), 3) := by decide +kernel
theorem dX12_doStep_246 : decode cX12_doStep 246 = .ok (.goto 58, 3) := by decide +kernel
theorem dX12_doStep_249 : decode cX12_doStep 249 = .ok (.aload_n 0, 1) := by decide +kernel
theorem dX12_doStep_250 : decode cX12_doStep 250 = .ok (.invokevirtual 269, 3) := by decide +kernel
theorem dX12_doStep_253 : decode cX12_doStep 253 = .ok (.goto 51, 3) := by decide +kernel
theorem dX12_doStep_256 : decode cX12_doStep 256 = .ok (.aload_n 0, 1) := by decide +kernel
theorem dX12_doStep_257 : decode cX12_doStep 257 = .ok (.aload_n 0, 1) := by decide +kernel
theorem dX12_doStep_258 : decode cX12_doStep 258 = .ok (.getfield 30, 3) := by decide +kernel
theorem dX12_doStep_261 : decode cX12_doStep 261 = .ok (.iload_n 1, 1) := by decide +kernel
theorem dX12_doStep_262 : decode cX12_doStep 262 = .ok (.iaload, 1) := by decide +kernel
theorem dX12_doStep_263 : decode cX12_doStep 263 = .ok (.putfield 243, 3) := by decide +kernel
theorem dX12_doStep_266 : decode cX12_doStep 266 = .ok (.goto 38, 3) := by decide +kernel
theorem dX12_doStep_269 : decode cX12_doStep 269 = .ok (.aload_n 0, 1) := by decide +kernel
theorem dX12_doStep_270 : decode cX12_doStep 270 = .ok (.iconst (-1), 1) := by decide +kernel
theorem dX12_doStep_271 : decode cX12_doStep 271 = .ok (.putfield 243, 3) := by decide +kernel
theorem dX12_doStep_274 : decode cX12_doStep 274 = .ok (.goto 30, 3) := by decide +kernel
theorem dX12_doStep_277 : decode cX12_doStep 277 = .ok (.aload_n 0, 1) := by decide +kernel
theorem dX12_doStep_278 : decode cX12_doStep 278 = .ok (.iload_n 1, 1) := by decide +kernel
theorem dX12_doStep_279 : decode cX12_doStep 279 = .ok (.invokevirtual 272, 3) := by decide +kernel
theorem dX12_doStep_282 : decode cX12_doStep 282 = .ok (.ifCond .eq 7, 3) := by decide +kernel
theorem dX12_doStep_285 : decode cX12_doStep 285 = .ok (.iconst 0, 1) := by decide +kernel
theorem dX12_doStep_286 : decode cX12_doStep 286 = .ok (.goto 4, 3) := by decide +kernel
theorem dX12_doStep_289 : decode cX12_doStep 289 = .ok (.iconst 1, 1) := by decide +kernel
theorem dX12_doStep_290 : decode cX12_doStep 290 = .ok (.ireturn, 1) := by decide +kernel
theorem dX12_doStep_291 : decode cX12_doStep 291 = .ok (.aload_n 0, 1) := by decide +kernel
theorem dX12_doStep_292 : decode cX12_doStep 292 = .ok (.invokevirtual 275, 3) := by decide +kernel
theorem dX12_doStep_295 : decode cX12_doStep 295 = .ok (.ifCond .ne 7, 3) := by decide +kernel
theorem dX12_doStep_298 : decode cX12_doStep 298 = .ok (.iconst 0, 1) := by decide +kernel
theorem dX12_doStep_299 : decode cX12_doStep 299 = .ok (.goto 4, 3) := by decide +kernel
theorem dX12_doStep_302 : decode cX12_doStep 302 = .ok (.iconst 2, 1) := by decide +kernel
theorem dX12_doStep_303 : decode cX12_doStep 303 = .ok (.ireturn, 1) := by decide +kernel
theorem dX12_doStep_304 : decode cX12_doStep 304 = .ok (.iconst 0, 1) := by decide +kernel
theorem dX12_doStep_305 : decode cX12_doStep 305 = .ok (.ireturn, 1) := by decide +kernel
theorem dX12_keep_0 : decode cX12_keep 0 = .ok (.aload_n 0, 1) := by decide +kernel
theorem dX12_keep_1 : decode cX12_keep 1 = .ok (.getfield 278, 3) := by decide +kernel
theorem dX12_keep_4 : decode cX12_keep 4 = .ok (.bipush 6, 2) := by decide +kernel
theorem dX12_keep_6 : decode cX12_keep 6 = .ok (.if_icmp .ne 39, 3) := by decide +kernel
theorem dX12_keep_9 : decode cX12_keep 9 = .ok (.iconst 0, 1) := by decide +kernel
theorem dX12_keep_10 : decode cX12_keep 10 = .ok (.istore_n 1, 1) := by decide +kernel
theorem dX12_keep_11 : decode cX12_keep 11 = .ok (.iload_n 1, 1) := by decide +kernel
theorem dX12_keep_12 : decode cX12_keep 12 = .ok (.sipush 14400, 3) := by decide +kernel
theorem dX12_keep_15 : decode cX12_keep 15 = .ok (.if_icmp .ge 25, 3) := by decide +kernel
theorem dX12_keep_18 : decode cX12_keep 18 = .ok (.aload_n 0, 1) := by decide +kernel
theorem dX12_keep_19 : decode cX12_keep 19 = .ok (.getfield 60, 3) := by decide +kernel
theorem dX12_keep_22 : decode cX12_keep 22 = .ok (.iload_n 1, 1) := by decide +kernel
theorem dX12_keep_23 : decode cX12_keep 23 = .ok (.aload_n 0, 1) := by decide +kernel
theorem dX12_keep_24 : decode cX12_keep 24 = .ok (.getfield 60, 3) := by decide +kernel
theorem dX12_keep_27 : decode cX12_keep 27 = .ok (.iload_n 1, 1) := by decide +kernel
theorem dX12_keep_28 : decode cX12_keep 28 = .ok (.sipush 2880, 3) := by decide +kernel
theorem dX12_keep_31 : decode cX12_keep 31 = .ok (.iadd, 1) := by decide +kernel
theorem dX12_keep_32 : decode cX12_keep 32 = .ok (.iaload, 1) := by decide +kernel
theorem dX12_keep_33 : decode cX12_keep 33 = .ok (.iastore, 1) := by decide +kernel
theorem dX12_keep_34 : decode cX12_keep 34 = .ok (.iinc 1 1, 3) := by decide +kernel
theorem dX12_keep_37 : decode cX12_keep 37 = .ok (.goto (-26), 3) := by decide +kernel
theorem dX12_keep_40 : decode cX12_keep 40 = .ok (.aload_n 0, 1) := by decide +kernel
theorem dX12_keep_41 : decode cX12_keep 41 = .ok (.iconst 5, 1) := by decide +kernel
theorem dX12_keep_42 : decode cX12_keep 42 = .ok (.putfield 278, 3) := by decide +kernel
theorem dX12_keep_45 : decode cX12_keep 45 = .ok (.iconst 0, 1) := by decide +kernel
theorem dX12_keep_46 : decode cX12_keep 46 = .ok (.istore_n 1, 1) := by decide +kernel
theorem dX12_keep_47 : decode cX12_keep 47 = .ok (.iload_n 1, 1) := by decide +kernel
theorem dX12_keep_48 : decode cX12_keep 48 = .ok (.sipush 2880, 3) := by decide +kernel
theorem dX12_keep_51 : decode cX12_keep 51 = .ok (.if_icmp .ge 30, 3) := by decide +kernel
theorem dX12_keep_54 : decode cX12_keep 54 = .ok (.aload_n 0, 1) := by decide +kernel
theorem dX12_keep_55 : decode cX12_keep 55 = .ok (.getfield 60, 3) := by decide +kernel
theorem dX12_keep_58 : decode cX12_keep 58 = .ok (.sipush 2880, 3) := by decide +kernel
theorem dX12_keep_61 : decode cX12_keep 61 = .ok (.aload_n 0, 1) := by decide +kernel
theorem dX12_keep_62 : decode cX12_keep 62 = .ok (.getfield 278, 3) := by decide +kernel
theorem dX12_keep_65 : decode cX12_keep 65 = .ok (.imul, 1) := by decide +kernel
theorem dX12_keep_66 : decode cX12_keep 66 = .ok (.iload_n 1, 1) := by decide +kernel
theorem dX12_keep_67 : decode cX12_keep 67 = .ok (.iadd, 1) := by decide +kernel
theorem dX12_keep_68 : decode cX12_keep 68 = .ok (.aload_n 0, 1) := by decide +kernel
theorem dX12_keep_69 : decode cX12_keep 69 = .ok (.getfield 57, 3) := by decide +kernel
theorem dX12_keep_72 : decode cX12_keep 72 = .ok (.iload_n 1, 1) := by decide +kernel
theorem dX12_keep_73 : decode cX12_keep 73 = .ok (.iaload, 1) := by decide +kernel
theorem dX12_keep_74 : decode cX12_keep 74 = .ok (.iastore, 1) := by decide +kernel
theorem dX12_keep_75 : decode cX12_keep 75 = .ok (.iinc 1 1, 3) := by decide +kernel
theorem dX12_keep_78 : decode cX12_keep 78 = .ok (.goto (-31), 3) := by decide +kernel
theorem dX12_keep_81 : decode cX12_keep 81 = .ok (.aload_n 0, 1) := by decide +kernel
theorem dX12_keep_82 : decode cX12_keep 82 = .ok (.dup, 1) := by decide +kernel
theorem dX12_keep_83 : decode cX12_keep 83 = .ok (.getfield 278, 3) := by decide +kernel
theorem dX12_keep_86 : decode cX12_keep 86 = .ok (.iconst 1, 1) := by decide +kernel
theorem dX12_keep_87 : decode cX12_keep 87 = .ok (.iadd, 1) := by decide +kernel
theorem dX12_keep_88 : decode cX12_keep 88 = .ok (.putfield 278, 3) := by decide +kernel
theorem dX12_keep_91 : decode cX12_keep 91 = .ok (.return_, 1) := by decide +kernel
set_option maxRecDepth 20000 in
theorem ggX12_run_X12_read : GoodIn wsX12_run wsX12_read := goodIn_r _ [17, 2, 7, 18, 19, 20, 21, 22, 10, 23, 24, 25, 26, 16, 27, 28, 29, 30, 31, 32, 33, 34, 35, 36, 37, 38, 39, 40, 41, 42, 43, 44, 45, 46, 47, 48, 49, 50, 51, 52, 8, 53, 54, 11, 55, 12, 56, 57, 58, 59, 60, 61, 62, 63, 3, 64, 65, 66, 67, 68, 69, 70, 71, 72, 73, 74, 75, 76, 77, 78, 79, 80, 81, 82, 83, 84, 85, 86, 87, 88, 89, 90, 91, 92, 93, 94, 95, 96, 97, 98, 99, 100, 101, 201, 202, 203, 204, 205, 206, 207, 208, 209, 210, 211, 212, 213, 214, 215, 216, 217, 218, 219, 220, 221, 222, 223, 224, 225, 226, 227, 228, 229, 230, 231, 232, 233, 234, 235, 236, 237, 238, 239, 240] (by decide +kernel) (by decide +kernel)
set_option maxRecDepth 20000 in
theorem gX12_run_X12_read : GoodIn wsX12_run (wsV RX12 281 RX12 yX12_read wsX12_read) := goodIn_app (goodIn_of _ (by decide +kernel)) ggX12_run_X12_read
set_option maxRecDepth 20000 in
theorem ggX12_run_X12_doStep : GoodIn wsX12_run wsX12_doStep := goodIn_r _ [105, 8, 53, 11, 55, 54, 5, 106, 6, 107, 108, 109, 16, 110, 111, 112, 113, 114, 115, 116, 117, 118, 119, 120, 121, 122, 123, 124, 125, 126, 127, 128, 129, 130, 131, 132, 133, 134, 135, 136, 137, 138, 139, 140, 141, 142, 143, 144, 145, 146, 147, 148, 149, 150, 151, 152, 153, 154, 155, 156, 157, 158, 159, 160, 161, 162, 163, 164, 165, 166, 167, 168, 169, 170, 171, 172, 173, 174, 175, 176, 177, 178, 179, 180, 181, 182, 183, 184, 185, 186, 187, 188, 189, 190, 191, 192, 193, 194, 201, 202, 203, 204, 205, 206, 207, 208, 209, 210, 211, 212, 213, 214, 215, 216, 217, 218, 219, 220, 221, 222, 223, 224, 225, 226, 227, 228, 229, 230, 231, 232, 233, 234, 235, 236, 237, 238, 239, 240] (by decide +kernel) (by decide +kernel)
set_option maxRecDepth 20000 in
theorem gX12_run_X12_doStep : GoodIn wsX12_run (wsV RX12 284 RX12 yX12_doStep wsX12_doStep) := goodIn_app (goodIn_of _ (by decide +kernel)) ggX12_run_X12_doStep
set_option maxRecDepth 20000 in
theorem ggX12_run_X12_keep : GoodIn wsX12_run wsX12_keep := goodIn_r _ [198, 199, 200, 4, 201, 202, 203, 204, 205, 206, 207, 208, 209, 210, 211, 212, 213, 214, 215, 216, 217, 218, 219, 220, 221, 222, 223, 224, 225, 226, 227, 228, 229, 230, 231, 232, 233, 234, 235, 236, 237, 238, 239, 240] (by decide +kernel) (by decide +kernel)
set_option maxRecDepth 20000 in
theorem gX12_run_X12_keep : GoodIn wsX12_run (wsV RX12 287 RX12 yX12_keep wsX12_keep) := goodIn_app (goodIn_of _ (by decide +kernel)) ggX12_run_X12_keep
theorem dX12_run_0 : decode cX12_run 0 = .ok (.aload_n 0, 1) := by decide +kernel
theorem dX12_run_1 : decode cX12_run 1 = .ok (.invokevirtual 281, 3) := by decide +kernel
theorem dX12_run_4 : decode cX12_run 4 = .ok (.aload_n 0, 1) := by decide +kernel
theorem dX12_run_5 : decode cX12_run 5 = .ok (.iconst (-1), 1) := by decide +kernel
theorem dX12_run_6 : decode cX12_run 6 = .ok (.putfield 63, 3) := by decide +kernel
theorem dX12_run_9 : decode cX12_run 9 = .ok (.aload_n 0, 1) := by decide +kernel
theorem dX12_run_10 : decode cX12_run 10 = .ok (.getfield 136, 3) := by decide +kernel
theorem dX12_run_13 : decode cX12_run 13 = .ok (.ifCond .le 19, 3) := by decide +kernel
theorem dX12_run_16 : decode cX12_run 16 = .ok (.aload_n 0, 1) := by decide +kernel
theorem dX12_run_17 : decode cX12_run 17 = .ok (.aload_n 0, 1) := by decide +kernel
theorem dX12_run_18 : decode cX12_run 18 = .ok (.getfield 139, 3) := by decide +kernel
theorem dX12_run_21 : decode cX12_run 21 = .ok (.putfield 63, 3) := by decide +kernel
theorem dX12_run_24 : decode cX12_run 24 = .ok (.bipush (-10), 2) := by decide +kernel
theorem dX12_run_26 : decode cX12_run 26 = .ok (.aload_n 0, 1) := by decide +kernel
theorem dX12_run_27 : decode cX12_run 27 = .ok (.getfield 136, 3) := by decide +kernel
theorem dX12_run_30 : decode cX12_run 30 = .ok (.isub, 1) := by decide +kernel
theorem dX12_run_31 : decode cX12_run 31 = .ok (.ireturn, 1) := by decide +kernel
theorem dX12_run_32 : decode cX12_run 32 = .ok (.iconst 0, 1) := by decide +kernel
theorem dX12_run_33 : decode cX12_run 33 = .ok (.istore_n 1, 1) := by decide +kernel
theorem dX12_run_34 : decode cX12_run 34 = .ok (.iload_n 1, 1) := by decide +kernel
theorem dX12_run_35 : decode cX12_run 35 = .ok (.sipush 2880, 3) := by decide +kernel
theorem dX12_run_38 : decode cX12_run 38 = .ok (.if_icmp .ge 21, 3) := by decide +kernel
theorem dX12_run_41 : decode cX12_run 41 = .ok (.aload_n 0, 1) := by decide +kernel
theorem dX12_run_42 : decode cX12_run 42 = .ok (.getfield 57, 3) := by decide +kernel
theorem dX12_run_45 : decode cX12_run 45 = .ok (.iload_n 1, 1) := by decide +kernel
theorem dX12_run_46 : decode cX12_run 46 = .ok (.aload_n 0, 1) := by decide +kernel
theorem dX12_run_47 : decode cX12_run 47 = .ok (.getfield 7, 3) := by decide +kernel
theorem dX12_run_50 : decode cX12_run 50 = .ok (.iload_n 1, 1) := by decide +kernel
theorem dX12_run_51 : decode cX12_run 51 = .ok (.iaload, 1) := by decide +kernel
theorem dX12_run_52 : decode cX12_run 52 = .ok (.iastore, 1) := by decide +kernel
theorem dX12_run_53 : decode cX12_run 53 = .ok (.iinc 1 1, 3) := by decide +kernel
theorem dX12_run_56 : decode cX12_run 56 = .ok (.goto (-22), 3) := by decide +kernel
theorem dX12_run_59 : decode cX12_run 59 = .ok (.aload_n 0, 1) := by decide +kernel
theorem dX12_run_60 : decode cX12_run 60 = .ok (.iconst (-1), 1) := by decide +kernel
theorem dX12_run_61 : decode cX12_run 61 = .ok (.putfield 243, 3) := by decide +kernel
theorem dX12_run_64 : decode cX12_run 64 = .ok (.iconst 0, 1) := by decide +kernel
theorem dX12_run_65 : decode cX12_run 65 = .ok (.istore_n 1, 1) := by decide +kernel
theorem dX12_run_66 : decode cX12_run 66 = .ok (.iconst 0, 1) := by decide +kernel
theorem dX12_run_67 : decode cX12_run 67 = .ok (.istore_n 2, 1) := by decide +kernel
theorem dX12_run_68 : decode cX12_run 68 = .ok (.iconst 0, 1) := by decide +kernel
theorem dX12_run_69 : decode cX12_run 69 = .ok (.istore_n 3, 1) := by decide +kernel
theorem dX12_run_70 : decode cX12_run 70 = .ok (.iload_n 3, 1) := by decide +kernel
theorem dX12_run_71 : decode cX12_run 71 = .ok (.aload_n 0, 1) := by decide +kernel
theorem dX12_run_72 : decode cX12_run 72 = .ok (.getfield 166, 3) := by decide +kernel
theorem dX12_run_75 : decode cX12_run 75 = .ok (.if_icmp .ge 151, 3) := by decide +kernel
theorem dX12_run_78 : decode cX12_run 78 = .ok (.iload_n 2, 1) := by decide +kernel
theorem dX12_run_79 : decode cX12_run 79 = .ok (.ifCond .ne 147, 3) := by decide +kernel
theorem dX12_run_82 : decode cX12_run 82 = .ok (.aload_n 0, 1) := by decide +kernel
theorem dX12_run_83 : decode cX12_run 83 = .ok (.getfield 21, 3) := by decide +kernel
theorem dX12_run_86 : decode cX12_run 86 = .ok (.iload_n 3, 1) := by decide +kernel
theorem dX12_run_87 : decode cX12_run 87 = .ok (.iaload, 1) := by decide +kernel
theorem dX12_run_88 : decode cX12_run 88 = .ok (.bipush 15, 2) := by decide +kernel
theorem dX12_run_90 : decode cX12_run 90 = .ok (.if_icmp .ne 50, 3) := by decide +kernel
theorem dX12_run_93 : decode cX12_run 93 = .ok (.aload_n 0, 1) := by decide +kernel
theorem dX12_run_94 : decode cX12_run 94 = .ok (.getfield 67, 3) := by decide +kernel
theorem dX12_run_97 : decode cX12_run 97 = .ok (.aload_n 0, 1) := by decide +kernel
theorem dX12_run_98 : decode cX12_run 98 = .ok (.getfield 39, 3) := by decide +kernel
theorem dX12_run_101 : decode cX12_run 101 = .ok (.iload_n 3, 1) := by decide +kernel
theorem dX12_run_102 : decode cX12_run 102 = .ok (.iaload, 1) := by decide +kernel
theorem dX12_run_103 : decode cX12_run 103 = .ok (.dup2, 1) := by decide +kernel
theorem dX12_run_104 : decode cX12_run 104 = .ok (.iaload, 1) := by decide +kernel
theorem dX12_run_105 : decode cX12_run 105 = .ok (.iconst 1, 1) := by decide +kernel
theorem dX12_run_106 : decode cX12_run 106 = .ok (.isub, 1) := by decide +kernel
theorem dX12_run_107 : decode cX12_run 107 = .ok (.iastore, 1) := by decide +kernel
theorem dX12_run_108 : decode cX12_run 108 = .ok (.aload_n 0, 1) := by decide +kernel
theorem dX12_run_109 : decode cX12_run 109 = .ok (.getfield 67, 3) := by decide +kernel
theorem dX12_run_112 : decode cX12_run 112 = .ok (.aload_n 0, 1) := by decide +kernel
theorem dX12_run_113 : decode cX12_run 113 = .ok (.getfield 39, 3) := by decide +kernel
theorem dX12_run_116 : decode cX12_run 116 = .ok (.iload_n 3, 1) := by decide +kernel
theorem dX12_run_117 : decode cX12_run 117 = .ok (.iaload, 1) := by decide +kernel
theorem dX12_run_118 : decode cX12_run 118 = .ok (.iaload, 1) := by decide +kernel
theorem dX12_run_119 : decode cX12_run 119 = .ok (.ifCond .le 14, 3) := by decide +kernel
theorem dX12_run_122 : decode cX12_run 122 = .ok (.aload_n 0, 1) := by decide +kernel
theorem dX12_run_123 : decode cX12_run 123 = .ok (.getfield 39, 3) := by decide +kernel
theorem dX12_run_126 : decode cX12_run 126 = .ok (.iload_n 3, 1) := by decide +kernel
theorem dX12_run_127 : decode cX12_run 127 = .ok (.iaload, 1) := by decide +kernel
theorem dX12_run_128 : decode cX12_run 128 = .ok (.iconst 1, 1) := by decide +kernel
theorem dX12_run_129 : decode cX12_run 129 = .ok (.iadd, 1) := by decide +kernel
theorem dX12_run_130 : decode cX12_run 130 = .ok (.goto 6, 3) := by decide +kernel
theorem dX12_run_133 : decode cX12_run 133 = .ok (.iload_n 3, 1) := by decide +kernel
theorem dX12_run_134 : decode cX12_run 134 = .ok (.iconst 1, 1) := by decide +kernel
theorem dX12_run_135 : decode cX12_run 135 = .ok (.iadd, 1) := by decide +kernel
theorem dX12_run_136 : decode cX12_run 136 = .ok (.istore_n 3, 1) := by decide +kernel
theorem dX12_run_137 : decode cX12_run 137 = .ok (.goto (-67), 3) := by decide +kernel
theorem dX12_run_140 : decode cX12_run 140 = .ok (.iload_n 1, 1) := by decide +kernel
theorem dX12_run_141 : decode cX12_run 141 = .ok (.sipush 300, 3) := by decide +kernel
theorem dX12_run_144 : decode cX12_run 144 = .ok (.if_icmp .ne 8, 3) := by decide +kernel
theorem dX12_run_147 : decode cX12_run 147 = .ok (.iconst 3, 1) := by decide +kernel
theorem dX12_run_148 : decode cX12_run 148 = .ok (.istore_n 2, 1) := by decide +kernel
theorem dX12_run_149 : decode cX12_run 149 = .ok (.goto (-79), 3) := by decide +kernel
theorem dX12_run_152 : decode cX12_run 152 = .ok (.iinc 1 1, 3) := by decide +kernel
theorem dX12_run_155 : decode cX12_run 155 = .ok (.aload_n 0, 1) := by decide +kernel
theorem dX12_run_156 : decode cX12_run 156 = .ok (.getfield 21, 3) := by decide +kernel
theorem dX12_run_159 : decode cX12_run 159 = .ok (.iload_n 3, 1) := by decide +kernel
theorem dX12_run_160 : decode cX12_run 160 = .ok (.iaload, 1) := by decide +kernel
theorem dX12_run_161 : decode cX12_run 161 = .ok (.bipush 14, 2) := by decide +kernel
theorem dX12_run_163 : decode cX12_run 163 = .ok (.if_icmp .ne 42, 3) := by decide +kernel
theorem dX12_run_166 : decode cX12_run 166 = .ok (.aload_n 0, 1) := by decide +kernel
theorem dX12_run_167 : decode cX12_run 167 = .ok (.getfield 67, 3) := by decide +kernel
theorem dX12_run_170 : decode cX12_run 170 = .ok (.iload_n 3, 1) := by decide +kernel
theorem dX12_run_171 : decode cX12_run 171 = .ok (.aload_n 0, 1) := by decide +kernel
theorem dX12_run_172 : decode cX12_run 172 = .ok (.getfield 30, 3) := by decide +kernel
theorem dX12_run_175 : decode cX12_run 175 = .ok (.iload_n 3, 1) := by decide +kernel
theorem dX12_run_176 : decode cX12_run 176 = .ok (.iaload, 1) := by decide +kernel
theorem dX12_run_177 : decode cX12_run 177 = .ok (.iastore, 1) := by decide +kernel
theorem dX12_run_178 : decode cX12_run 178 = .ok (.aload_n 0, 1) := by decide +kernel
theorem dX12_run_179 : decode cX12_run 179 = .ok (.getfield 30, 3) := by decide +kernel
theorem dX12_run_182 : decode cX12_run 182 = .ok (.iload_n 3, 1) := by decide +kernel
theorem dX12_run_183 : decode cX12_run 183 = .ok (.iaload, 1) := by decide +kernel
theorem dX12_run_184 : decode cX12_run 184 = .ok (.ifCond .le 9, 3) := by decide +kernel
theorem dX12_run_187 : decode cX12_run 187 = .ok (.iload_n 3, 1) := by decide +kernel
theorem dX12_run_188 : decode cX12_run 188 = .ok (.iconst 1, 1) := by decide +kernel
theorem dX12_run_189 : decode cX12_run 189 = .ok (.iadd, 1) := by decide +kernel
theorem dX12_run_190 : decode cX12_run 190 = .ok (.goto 11, 3) := by decide +kernel
theorem dX12_run_193 : decode cX12_run 193 = .ok (.aload_n 0, 1) := by decide +kernel
theorem dX12_run_194 : decode cX12_run 194 = .ok (.getfield 39, 3) := by decide +kernel
theorem dX12_run_197 : decode cX12_run 197 = .ok (.iload_n 3, 1) := by decide +kernel
theorem dX12_run_198 : decode cX12_run 198 = .ok (.iaload, 1) := by decide +kernel
theorem dX12_run_199 : decode cX12_run 199 = .ok (.iconst 1, 1) := by decide +kernel
theorem dX12_run_200 : decode cX12_run 200 = .ok (.iadd, 1) := by decide +kernel
theorem dX12_run_201 : decode cX12_run 201 = .ok (.istore_n 3, 1) := by decide +kernel
theorem dX12_run_202 : decode cX12_run 202 = .ok (.goto (-132), 3) := by decide +kernel
theorem dX12_run_205 : decode cX12_run 205 = .ok (.aload_n 0, 1) := by decide +kernel
theorem dX12_run_206 : decode cX12_run 206 = .ok (.iload_n 3, 1) := by decide +kernel
theorem dX12_run_207 : decode cX12_run 207 = .ok (.invokevirtual 284, 3) := by decide +kernel
theorem dX12_run_210 : decode cX12_run 210 = .ok (.istore_n 2, 1) := by decide +kernel
theorem dX12_run_211 : decode cX12_run 211 = .ok (.iload_n 3, 1) := by decide +kernel
theorem dX12_run_212 : decode cX12_run 212 = .ok (.iload_n 2, 1) := by decide +kernel
theorem dX12_run_213 : decode cX12_run 213 = .ok (.ifCond .ne 7, 3) := by decide +kernel
theorem dX12_run_216 : decode cX12_run 216 = .ok (.iconst 1, 1) := by decide +kernel
theorem dX12_run_217 : decode cX12_run 217 = .ok (.goto 4, 3) := by decide +kernel
theorem dX12_run_220 : decode cX12_run 220 = .ok (.iconst 0, 1) := by decide +kernel
theorem dX12_run_221 : decode cX12_run 221 = .ok (.iadd, 1) := by decide +kernel
theorem dX12_run_222 : decode cX12_run 222 = .ok (.istore_n 3, 1) := by decide +kernel
theorem dX12_run_223 : decode cX12_run 223 = .ok (.goto (-153), 3) := by decide +kernel
theorem dX12_run_226 : decode cX12_run 226 = .ok (.iload_n 2, 1) := by decide +kernel
theorem dX12_run_227 : decode cX12_run 227 = .ok (.ifCond .le 49, 3) := by decide +kernel
theorem dX12_run_230 : decode cX12_run 230 = .ok (.aload_n 0, 1) := by decide +kernel
theorem dX12_run_231 : decode cX12_run 231 = .ok (.aload_n 0, 1) := by decide +kernel
theorem dX12_run_232 : decode cX12_run 232 = .ok (.getfield 36, 3) := by decide +kernel
theorem dX12_run_235 : decode cX12_run 235 = .ok (.iload_n 3, 1) := by decide +kernel
theorem dX12_run_236 : decode cX12_run 236 = .ok (.iaload, 1) := by decide +kernel
theorem dX12_run_237 : decode cX12_run 237 = .ok (.putfield 63, 3) := by decide +kernel
theorem dX12_run_240 : decode cX12_run 240 = .ok (.iconst 0, 1) := by decide +kernel
theorem dX12_run_241 : decode cX12_run 241 = .ok (.istore 4, 2) := by decide +kernel
theorem dX12_run_243 : decode cX12_run 243 = .ok (.iload 4, 2) := by decide +kernel
theorem dX12_run_245 : decode cX12_run 245 = .ok (.sipush 2880, 3) := by decide +kernel
theorem dX12_run_248 : decode cX12_run 248 = .ok (.if_icmp .ge 23, 3) := by decide +kernel
theorem dX12_run_251 : decode cX12_run 251 = .ok (.aload_n 0, 1) := by decide +kernel
theorem dX12_run_252 : decode cX12_run 252 = .ok (.getfield 7, 3) := by decide +kernel
theorem dX12_run_255 : decode cX12_run 255 = .ok (.iload 4, 2) := by decide +kernel
theorem dX12_run_257 : decode cX12_run 257 = .ok (.aload_n 0, 1) := by decide +kernel
theorem dX12_run_258 : decode cX12_run 258 = .ok (.getfield 57, 3) := by decide +kernel
theorem dX12_run_261 : decode cX12_run 261 = .ok (.iload 4, 2) := by decide +kernel
theorem dX12_run_263 : decode cX12_run 263 = .ok (.iaload, 1) := by decide +kernel
theorem dX12_run_264 : decode cX12_run 264 = .ok (.iastore, 1) := by decide +kernel
theorem dX12_run_265 : decode cX12_run 265 = .ok (.iinc 4 1, 3) := by decide +kernel
theorem dX12_run_268 : decode cX12_run 268 = .ok (.goto (-25), 3) := by decide +kernel
theorem dX12_run_271 : decode cX12_run 271 = .ok (.bipush (-20), 2) := by decide +kernel
theorem dX12_run_273 : decode cX12_run 273 = .ok (.iload_n 2, 1) := by decide +kernel
theorem dX12_run_274 : decode cX12_run 274 = .ok (.isub, 1) := by decide +kernel
theorem dX12_run_275 : decode cX12_run 275 = .ok (.ireturn, 1) := by decide +kernel
theorem dX12_run_276 : decode cX12_run 276 = .ok (.aload_n 0, 1) := by decide +kernel
theorem dX12_run_277 : decode cX12_run 277 = .ok (.invokevirtual 287, 3) := by decide +kernel
theorem dX12_run_280 : decode cX12_run 280 = .ok (.iload_n 1, 1) := by decide +kernel
theorem dX12_run_281 : decode cX12_run 281 = .ok (.ireturn, 1) := by decide +kernel
theorem dX12_place_0 : decode cX12_place 0 = .ok (.aload_n 0, 1) := by decide +kernel
theorem dX12_place_1 : decode cX12_place 1 = .ok (.getfield 63, 3) := by decide +kernel
theorem dX12_place_4 : decode cX12_place 4 = .ok (.ireturn, 1) := by decide +kernel
theorem dX12_undo_0 : decode cX12_undo 0 = .ok (.aload_n 0, 1) := by decide +kernel
theorem dX12_undo_1 : decode cX12_undo 1 = .ok (.getfield 278, 3) := by decide +kernel
theorem dX12_undo_4 : decode cX12_undo 4 = .ok (.ifCond .ne 5, 3) := by decide +kernel
theorem dX12_undo_7 : decode cX12_undo 7 = .ok (.iconst 0, 1) := by decide +kernel
theorem dX12_undo_8 : decode cX12_undo 8 = .ok (.ireturn, 1) := by decide +kernel
theorem dX12_undo_9 : decode cX12_undo 9 = .ok (.aload_n 0, 1) := by decide +kernel
theorem dX12_undo_10 : decode cX12_undo 10 = .ok (.dup, 1) := by decide +kernel
theorem dX12_undo_11 : decode cX12_undo 11 = .ok (.getfield 278, 3) := by decide +kernel
theorem dX12_undo_14 : decode cX12_undo 14 = .ok (.iconst 1, 1) := by decide +kernel
theorem dX12_undo_15 : decode cX12_undo 15 = .ok (.isub, 1) := by decide +kernel
theorem dX12_undo_16 : decode cX12_undo 16 = .ok (.putfield 278, 3) := by decide +kernel
theorem dX12_undo_19 : decode cX12_undo 19 = .ok (.iconst 0, 1) := by decide +kernel
theorem dX12_undo_20 : decode cX12_undo 20 = .ok (.istore_n 1, 1) := by decide +kernel
theorem dX12_undo_21 : decode cX12_undo 21 = .ok (.iload_n 1, 1) := by decide +kernel
theorem dX12_undo_22 : decode cX12_undo 22 = .ok (.sipush 2880, 3) := by decide +kernel
theorem dX12_undo_25 : decode cX12_undo 25 = .ok (.if_icmp .ge 30, 3) := by decide +kernel
theorem dX12_undo_28 : decode cX12_undo 28 = .ok (.aload_n 0, 1) := by decide +kernel
theorem dX12_undo_29 : decode cX12_undo 29 = .ok (.getfield 7, 3) := by decide +kernel
theorem dX12_undo_32 : decode cX12_undo 32 = .ok (.iload_n 1, 1) := by decide +kernel
theorem dX12_undo_33 : decode cX12_undo 33 = .ok (.aload_n 0, 1) := by decide +kernel
theorem dX12_undo_34 : decode cX12_undo 34 = .ok (.getfield 60, 3) := by decide +kernel
theorem dX12_undo_37 : decode cX12_undo 37 = .ok (.sipush 2880, 3) := by decide +kernel
theorem dX12_undo_40 : decode cX12_undo 40 = .ok (.aload_n 0, 1) := by decide +kernel
theorem dX12_undo_41 : decode cX12_undo 41 = .ok (.getfield 278, 3) := by decide +kernel
theorem dX12_undo_44 : decode cX12_undo 44 = .ok (.imul, 1) := by decide +kernel
theorem dX12_undo_45 : decode cX12_undo 45 = .ok (.iload_n 1, 1) := by decide +kernel
theorem dX12_undo_46 : decode cX12_undo 46 = .ok (.iadd, 1) := by decide +kernel
theorem dX12_undo_47 : decode cX12_undo 47 = .ok (.iaload, 1) := by decide +kernel
theorem dX12_undo_48 : decode cX12_undo 48 = .ok (.iastore, 1) := by decide +kernel
theorem dX12_undo_49 : decode cX12_undo 49 = .ok (.iinc 1 1, 3) := by decide +kernel
theorem dX12_undo_52 : decode cX12_undo 52 = .ok (.goto (-31), 3) := by decide +kernel
theorem dX12_undo_55 : decode cX12_undo 55 = .ok (.iconst 1, 1) := by decide +kernel
theorem dX12_undo_56 : decode cX12_undo 56 = .ok (.ireturn, 1) := by decide +kernel
set_option maxRecDepth 20000 in
theorem ggX12_noPlace_X12_in : GoodIn wsX12_noPlace wsX12_in := goodIn_r _ [5] (by decide +kernel) (by decide +kernel)
set_option maxRecDepth 20000 in
theorem gX12_noPlace_X12_in : GoodIn wsX12_noPlace (va_wsS RX12 84 yX12_in wsX12_in) := goodIn_app (goodIn_of _ (by decide +kernel)) ggX12_noPlace_X12_in
theorem dX12_noPlace_0 : decode cX12_noPlace 0 = .ok (.iload_n 0, 1) := by decide +kernel
theorem dX12_noPlace_1 : decode cX12_noPlace 1 = .ok (.i2l, 1) := by decide +kernel
theorem dX12_noPlace_2 : decode cX12_noPlace 2 = .ok (.lconst 0, 1) := by decide +kernel
theorem dX12_noPlace_3 : decode cX12_noPlace 3 = .ok (.ldc2_w 94, 3) := by decide +kernel
theorem dX12_noPlace_6 : decode cX12_noPlace 6 = .ok (.invokestatic 84, 3) := by decide +kernel
theorem dX12_noPlace_9 : decode cX12_noPlace 9 = .ok (.ifCond .ne 7, 3) := by decide +kernel
theorem dX12_noPlace_12 : decode cX12_noPlace 12 = .ok (.iconst 1, 1) := by decide +kernel
theorem dX12_noPlace_13 : decode cX12_noPlace 13 = .ok (.goto 4, 3) := by decide +kernel
theorem dX12_noPlace_16 : decode cX12_noPlace 16 = .ok (.iconst 0, 1) := by decide +kernel
theorem dX12_noPlace_17 : decode cX12_noPlace 17 = .ok (.ireturn, 1) := by decide +kernel
set_option maxRecDepth 20000 in
theorem ggX12_at_X12_noPlace : GoodIn wsX12_at wsX12_noPlace := goodIn_r _ [6, 7, 8, 9, 5, 10] (by decide +kernel) (by decide +kernel)
set_option maxRecDepth 20000 in
theorem gX12_at_X12_noPlace : GoodIn wsX12_at (va_wsS RX12 290 yX12_noPlace wsX12_noPlace) := goodIn_app (goodIn_of _ (by decide +kernel)) ggX12_at_X12_noPlace
set_option maxRecDepth 20000 in
theorem ggX12_at_X12_in : GoodIn wsX12_at wsX12_in := goodIn_r _ [10] (by decide +kernel) (by decide +kernel)
set_option maxRecDepth 20000 in
theorem gX12_at_X12_in : GoodIn wsX12_at (va_wsS RX12 84 yX12_in wsX12_in) := goodIn_app (goodIn_of _ (by decide +kernel)) ggX12_at_X12_in
theorem dX12_at_0 : decode cX12_at 0 = .ok (.iload_n 1, 1) := by decide +kernel
theorem dX12_at_1 : decode cX12_at 1 = .ok (.invokestatic 290, 3) := by decide +kernel
theorem dX12_at_4 : decode cX12_at 4 = .ok (.ifCond .ne 15, 3) := by decide +kernel
theorem dX12_at_7 : decode cX12_at 7 = .ok (.iload_n 2, 1) := by decide +kernel
theorem dX12_at_8 : decode cX12_at 8 = .ok (.i2l, 1) := by decide +kernel
theorem dX12_at_9 : decode cX12_at 9 = .ok (.lconst 0, 1) := by decide +kernel
theorem dX12_at_10 : decode cX12_at 10 = .ok (.ldc2_w 293, 3) := by decide +kernel
theorem dX12_at_13 : decode cX12_at 13 = .ok (.invokestatic 84, 3) := by decide +kernel
theorem dX12_at_16 : decode cX12_at 16 = .ok (.ifCond .ne 8, 3) := by decide +kernel
theorem dX12_at_19 : decode cX12_at 19 = .ok (.bipush (-101), 2) := by decide +kernel
theorem dX12_at_21 : decode cX12_at 21 = .ok (.goto 15, 3) := by decide +kernel
theorem dX12_at_24 : decode cX12_at 24 = .ok (.aload_n 0, 1) := by decide +kernel
theorem dX12_at_25 : decode cX12_at 25 = .ok (.getfield 7, 3) := by decide +kernel
theorem dX12_at_28 : decode cX12_at 28 = .ok (.sipush 144, 3) := by decide +kernel
theorem dX12_at_31 : decode cX12_at 31 = .ok (.iload_n 2, 1) := by decide +kernel
theorem dX12_at_32 : decode cX12_at 32 = .ok (.imul, 1) := by decide +kernel
theorem dX12_at_33 : decode cX12_at 33 = .ok (.iload_n 1, 1) := by decide +kernel
theorem dX12_at_34 : decode cX12_at 34 = .ok (.iadd, 1) := by decide +kernel
theorem dX12_at_35 : decode cX12_at 35 = .ok (.iaload, 1) := by decide +kernel
theorem dX12_at_36 : decode cX12_at 36 = .ok (.ireturn, 1) := by decide +kernel
set_option maxRecDepth 20000 in
theorem ggX12_top_X12_noPlace : GoodIn wsX12_top wsX12_noPlace := goodIn_r _ [4, 5, 6, 7, 3, 8] (by decide +kernel) (by decide +kernel)
set_option maxRecDepth 20000 in
theorem gX12_top_X12_noPlace : GoodIn wsX12_top (va_wsS RX12 290 yX12_noPlace wsX12_noPlace) := goodIn_app (goodIn_of _ (by decide +kernel)) ggX12_top_X12_noPlace
set_option maxRecDepth 20000 in
theorem ggX12_top_X12_topOf : GoodIn wsX12_top wsX12_topOf := goodIn_r _ [12, 13, 14, 15, 16, 17, 18, 19, 20, 21, 22, 23, 24, 25, 26, 27, 28, 29, 30, 31, 32, 33, 34, 35, 36, 37, 38, 39, 40, 41, 42, 43, 44, 45, 46, 47, 48, 49, 50, 51, 52, 53] (by decide +kernel) (by decide +kernel)
set_option maxRecDepth 20000 in
theorem gX12_top_X12_topOf : GoodIn wsX12_top (wsV RX12 220 RX12 yX12_topOf wsX12_topOf) := goodIn_app (goodIn_of _ (by decide +kernel)) ggX12_top_X12_topOf
theorem dX12_top_0 : decode cX12_top 0 = .ok (.iload_n 1, 1) := by decide +kernel
theorem dX12_top_1 : decode cX12_top 1 = .ok (.invokestatic 290, 3) := by decide +kernel
theorem dX12_top_4 : decode cX12_top 4 = .ok (.ifCond .eq 8, 3) := by decide +kernel
theorem dX12_top_7 : decode cX12_top 7 = .ok (.bipush (-101), 2) := by decide +kernel
theorem dX12_top_9 : decode cX12_top 9 = .ok (.goto 8, 3) := by decide +kernel
theorem dX12_top_12 : decode cX12_top 12 = .ok (.aload_n 0, 1) := by decide +kernel
theorem dX12_top_13 : decode cX12_top 13 = .ok (.iload_n 1, 1) := by decide +kernel
theorem dX12_top_14 : decode cX12_top 14 = .ok (.invokevirtual 220, 3) := by decide +kernel
theorem dX12_top_17 : decode cX12_top 17 = .ok (.ireturn, 1) := by decide +kernel
set_option maxRecDepth 20000 in
theorem ggX12_volume_X12_in : GoodIn wsX12_volume wsX12_in := goodIn_r _ [6] (by decide +kernel) (by decide +kernel)
set_option maxRecDepth 20000 in
theorem gX12_volume_X12_in : GoodIn wsX12_volume (va_wsS RX12 84 yX12_in wsX12_in) := goodIn_app (goodIn_of _ (by decide +kernel)) ggX12_volume_X12_in
set_option maxRecDepth 20000 in
theorem ggX12_volume_X12_volumeOf : GoodIn wsX12_volume wsX12_volumeOf := goodIn_r _ [10, 11, 41, 42, 43, 44, 45, 46, 47, 48, 49, 50, 51, 52, 53, 54, 55, 56, 57, 58, 59, 60, 61, 62, 63, 64, 65, 66, 67, 68, 69, 70, 71, 72, 73, 74, 75, 76, 77, 78, 79, 80] (by decide +kernel) (by decide +kernel)
set_option maxRecDepth 20000 in
theorem gX12_volume_X12_volumeOf : GoodIn wsX12_volume (wsV RX12 257 RX12 yX12_volumeOf wsX12_volumeOf) := goodIn_app (goodIn_of _ (by decide +kernel)) ggX12_volume_X12_volumeOf
set_option maxRecDepth 20000 in
theorem ggX12_volume_X12_floating : GoodIn wsX12_volume wsX12_floating := goodIn_r _ [15, 11, 16, 17, 18, 19, 5, 20, 21, 22, 23, 24, 2, 25, 26, 27, 28, 29, 30, 31, 32, 33, 34, 35, 36, 41, 42, 43, 44, 45, 46, 47, 48, 49, 50, 51, 52, 53, 54, 55, 56, 57, 58, 59, 60, 61, 62, 63, 64, 65, 66, 67, 68, 69, 70, 71, 72, 73, 74, 75, 76, 77, 78, 79, 80] (by decide +kernel) (by decide +kernel)
set_option maxRecDepth 20000 in
theorem gX12_volume_X12_floating : GoodIn wsX12_volume (wsV RX12 275 RX12 yX12_floating wsX12_floating) := goodIn_app (goodIn_of _ (by decide +kernel)) ggX12_volume_X12_floating
set_option maxRecDepth 20000 in
theorem ggX12_volume_X12_findOpen : GoodIn wsX12_volume wsX12_findOpen := goodIn_r _ [40, 11, 21, 22, 23, 5, 24, 16, 2, 25, 26, 27, 28, 29, 30, 31, 32, 33, 34, 35, 36, 41, 42, 43, 44, 45, 46, 47, 48, 49, 50, 51, 52, 53, 54, 55, 56, 57, 58, 59, 60, 61, 62, 63, 64, 65, 66, 67, 68, 69, 70, 71, 72, 73, 74, 75, 76, 77, 78, 79, 80] (by decide +kernel) (by decide +kernel)
set_option maxRecDepth 20000 in
theorem gX12_volume_X12_findOpen : GoodIn wsX12_volume (wsV RX12 223 RX12 yX12_findOpen wsX12_findOpen) := goodIn_app (goodIn_of _ (by decide +kernel)) ggX12_volume_X12_findOpen
theorem dX12_volume_0 : decode cX12_volume 0 = .ok (.iload_n 1, 1) := by decide +kernel
theorem dX12_volume_1 : decode cX12_volume 1 = .ok (.i2l, 1) := by decide +kernel
theorem dX12_volume_2 : decode cX12_volume 2 = .ok (.lconst 0, 1) := by decide +kernel
theorem dX12_volume_3 : decode cX12_volume 3 = .ok (.ldc2_w 88, 3) := by decide +kernel
theorem dX12_volume_6 : decode cX12_volume 6 = .ok (.invokestatic 84, 3) := by decide +kernel
theorem dX12_volume_9 : decode cX12_volume 9 = .ok (.ifCond .ne 6, 3) := by decide +kernel
theorem dX12_volume_12 : decode cX12_volume 12 = .ok (.bipush (-102), 2) := by decide +kernel
theorem dX12_volume_14 : decode cX12_volume 14 = .ok (.ireturn, 1) := by decide +kernel
theorem dX12_volume_15 : decode cX12_volume 15 = .ok (.iload_n 1, 1) := by decide +kernel
theorem dX12_volume_16 : decode cX12_volume 16 = .ok (.bipush 8, 2) := by decide +kernel
theorem dX12_volume_18 : decode cX12_volume 18 = .ok (.if_icmp .ge 9, 3) := by decide +kernel
theorem dX12_volume_21 : decode cX12_volume 21 = .ok (.aload_n 0, 1) := by decide +kernel
theorem dX12_volume_22 : decode cX12_volume 22 = .ok (.iload_n 1, 1) := by decide +kernel
theorem dX12_volume_23 : decode cX12_volume 23 = .ok (.invokevirtual 257, 3) := by decide +kernel
theorem dX12_volume_26 : decode cX12_volume 26 = .ok (.ireturn, 1) := by decide +kernel
theorem dX12_volume_27 : decode cX12_volume 27 = .ok (.iload_n 1, 1) := by decide +kernel
theorem dX12_volume_28 : decode cX12_volume 28 = .ok (.bipush 9, 2) := by decide +kernel
theorem dX12_volume_30 : decode cX12_volume 30 = .ok (.if_icmp .ne 8, 3) := by decide +kernel
theorem dX12_volume_33 : decode cX12_volume 33 = .ok (.aload_n 0, 1) := by decide +kernel
theorem dX12_volume_34 : decode cX12_volume 34 = .ok (.invokevirtual 275, 3) := by decide +kernel
theorem dX12_volume_37 : decode cX12_volume 37 = .ok (.ireturn, 1) := by decide +kernel
theorem dX12_volume_38 : decode cX12_volume 38 = .ok (.iload_n 1, 1) := by decide +kernel
theorem dX12_volume_39 : decode cX12_volume 39 = .ok (.bipush 10, 2) := by decide +kernel
theorem dX12_volume_41 : decode cX12_volume 41 = .ok (.if_icmp .ne 13, 3) := by decide +kernel
theorem dX12_volume_44 : decode cX12_volume 44 = .ok (.sipush 2880, 3) := by decide +kernel
theorem dX12_volume_47 : decode cX12_volume 47 = .ok (.aload_n 0, 1) := by decide +kernel
theorem dX12_volume_48 : decode cX12_volume 48 = .ok (.iconst 0, 1) := by decide +kernel
theorem dX12_volume_49 : decode cX12_volume 49 = .ok (.invokevirtual 257, 3) := by decide +kernel
theorem dX12_volume_52 : decode cX12_volume 52 = .ok (.isub, 1) := by decide +kernel
theorem dX12_volume_53 : decode cX12_volume 53 = .ok (.ireturn, 1) := by decide +kernel
theorem dX12_volume_54 : decode cX12_volume 54 = .ok (.aload_n 0, 1) := by decide +kernel
theorem dX12_volume_55 : decode cX12_volume 55 = .ok (.invokevirtual 223, 3) := by decide +kernel
theorem dX12_volume_58 : decode cX12_volume 58 = .ok (.iload_n 1, 1) := by decide +kernel
theorem dX12_volume_59 : decode cX12_volume 59 = .ok (.bipush 8, 2) := by decide +kernel
theorem dX12_volume_61 : decode cX12_volume 61 = .ok (.if_icmp .ne 10, 3) := by decide +kernel
theorem dX12_volume_64 : decode cX12_volume 64 = .ok (.aload_n 0, 1) := by decide +kernel
theorem dX12_volume_65 : decode cX12_volume 65 = .ok (.getfield 205, 3) := by decide +kernel
theorem dX12_volume_68 : decode cX12_volume 68 = .ok (.goto 13, 3) := by decide +kernel
theorem dX12_volume_71 : decode cX12_volume 71 = .ok (.aload_n 0, 1) := by decide +kernel
theorem dX12_volume_72 : decode cX12_volume 72 = .ok (.iconst 0, 1) := by decide +kernel
theorem dX12_volume_73 : decode cX12_volume 73 = .ok (.invokevirtual 257, 3) := by decide +kernel
theorem dX12_volume_76 : decode cX12_volume 76 = .ok (.aload_n 0, 1) := by decide +kernel
theorem dX12_volume_77 : decode cX12_volume 77 = .ok (.getfield 205, 3) := by decide +kernel
theorem dX12_volume_80 : decode cX12_volume 80 = .ok (.isub, 1) := by decide +kernel
theorem dX12_volume_81 : decode cX12_volume 81 = .ok (.ireturn, 1) := by decide +kernel
set_option maxRecDepth 20000 in
theorem ggX12_spanAt_X12_topOf : GoodIn wsX12_spanAt wsX12_topOf := goodIn_r _ [6, 1, 7, 8, 9, 10, 11, 12, 13, 14, 15, 16, 17, 18, 19, 20, 21, 22, 23, 24, 25, 26, 27, 28, 29, 30, 31, 32, 33, 34, 35, 36, 37, 38, 39, 40, 41, 42, 43, 44, 45, 46] (by decide +kernel) (by decide +kernel)
set_option maxRecDepth 20000 in
theorem gX12_spanAt_X12_topOf : GoodIn wsX12_spanAt (wsV RX12 220 RX12 yX12_topOf wsX12_topOf) := goodIn_app (goodIn_of _ (by decide +kernel)) ggX12_spanAt_X12_topOf
theorem dX12_spanAt_0 : decode cX12_spanAt 0 = .ok (.aload_n 0, 1) := by decide +kernel
theorem dX12_spanAt_1 : decode cX12_spanAt 1 = .ok (.iload_n 1, 1) := by decide +kernel
theorem dX12_spanAt_2 : decode cX12_spanAt 2 = .ok (.invokevirtual 220, 3) := by decide +kernel
theorem dX12_spanAt_5 : decode cX12_spanAt 5 = .ok (.istore 4, 2) := by decide +kernel
theorem dX12_spanAt_7 : decode cX12_spanAt 7 = .ok (.iconst 0, 1) := by decide +kernel
theorem dX12_spanAt_8 : decode cX12_spanAt 8 = .ok (.istore 5, 2) := by decide +kernel
theorem dX12_spanAt_10 : decode cX12_spanAt 10 = .ok (.iconst 0, 1) := by decide +kernel
theorem dX12_spanAt_11 : decode cX12_spanAt 11 = .ok (.istore 6, 2) := by decide +kernel
theorem dX12_spanAt_13 : decode cX12_spanAt 13 = .ok (.iload 6, 2) := by decide +kernel
theorem dX12_spanAt_15 : decode cX12_spanAt 15 = .ok (.iload 4, 2) := by decide +kernel
theorem dX12_spanAt_17 : decode cX12_spanAt 17 = .ok (.if_icmp .gt 63, 3) := by decide +kernel
theorem dX12_spanAt_20 : decode cX12_spanAt 20 = .ok (.iload 6, 2) := by decide +kernel
theorem dX12_spanAt_22 : decode cX12_spanAt 22 = .ok (.ifCond .eq 36, 3) := by decide +kernel
theorem dX12_spanAt_25 : decode cX12_spanAt 25 = .ok (.aload_n 0, 1) := by decide +kernel
theorem dX12_spanAt_26 : decode cX12_spanAt 26 = .ok (.getfield 7, 3) := by decide +kernel
theorem dX12_spanAt_29 : decode cX12_spanAt 29 = .ok (.sipush 144, 3) := by decide +kernel
theorem dX12_spanAt_32 : decode cX12_spanAt 32 = .ok (.iload 6, 2) := by decide +kernel
theorem dX12_spanAt_34 : decode cX12_spanAt 34 = .ok (.imul, 1) := by decide +kernel
theorem dX12_spanAt_35 : decode cX12_spanAt 35 = .ok (.iload_n 1, 1) := by decide +kernel
theorem dX12_spanAt_36 : decode cX12_spanAt 36 = .ok (.iadd, 1) := by decide +kernel
theorem dX12_spanAt_37 : decode cX12_spanAt 37 = .ok (.iaload, 1) := by decide +kernel
theorem dX12_spanAt_38 : decode cX12_spanAt 38 = .ok (.aload_n 0, 1) := by decide +kernel
theorem dX12_spanAt_39 : decode cX12_spanAt 39 = .ok (.getfield 7, 3) := by decide +kernel
theorem dX12_spanAt_42 : decode cX12_spanAt 42 = .ok (.sipush 144, 3) := by decide +kernel
theorem dX12_spanAt_45 : decode cX12_spanAt 45 = .ok (.iload 6, 2) := by decide +kernel
theorem dX12_spanAt_47 : decode cX12_spanAt 47 = .ok (.imul, 1) := by decide +kernel
theorem dX12_spanAt_48 : decode cX12_spanAt 48 = .ok (.sipush 144, 3) := by decide +kernel
theorem dX12_spanAt_51 : decode cX12_spanAt 51 = .ok (.isub, 1) := by decide +kernel
theorem dX12_spanAt_52 : decode cX12_spanAt 52 = .ok (.iload_n 1, 1) := by decide +kernel
theorem dX12_spanAt_53 : decode cX12_spanAt 53 = .ok (.iadd, 1) := by decide +kernel
theorem dX12_spanAt_54 : decode cX12_spanAt 54 = .ok (.iaload, 1) := by decide +kernel
theorem dX12_spanAt_55 : decode cX12_spanAt 55 = .ok (.if_icmp .eq 19, 3) := by decide +kernel
theorem dX12_spanAt_58 : decode cX12_spanAt 58 = .ok (.iload_n 3, 1) := by decide +kernel
theorem dX12_spanAt_59 : decode cX12_spanAt 59 = .ok (.ifCond .ne 12, 3) := by decide +kernel
theorem dX12_spanAt_62 : decode cX12_spanAt 62 = .ok (.iload 5, 2) := by decide +kernel
theorem dX12_spanAt_64 : decode cX12_spanAt 64 = .ok (.iload_n 2, 1) := by decide +kernel
theorem dX12_spanAt_65 : decode cX12_spanAt 65 = .ok (.if_icmp .ne 6, 3) := by decide +kernel
theorem dX12_spanAt_68 : decode cX12_spanAt 68 = .ok (.iload 6, 2) := by decide +kernel
theorem dX12_spanAt_70 : decode cX12_spanAt 70 = .ok (.ireturn, 1) := by decide +kernel
theorem dX12_spanAt_71 : decode cX12_spanAt 71 = .ok (.iinc 5 1, 3) := by decide +kernel
theorem dX12_spanAt_74 : decode cX12_spanAt 74 = .ok (.iinc 6 1, 3) := by decide +kernel
theorem dX12_spanAt_77 : decode cX12_spanAt 77 = .ok (.goto (-64), 3) := by decide +kernel
theorem dX12_spanAt_80 : decode cX12_spanAt 80 = .ok (.iload_n 3, 1) := by decide +kernel
theorem dX12_spanAt_81 : decode cX12_spanAt 81 = .ok (.ifCond .eq 8, 3) := by decide +kernel
theorem dX12_spanAt_84 : decode cX12_spanAt 84 = .ok (.iload 5, 2) := by decide +kernel
theorem dX12_spanAt_86 : decode cX12_spanAt 86 = .ok (.goto 4, 3) := by decide +kernel
theorem dX12_spanAt_89 : decode cX12_spanAt 89 = .ok (.iconst (-1), 1) := by decide +kernel
theorem dX12_spanAt_90 : decode cX12_spanAt 90 = .ok (.ireturn, 1) := by decide +kernel
set_option maxRecDepth 20000 in
theorem ggX12_highOf_X12_topOf : GoodIn wsX12_highOf wsX12_topOf := goodIn_r _ [6, 1, 7, 8, 9, 10, 11, 12, 13, 14, 15, 16, 17, 18, 19, 20, 21, 22, 23, 24, 25, 26, 27, 28, 29, 30, 31, 32, 33, 34, 35, 36, 37, 38, 39, 40, 41, 42, 43, 44, 45, 46] (by decide +kernel) (by decide +kernel)
set_option maxRecDepth 20000 in
theorem gX12_highOf_X12_topOf : GoodIn wsX12_highOf (wsV RX12 220 RX12 yX12_topOf wsX12_topOf) := goodIn_app (goodIn_of _ (by decide +kernel)) ggX12_highOf_X12_topOf
theorem dX12_highOf_0 : decode cX12_highOf 0 = .ok (.aload_n 0, 1) := by decide +kernel
theorem dX12_highOf_1 : decode cX12_highOf 1 = .ok (.iload_n 1, 1) := by decide +kernel
theorem dX12_highOf_2 : decode cX12_highOf 2 = .ok (.invokevirtual 220, 3) := by decide +kernel
theorem dX12_highOf_5 : decode cX12_highOf 5 = .ok (.istore_n 3, 1) := by decide +kernel
theorem dX12_highOf_6 : decode cX12_highOf 6 = .ok (.iload_n 2, 1) := by decide +kernel
theorem dX12_highOf_7 : decode cX12_highOf 7 = .ok (.istore 4, 2) := by decide +kernel
theorem dX12_highOf_9 : decode cX12_highOf 9 = .ok (.iload 4, 2) := by decide +kernel
theorem dX12_highOf_11 : decode cX12_highOf 11 = .ok (.iload_n 3, 1) := by decide +kernel
theorem dX12_highOf_12 : decode cX12_highOf 12 = .ok (.if_icmp .gt 37, 3) := by decide +kernel
theorem dX12_highOf_15 : decode cX12_highOf 15 = .ok (.aload_n 0, 1) := by decide +kernel
theorem dX12_highOf_16 : decode cX12_highOf 16 = .ok (.getfield 7, 3) := by decide +kernel
theorem dX12_highOf_19 : decode cX12_highOf 19 = .ok (.sipush 144, 3) := by decide +kernel
theorem dX12_highOf_22 : decode cX12_highOf 22 = .ok (.iload 4, 2) := by decide +kernel
theorem dX12_highOf_24 : decode cX12_highOf 24 = .ok (.imul, 1) := by decide +kernel
theorem dX12_highOf_25 : decode cX12_highOf 25 = .ok (.iload_n 1, 1) := by decide +kernel
theorem dX12_highOf_26 : decode cX12_highOf 26 = .ok (.iadd, 1) := by decide +kernel
theorem dX12_highOf_27 : decode cX12_highOf 27 = .ok (.iaload, 1) := by decide +kernel
theorem dX12_highOf_28 : decode cX12_highOf 28 = .ok (.aload_n 0, 1) := by decide +kernel
theorem dX12_highOf_29 : decode cX12_highOf 29 = .ok (.getfield 7, 3) := by decide +kernel
theorem dX12_highOf_32 : decode cX12_highOf 32 = .ok (.sipush 144, 3) := by decide +kernel
theorem dX12_highOf_35 : decode cX12_highOf 35 = .ok (.iload_n 2, 1) := by decide +kernel
theorem dX12_highOf_36 : decode cX12_highOf 36 = .ok (.imul, 1) := by decide +kernel
theorem dX12_highOf_37 : decode cX12_highOf 37 = .ok (.iload_n 1, 1) := by decide +kernel
theorem dX12_highOf_38 : decode cX12_highOf 38 = .ok (.iadd, 1) := by decide +kernel
theorem dX12_highOf_39 : decode cX12_highOf 39 = .ok (.iaload, 1) := by decide +kernel
theorem dX12_highOf_40 : decode cX12_highOf 40 = .ok (.if_icmp .ne 9, 3) := by decide +kernel
theorem dX12_highOf_43 : decode cX12_highOf 43 = .ok (.iinc 4 1, 3) := by decide +kernel
theorem dX12_highOf_46 : decode cX12_highOf 46 = .ok (.goto (-37), 3) := by decide +kernel
theorem dX12_highOf_49 : decode cX12_highOf 49 = .ok (.iload 4, 2) := by decide +kernel
theorem dX12_highOf_51 : decode cX12_highOf 51 = .ok (.iload_n 2, 1) := by decide +kernel
theorem dX12_highOf_52 : decode cX12_highOf 52 = .ok (.isub, 1) := by decide +kernel
theorem dX12_highOf_53 : decode cX12_highOf 53 = .ok (.ireturn, 1) := by decide +kernel
set_option maxRecDepth 20000 in
theorem ggX12_span_X12_noPlace : GoodIn wsX12_span wsX12_noPlace := goodIn_r _ [5, 6, 7, 8, 4, 9] (by decide +kernel) (by decide +kernel)
set_option maxRecDepth 20000 in
theorem gX12_span_X12_noPlace : GoodIn wsX12_span (va_wsS RX12 290 yX12_noPlace wsX12_noPlace) := goodIn_app (goodIn_of _ (by decide +kernel)) ggX12_span_X12_noPlace
set_option maxRecDepth 20000 in
theorem ggX12_span_X12_spanAt : GoodIn wsX12_span wsX12_spanAt := goodIn_r _ [13, 1, 14, 15, 16, 4, 17, 22, 23, 24, 25, 26, 27, 28, 29, 30, 31, 32, 33, 34, 35, 36, 37, 38, 39, 40, 41, 42, 43, 44, 45, 46, 47, 48, 49, 50, 51, 52, 53, 54, 55, 56, 57, 58, 59, 60, 61] (by decide +kernel) (by decide +kernel)
set_option maxRecDepth 20000 in
theorem gX12_span_X12_spanAt : GoodIn wsX12_span (wsV RX12 295 RX12 yX12_spanAt wsX12_spanAt) := goodIn_app (goodIn_of _ (by decide +kernel)) ggX12_span_X12_spanAt
set_option maxRecDepth 20000 in
theorem ggX12_span_X12_highOf : GoodIn wsX12_span wsX12_highOf := goodIn_r _ [21, 1, 14, 15, 16, 4, 17, 22, 23, 24, 25, 26, 27, 28, 29, 30, 31, 32, 33, 34, 35, 36, 37, 38, 39, 40, 41, 42, 43, 44, 45, 46, 47, 48, 49, 50, 51, 52, 53, 54, 55, 56, 57, 58, 59, 60, 61] (by decide +kernel) (by decide +kernel)
set_option maxRecDepth 20000 in
theorem gX12_span_X12_highOf : GoodIn wsX12_span (wsV RX12 299 RX12 yX12_highOf wsX12_highOf) := goodIn_app (goodIn_of _ (by decide +kernel)) ggX12_span_X12_highOf
theorem dX12_span_0 : decode cX12_span 0 = .ok (.iload_n 1, 1) := by decide +kernel
theorem dX12_span_1 : decode cX12_span 1 = .ok (.invokestatic 290, 3) := by decide +kernel
theorem dX12_span_4 : decode cX12_span 4 = .ok (.ifCond .eq 6, 3) := by decide +kernel
theorem dX12_span_7 : decode cX12_span 7 = .ok (.bipush (-101), 2) := by decide +kernel
theorem dX12_span_9 : decode cX12_span 9 = .ok (.ireturn, 1) := by decide +kernel
theorem dX12_span_10 : decode cX12_span 10 = .ok (.iload_n 2, 1) := by decide +kernel
theorem dX12_span_11 : decode cX12_span 11 = .ok (.iconst (-1), 1) := by decide +kernel
theorem dX12_span_12 : decode cX12_span 12 = .ok (.if_icmp .ne 11, 3) := by decide +kernel
theorem dX12_span_15 : decode cX12_span 15 = .ok (.aload_n 0, 1) := by decide +kernel
theorem dX12_span_16 : decode cX12_span 16 = .ok (.iload_n 1, 1) := by decide +kernel
theorem dX12_span_17 : decode cX12_span 17 = .ok (.iconst 0, 1) := by decide +kernel
theorem dX12_span_18 : decode cX12_span 18 = .ok (.iconst 1, 1) := by decide +kernel
theorem dX12_span_19 : decode cX12_span 19 = .ok (.invokevirtual 295, 3) := by decide +kernel
theorem dX12_span_22 : decode cX12_span 22 = .ok (.ireturn, 1) := by decide +kernel
theorem dX12_span_23 : decode cX12_span 23 = .ok (.iload_n 2, 1) := by decide +kernel
theorem dX12_span_24 : decode cX12_span 24 = .ok (.ifCond .ge 7, 3) := by decide +kernel
theorem dX12_span_27 : decode cX12_span 27 = .ok (.iconst (-1), 1) := by decide +kernel
theorem dX12_span_28 : decode cX12_span 28 = .ok (.goto 10, 3) := by decide +kernel
theorem dX12_span_31 : decode cX12_span 31 = .ok (.aload_n 0, 1) := by decide +kernel
theorem dX12_span_32 : decode cX12_span 32 = .ok (.iload_n 1, 1) := by decide +kernel
theorem dX12_span_33 : decode cX12_span 33 = .ok (.iload_n 2, 1) := by decide +kernel
theorem dX12_span_34 : decode cX12_span 34 = .ok (.iconst 0, 1) := by decide +kernel
theorem dX12_span_35 : decode cX12_span 35 = .ok (.invokevirtual 295, 3) := by decide +kernel
theorem dX12_span_38 : decode cX12_span 38 = .ok (.istore 4, 2) := by decide +kernel
theorem dX12_span_40 : decode cX12_span 40 = .ok (.iload 4, 2) := by decide +kernel
theorem dX12_span_42 : decode cX12_span 42 = .ok (.ifCond .ge 6, 3) := by decide +kernel
theorem dX12_span_45 : decode cX12_span 45 = .ok (.bipush (-101), 2) := by decide +kernel
theorem dX12_span_47 : decode cX12_span 47 = .ok (.ireturn, 1) := by decide +kernel
theorem dX12_span_48 : decode cX12_span 48 = .ok (.iload_n 3, 1) := by decide +kernel
theorem dX12_span_49 : decode cX12_span 49 = .ok (.ifCond .ne 19, 3) := by decide +kernel
theorem dX12_span_52 : decode cX12_span 52 = .ok (.aload_n 0, 1) := by decide +kernel
theorem dX12_span_53 : decode cX12_span 53 = .ok (.getfield 7, 3) := by decide +kernel
theorem dX12_span_56 : decode cX12_span 56 = .ok (.sipush 144, 3) := by decide +kernel
theorem dX12_span_59 : decode cX12_span 59 = .ok (.iload 4, 2) := by decide +kernel
theorem dX12_span_61 : decode cX12_span 61 = .ok (.imul, 1) := by decide +kernel
theorem dX12_span_62 : decode cX12_span 62 = .ok (.iload_n 1, 1) := by decide +kernel
theorem dX12_span_63 : decode cX12_span 63 = .ok (.iadd, 1) := by decide +kernel
theorem dX12_span_64 : decode cX12_span 64 = .ok (.iaload, 1) := by decide +kernel
theorem dX12_span_65 : decode cX12_span 65 = .ok (.goto 30, 3) := by decide +kernel
theorem dX12_span_68 : decode cX12_span 68 = .ok (.iload_n 3, 1) := by decide +kernel
theorem dX12_span_69 : decode cX12_span 69 = .ok (.iconst 1, 1) := by decide +kernel
theorem dX12_span_70 : decode cX12_span 70 = .ok (.if_icmp .ne 13, 3) := by decide +kernel
theorem dX12_span_73 : decode cX12_span 73 = .ok (.aload_n 0, 1) := by decide +kernel
theorem dX12_span_74 : decode cX12_span 74 = .ok (.iload_n 1, 1) := by decide +kernel
theorem dX12_span_75 : decode cX12_span 75 = .ok (.iload 4, 2) := by decide +kernel
theorem dX12_span_77 : decode cX12_span 77 = .ok (.invokevirtual 299, 3) := by decide +kernel
theorem dX12_span_80 : decode cX12_span 80 = .ok (.goto 15, 3) := by decide +kernel
theorem dX12_span_83 : decode cX12_span 83 = .ok (.iload_n 3, 1) := by decide +kernel
theorem dX12_span_84 : decode cX12_span 84 = .ok (.iconst 2, 1) := by decide +kernel
theorem dX12_span_85 : decode cX12_span 85 = .ok (.if_icmp .ne 8, 3) := by decide +kernel
theorem dX12_span_88 : decode cX12_span 88 = .ok (.iload 4, 2) := by decide +kernel
theorem dX12_span_90 : decode cX12_span 90 = .ok (.goto 5, 3) := by decide +kernel
theorem dX12_span_93 : decode cX12_span 93 = .ok (.bipush (-102), 2) := by decide +kernel
theorem dX12_span_95 : decode cX12_span 95 = .ok (.ireturn, 1) := by decide +kernel
set_option maxRecDepth 20000 in
theorem ggX12_thin_X12_in : GoodIn wsX12_thin wsX12_in := goodIn_r _ [7] (by decide +kernel) (by decide +kernel)
set_option maxRecDepth 20000 in
theorem gX12_thin_X12_in : GoodIn wsX12_thin (va_wsS RX12 84 yX12_in wsX12_in) := goodIn_app (goodIn_of _ (by decide +kernel)) ggX12_thin_X12_in
set_option maxRecDepth 20000 in
theorem ggX12_thin_X12_spanAt : GoodIn wsX12_thin wsX12_spanAt := goodIn_r _ [11, 3, 12, 13, 14, 6, 15, 20, 21, 22, 23, 24, 25, 26, 27, 28, 29, 30, 31, 32, 33, 34, 35, 36, 37, 38, 39, 40, 41, 42, 43, 44, 45, 46, 47, 48, 49, 50, 51, 52, 53, 54, 55, 56, 57, 58, 59] (by decide +kernel) (by decide +kernel)
set_option maxRecDepth 20000 in
theorem gX12_thin_X12_spanAt : GoodIn wsX12_thin (wsV RX12 295 RX12 yX12_spanAt wsX12_spanAt) := goodIn_app (goodIn_of _ (by decide +kernel)) ggX12_thin_X12_spanAt
set_option maxRecDepth 20000 in
theorem ggX12_thin_X12_highOf : GoodIn wsX12_thin wsX12_highOf := goodIn_r _ [19, 3, 12, 13, 14, 6, 15, 20, 21, 22, 23, 24, 25, 26, 27, 28, 29, 30, 31, 32, 33, 34, 35, 36, 37, 38, 39, 40, 41, 42, 43, 44, 45, 46, 47, 48, 49, 50, 51, 52, 53, 54, 55, 56, 57, 58, 59] (by decide +kernel) (by decide +kernel)
set_option maxRecDepth 20000 in
theorem gX12_thin_X12_highOf : GoodIn wsX12_thin (wsV RX12 299 RX12 yX12_highOf wsX12_highOf) := goodIn_app (goodIn_of _ (by decide +kernel)) ggX12_thin_X12_highOf
theorem dX12_thin_0 : decode cX12_thin 0 = .ok (.iload_n 1, 1) := by decide +kernel
theorem dX12_thin_1 : decode cX12_thin 1 = .ok (.i2l, 1) := by decide +kernel
theorem dX12_thin_2 : decode cX12_thin 2 = .ok (.lconst 1, 1) := by decide +kernel
theorem dX12_thin_3 : decode cX12_thin 3 = .ok (.ldc2_w 82, 3) := by decide +kernel
theorem dX12_thin_6 : decode cX12_thin 6 = .ok (.invokestatic 84, 3) := by decide +kernel
theorem dX12_thin_9 : decode cX12_thin 9 = .ok (.ifCond .eq 15, 3) := by decide +kernel
theorem dX12_thin_12 : decode cX12_thin 12 = .ok (.iload_n 2, 1) := by decide +kernel
theorem dX12_thin_13 : decode cX12_thin 13 = .ok (.i2l, 1) := by decide +kernel
theorem dX12_thin_14 : decode cX12_thin 14 = .ok (.lconst 1, 1) := by decide +kernel
theorem dX12_thin_15 : decode cX12_thin 15 = .ok (.ldc2_w 302, 3) := by decide +kernel
theorem dX12_thin_18 : decode cX12_thin 18 = .ok (.invokestatic 84, 3) := by decide +kernel
theorem dX12_thin_21 : decode cX12_thin 21 = .ok (.ifCond .ne 6, 3) := by decide +kernel
theorem dX12_thin_24 : decode cX12_thin 24 = .ok (.bipush (-102), 2) := by decide +kernel
theorem dX12_thin_26 : decode cX12_thin 26 = .ok (.ireturn, 1) := by decide +kernel
theorem dX12_thin_27 : decode cX12_thin 27 = .ok (.iconst 0, 1) := by decide +kernel
theorem dX12_thin_28 : decode cX12_thin 28 = .ok (.istore_n 3, 1) := by decide +kernel
theorem dX12_thin_29 : decode cX12_thin 29 = .ok (.iload_n 3, 1) := by decide +kernel
theorem dX12_thin_30 : decode cX12_thin 30 = .ok (.sipush 144, 3) := by decide +kernel
theorem dX12_thin_33 : decode cX12_thin 33 = .ok (.if_icmp .ge 74, 3) := by decide +kernel
theorem dX12_thin_36 : decode cX12_thin 36 = .ok (.aload_n 0, 1) := by decide +kernel
theorem dX12_thin_37 : decode cX12_thin 37 = .ok (.iload_n 3, 1) := by decide +kernel
theorem dX12_thin_38 : decode cX12_thin 38 = .ok (.iconst 0, 1) := by decide +kernel
theorem dX12_thin_39 : decode cX12_thin 39 = .ok (.iconst 1, 1) := by decide +kernel
theorem dX12_thin_40 : decode cX12_thin 40 = .ok (.invokevirtual 295, 3) := by decide +kernel
theorem dX12_thin_43 : decode cX12_thin 43 = .ok (.istore 4, 2) := by decide +kernel
theorem dX12_thin_45 : decode cX12_thin 45 = .ok (.iconst 0, 1) := by decide +kernel
theorem dX12_thin_46 : decode cX12_thin 46 = .ok (.istore 5, 2) := by decide +kernel
theorem dX12_thin_48 : decode cX12_thin 48 = .ok (.iload 5, 2) := by decide +kernel
theorem dX12_thin_50 : decode cX12_thin 50 = .ok (.iload 4, 2) := by decide +kernel
theorem dX12_thin_52 : decode cX12_thin 52 = .ok (.if_icmp .ge 49, 3) := by decide +kernel
theorem dX12_thin_55 : decode cX12_thin 55 = .ok (.aload_n 0, 1) := by decide +kernel
theorem dX12_thin_56 : decode cX12_thin 56 = .ok (.iload_n 3, 1) := by decide +kernel
theorem dX12_thin_57 : decode cX12_thin 57 = .ok (.iload 5, 2) := by decide +kernel
theorem dX12_thin_59 : decode cX12_thin 59 = .ok (.iconst 0, 1) := by decide +kernel
theorem dX12_thin_60 : decode cX12_thin 60 = .ok (.invokevirtual 295, 3) := by decide +kernel
theorem dX12_thin_63 : decode cX12_thin 63 = .ok (.istore 6, 2) := by decide +kernel
theorem dX12_thin_65 : decode cX12_thin 65 = .ok (.aload_n 0, 1) := by decide +kernel
theorem dX12_thin_66 : decode cX12_thin 66 = .ok (.getfield 7, 3) := by decide +kernel
theorem dX12_thin_69 : decode cX12_thin 69 = .ok (.sipush 144, 3) := by decide +kernel
theorem dX12_thin_72 : decode cX12_thin 72 = .ok (.iload 6, 2) := by decide +kernel
theorem dX12_thin_74 : decode cX12_thin 74 = .ok (.imul, 1) := by decide +kernel
theorem dX12_thin_75 : decode cX12_thin 75 = .ok (.iload_n 3, 1) := by decide +kernel
theorem dX12_thin_76 : decode cX12_thin 76 = .ok (.iadd, 1) := by decide +kernel
theorem dX12_thin_77 : decode cX12_thin 77 = .ok (.iaload, 1) := by decide +kernel
theorem dX12_thin_78 : decode cX12_thin 78 = .ok (.iload_n 1, 1) := by decide +kernel
theorem dX12_thin_79 : decode cX12_thin 79 = .ok (.if_icmp .ne 16, 3) := by decide +kernel
theorem dX12_thin_82 : decode cX12_thin 82 = .ok (.aload_n 0, 1) := by decide +kernel
theorem dX12_thin_83 : decode cX12_thin 83 = .ok (.iload_n 3, 1) := by decide +kernel
theorem dX12_thin_84 : decode cX12_thin 84 = .ok (.iload 6, 2) := by decide +kernel
theorem dX12_thin_86 : decode cX12_thin 86 = .ok (.invokevirtual 299, 3) := by decide +kernel
theorem dX12_thin_89 : decode cX12_thin 89 = .ok (.iload_n 2, 1) := by decide +kernel
theorem dX12_thin_90 : decode cX12_thin 90 = .ok (.if_icmp .ge 5, 3) := by decide +kernel
theorem dX12_thin_93 : decode cX12_thin 93 = .ok (.iload_n 3, 1) := by decide +kernel
theorem dX12_thin_94 : decode cX12_thin 94 = .ok (.ireturn, 1) := by decide +kernel
theorem dX12_thin_95 : decode cX12_thin 95 = .ok (.iinc 5 1, 3) := by decide +kernel
theorem dX12_thin_98 : decode cX12_thin 98 = .ok (.goto (-50), 3) := by decide +kernel
theorem dX12_thin_101 : decode cX12_thin 101 = .ok (.iinc 3 1, 3) := by decide +kernel
theorem dX12_thin_104 : decode cX12_thin 104 = .ok (.goto (-75), 3) := by decide +kernel
theorem dX12_thin_107 : decode cX12_thin 107 = .ok (.iconst (-1), 1) := by decide +kernel
theorem dX12_thin_108 : decode cX12_thin 108 = .ok (.ireturn, 1) := by decide +kernel
set_option maxRecDepth 20000 in
theorem ggX12_findNets_X12_clearMarks : GoodIn wsX12_findNets wsX12_clearMarks := goodIn_r _ [9, 10, 3, 22, 23, 24, 25, 26, 27, 28, 29, 30, 31, 32, 33, 34, 35, 36, 37, 38, 39, 40, 41, 42, 43, 44, 45, 46, 47, 48, 49, 50, 51, 52, 53, 54, 55, 56, 57, 58, 59, 60, 61] (by decide +kernel) (by decide +kernel)
set_option maxRecDepth 20000 in
theorem gX12_findNets_X12_clearMarks : GoodIn wsX12_findNets (wsV RX12 214 RX12 yX12_clearMarks wsX12_clearMarks) := goodIn_app (goodIn_of _ (by decide +kernel)) ggX12_findNets_X12_clearMarks
set_option maxRecDepth 20000 in
theorem ggX12_findNets_X12_come : GoodIn wsX12_findNets wsX12_come := goodIn_r _ [14, 10, 4, 3, 22, 23, 24, 25, 26, 27, 28, 29, 30, 31, 32, 33, 34, 35, 36, 37, 38, 39, 40, 41, 42, 43, 44, 45, 46, 47, 48, 49, 50, 51, 52, 53, 54, 55, 56, 57, 58, 59, 60, 61] (by decide +kernel) (by decide +kernel)
set_option maxRecDepth 20000 in
theorem gX12_findNets_X12_come : GoodIn wsX12_findNets (wsV RX12 211 RX12 yX12_come wsX12_come) := goodIn_app (goodIn_of _ (by decide +kernel)) ggX12_findNets_X12_come
set_option maxRecDepth 20000 in
theorem ggX12_findNets_X12_spread : GoodIn wsX12_findNets wsX12_spread := goodIn_r _ [18, 3, 4, 2, 19, 20, 8, 21, 11, 12, 13, 14, 10, 22, 23, 24, 25, 26, 27, 28, 29, 30, 31, 32, 33, 34, 35, 36, 37, 38, 39, 40, 41, 42, 43, 44, 45, 46, 47, 48, 49, 50, 51, 52, 53, 54, 55, 56, 57, 58, 59, 60, 61] (by decide +kernel) (by decide +kernel)
set_option maxRecDepth 20000 in
theorem gX12_findNets_X12_spread : GoodIn wsX12_findNets (wsV RX12 217 RX12 yX12_spread wsX12_spread) := goodIn_app (goodIn_of _ (by decide +kernel)) ggX12_findNets_X12_spread
theorem dX12_findNets_0 : decode cX12_findNets 0 = .ok (.iload_n 1, 1) := by decide +kernel
theorem dX12_findNets_1 : decode cX12_findNets 1 = .ok (.iconst 1, 1) := by decide +kernel
theorem dX12_findNets_2 : decode cX12_findNets 2 = .ok (.ishl, 1) := by decide +kernel
theorem dX12_findNets_3 : decode cX12_findNets 3 = .ok (.istore_n 2, 1) := by decide +kernel
theorem dX12_findNets_4 : decode cX12_findNets 4 = .ok (.iconst 0, 1) := by decide +kernel
theorem dX12_findNets_5 : decode cX12_findNets 5 = .ok (.istore_n 3, 1) := by decide +kernel
theorem dX12_findNets_6 : decode cX12_findNets 6 = .ok (.iconst 0, 1) := by decide +kernel
theorem dX12_findNets_7 : decode cX12_findNets 7 = .ok (.istore 4, 2) := by decide +kernel
theorem dX12_findNets_9 : decode cX12_findNets 9 = .ok (.iload 4, 2) := by decide +kernel
theorem dX12_findNets_11 : decode cX12_findNets 11 = .ok (.sipush 2880, 3) := by decide +kernel
theorem dX12_findNets_14 : decode cX12_findNets 14 = .ok (.if_icmp .ge 17, 3) := by decide +kernel
theorem dX12_findNets_17 : decode cX12_findNets 17 = .ok (.aload_n 0, 1) := by decide +kernel
theorem dX12_findNets_18 : decode cX12_findNets 18 = .ok (.getfield 70, 3) := by decide +kernel
theorem dX12_findNets_21 : decode cX12_findNets 21 = .ok (.iload 4, 2) := by decide +kernel
theorem dX12_findNets_23 : decode cX12_findNets 23 = .ok (.iconst (-1), 1) := by decide +kernel
theorem dX12_findNets_24 : decode cX12_findNets 24 = .ok (.iastore, 1) := by decide +kernel
theorem dX12_findNets_25 : decode cX12_findNets 25 = .ok (.iinc 4 1, 3) := by decide +kernel
theorem dX12_findNets_28 : decode cX12_findNets 28 = .ok (.goto (-19), 3) := by decide +kernel
theorem dX12_findNets_31 : decode cX12_findNets 31 = .ok (.iconst 0, 1) := by decide +kernel
theorem dX12_findNets_32 : decode cX12_findNets 32 = .ok (.istore 4, 2) := by decide +kernel
theorem dX12_findNets_34 : decode cX12_findNets 34 = .ok (.iload 4, 2) := by decide +kernel
theorem dX12_findNets_36 : decode cX12_findNets 36 = .ok (.sipush 2880, 3) := by decide +kernel
theorem dX12_findNets_39 : decode cX12_findNets 39 = .ok (.if_icmp .ge 83, 3) := by decide +kernel
theorem dX12_findNets_42 : decode cX12_findNets 42 = .ok (.aload_n 0, 1) := by decide +kernel
theorem dX12_findNets_43 : decode cX12_findNets 43 = .ok (.getfield 70, 3) := by decide +kernel
theorem dX12_findNets_46 : decode cX12_findNets 46 = .ok (.iload 4, 2) := by decide +kernel
theorem dX12_findNets_48 : decode cX12_findNets 48 = .ok (.iaload, 1) := by decide +kernel
theorem dX12_findNets_49 : decode cX12_findNets 49 = .ok (.ifCond .ge 67, 3) := by decide +kernel
theorem dX12_findNets_52 : decode cX12_findNets 52 = .ok (.iload_n 2, 1) := by decide +kernel
theorem dX12_findNets_53 : decode cX12_findNets 53 = .ok (.aload_n 0, 1) := by decide +kernel
theorem dX12_findNets_54 : decode cX12_findNets 54 = .ok (.getfield 7, 3) := by decide +kernel
theorem dX12_findNets_57 : decode cX12_findNets 57 = .ok (.iload 4, 2) := by decide +kernel
theorem dX12_findNets_59 : decode cX12_findNets 59 = .ok (.iaload, 1) := by decide +kernel
theorem dX12_findNets_60 : decode cX12_findNets 60 = .ok (.ishr, 1) := by decide +kernel
theorem dX12_findNets_61 : decode cX12_findNets 61 = .ok (.iconst 1, 1) := by decide +kernel
theorem dX12_findNets_62 : decode cX12_findNets 62 = .ok (.iand, 1) := by decide +kernel
theorem dX12_findNets_63 : decode cX12_findNets 63 = .ok (.iconst 1, 1) := by decide +kernel
theorem dX12_findNets_64 : decode cX12_findNets 64 = .ok (.if_icmp .ne 52, 3) := by decide +kernel
theorem dX12_findNets_67 : decode cX12_findNets 67 = .ok (.aload_n 0, 1) := by decide +kernel
theorem dX12_findNets_68 : decode cX12_findNets 68 = .ok (.invokevirtual 214, 3) := by decide +kernel
theorem dX12_findNets_71 : decode cX12_findNets 71 = .ok (.aload_n 0, 1) := by decide +kernel
theorem dX12_findNets_72 : decode cX12_findNets 72 = .ok (.iload 4, 2) := by decide +kernel
theorem dX12_findNets_74 : decode cX12_findNets 74 = .ok (.invokevirtual 211, 3) := by decide +kernel
theorem dX12_findNets_77 : decode cX12_findNets 77 = .ok (.aload_n 0, 1) := by decide +kernel
theorem dX12_findNets_78 : decode cX12_findNets 78 = .ok (.iload_n 2, 1) := by decide +kernel
theorem dX12_findNets_79 : decode cX12_findNets 79 = .ok (.invokevirtual 217, 3) := by decide +kernel
theorem dX12_findNets_82 : decode cX12_findNets 82 = .ok (.iconst 0, 1) := by decide +kernel
theorem dX12_findNets_83 : decode cX12_findNets 83 = .ok (.istore 5, 2) := by decide +kernel
theorem dX12_findNets_85 : decode cX12_findNets 85 = .ok (.iload 5, 2) := by decide +kernel
theorem dX12_findNets_87 : decode cX12_findNets 87 = .ok (.aload_n 0, 1) := by decide +kernel
theorem dX12_findNets_88 : decode cX12_findNets 88 = .ok (.getfield 205, 3) := by decide +kernel
theorem dX12_findNets_91 : decode cX12_findNets 91 = .ok (.if_icmp .ge 22, 3) := by decide +kernel
theorem dX12_findNets_94 : decode cX12_findNets 94 = .ok (.aload_n 0, 1) := by decide +kernel
theorem dX12_findNets_95 : decode cX12_findNets 95 = .ok (.getfield 70, 3) := by decide +kernel
theorem dX12_findNets_98 : decode cX12_findNets 98 = .ok (.aload_n 0, 1) := by decide +kernel
theorem dX12_findNets_99 : decode cX12_findNets 99 = .ok (.getfield 48, 3) := by decide +kernel
theorem dX12_findNets_102 : decode cX12_findNets 102 = .ok (.iload 5, 2) := by decide +kernel
theorem dX12_findNets_104 : decode cX12_findNets 104 = .ok (.iaload, 1) := by decide +kernel
theorem dX12_findNets_105 : decode cX12_findNets 105 = .ok (.iload_n 3, 1) := by decide +kernel
theorem dX12_findNets_106 : decode cX12_findNets 106 = .ok (.iastore, 1) := by decide +kernel
theorem dX12_findNets_107 : decode cX12_findNets 107 = .ok (.iinc 5 1, 3) := by decide +kernel
theorem dX12_findNets_110 : decode cX12_findNets 110 = .ok (.goto (-25), 3) := by decide +kernel
theorem dX12_findNets_113 : decode cX12_findNets 113 = .ok (.iinc 3 1, 3) := by decide +kernel
theorem dX12_findNets_116 : decode cX12_findNets 116 = .ok (.iinc 4 1, 3) := by decide +kernel
theorem dX12_findNets_119 : decode cX12_findNets 119 = .ok (.goto (-85), 3) := by decide +kernel
theorem dX12_findNets_122 : decode cX12_findNets 122 = .ok (.iload_n 3, 1) := by decide +kernel
theorem dX12_findNets_123 : decode cX12_findNets 123 = .ok (.ireturn, 1) := by decide +kernel
set_option maxRecDepth 20000 in
theorem ggX12_nets_X12_in : GoodIn wsX12_nets wsX12_in := goodIn_r _ [5] (by decide +kernel) (by decide +kernel)
set_option maxRecDepth 20000 in
theorem gX12_nets_X12_in : GoodIn wsX12_nets (va_wsS RX12 84 yX12_in wsX12_in) := goodIn_app (goodIn_of _ (by decide +kernel)) ggX12_nets_X12_in
set_option maxRecDepth 20000 in
theorem ggX12_nets_X12_findNets : GoodIn wsX12_nets wsX12_findNets := goodIn_r _ [9, 10, 11, 12, 13, 14, 15, 16, 4, 17, 18, 19, 20, 21, 22, 23, 24, 25, 26, 27, 28, 29, 30, 31, 32, 33, 34, 35, 36, 37, 38, 39, 40, 41, 42, 43, 44, 45, 46, 47, 48, 49, 50, 51, 52, 53, 54, 55, 56, 57, 58, 59, 60, 61, 62, 63, 64, 65, 66, 67, 68, 69] (by decide +kernel) (by decide +kernel)
set_option maxRecDepth 20000 in
theorem gX12_nets_X12_findNets : GoodIn wsX12_nets (wsV RX12 306 RX12 yX12_findNets wsX12_findNets) := goodIn_app (goodIn_of _ (by decide +kernel)) ggX12_nets_X12_findNets
theorem dX12_nets_0 : decode cX12_nets 0 = .ok (.iload_n 1, 1) := by decide +kernel
theorem dX12_nets_1 : decode cX12_nets 1 = .ok (.i2l, 1) := by decide +kernel
theorem dX12_nets_2 : decode cX12_nets 2 = .ok (.lconst 0, 1) := by decide +kernel
theorem dX12_nets_3 : decode cX12_nets 3 = .ok (.ldc2_w 304, 3) := by decide +kernel
theorem dX12_nets_6 : decode cX12_nets 6 = .ok (.invokestatic 84, 3) := by decide +kernel
theorem dX12_nets_9 : decode cX12_nets 9 = .ok (.ifCond .eq 11, 3) := by decide +kernel
theorem dX12_nets_12 : decode cX12_nets 12 = .ok (.aload_n 0, 1) := by decide +kernel
theorem dX12_nets_13 : decode cX12_nets 13 = .ok (.iload_n 1, 1) := by decide +kernel
theorem dX12_nets_14 : decode cX12_nets 14 = .ok (.invokevirtual 306, 3) := by decide +kernel
theorem dX12_nets_17 : decode cX12_nets 17 = .ok (.goto 5, 3) := by decide +kernel
theorem dX12_nets_20 : decode cX12_nets 20 = .ok (.bipush (-102), 2) := by decide +kernel
theorem dX12_nets_22 : decode cX12_nets 22 = .ok (.ireturn, 1) := by decide +kernel
set_option maxRecDepth 20000 in
theorem ggX12_netOf_X12_noPlace : GoodIn wsX12_netOf wsX12_noPlace := goodIn_r _ [7, 8, 9, 10, 6, 11] (by decide +kernel) (by decide +kernel)
set_option maxRecDepth 20000 in
theorem gX12_netOf_X12_noPlace : GoodIn wsX12_netOf (va_wsS RX12 290 yX12_noPlace wsX12_noPlace) := goodIn_app (goodIn_of _ (by decide +kernel)) ggX12_netOf_X12_noPlace
set_option maxRecDepth 20000 in
theorem ggX12_netOf_X12_in : GoodIn wsX12_netOf wsX12_in := goodIn_r _ [11] (by decide +kernel) (by decide +kernel)
set_option maxRecDepth 20000 in
theorem gX12_netOf_X12_in : GoodIn wsX12_netOf (va_wsS RX12 84 yX12_in wsX12_in) := goodIn_app (goodIn_of _ (by decide +kernel)) ggX12_netOf_X12_in
set_option maxRecDepth 20000 in
theorem ggX12_netOf_X12_findNets : GoodIn wsX12_netOf wsX12_findNets := goodIn_r _ [15, 3, 16, 17, 18, 19, 20, 21, 6, 22, 23, 24, 25, 26, 27, 28, 29, 30, 31, 32, 33, 34, 35, 36, 37, 38, 39, 40, 41, 42, 43, 44, 45, 46, 47, 48, 49, 50, 51, 52, 53, 54, 55, 56, 57, 58, 59, 60, 61, 62, 63, 64, 65, 66, 67, 68, 69, 70, 71, 72, 73, 74] (by decide +kernel) (by decide +kernel)
set_option maxRecDepth 20000 in
theorem gX12_netOf_X12_findNets : GoodIn wsX12_netOf (wsV RX12 306 RX12 yX12_findNets wsX12_findNets) := goodIn_app (goodIn_of _ (by decide +kernel)) ggX12_netOf_X12_findNets
theorem dX12_netOf_0 : decode cX12_netOf 0 = .ok (.iload_n 1, 1) := by decide +kernel
theorem dX12_netOf_1 : decode cX12_netOf 1 = .ok (.invokestatic 290, 3) := by decide +kernel
theorem dX12_netOf_4 : decode cX12_netOf 4 = .ok (.ifCond .ne 15, 3) := by decide +kernel
theorem dX12_netOf_7 : decode cX12_netOf 7 = .ok (.iload_n 2, 1) := by decide +kernel
theorem dX12_netOf_8 : decode cX12_netOf 8 = .ok (.i2l, 1) := by decide +kernel
theorem dX12_netOf_9 : decode cX12_netOf 9 = .ok (.lconst 0, 1) := by decide +kernel
theorem dX12_netOf_10 : decode cX12_netOf 10 = .ok (.ldc2_w 293, 3) := by decide +kernel
theorem dX12_netOf_13 : decode cX12_netOf 13 = .ok (.invokestatic 84, 3) := by decide +kernel
theorem dX12_netOf_16 : decode cX12_netOf 16 = .ok (.ifCond .ne 6, 3) := by decide +kernel
theorem dX12_netOf_19 : decode cX12_netOf 19 = .ok (.bipush (-101), 2) := by decide +kernel
theorem dX12_netOf_21 : decode cX12_netOf 21 = .ok (.ireturn, 1) := by decide +kernel
theorem dX12_netOf_22 : decode cX12_netOf 22 = .ok (.iload_n 3, 1) := by decide +kernel
theorem dX12_netOf_23 : decode cX12_netOf 23 = .ok (.i2l, 1) := by decide +kernel
theorem dX12_netOf_24 : decode cX12_netOf 24 = .ok (.lconst 0, 1) := by decide +kernel
theorem dX12_netOf_25 : decode cX12_netOf 25 = .ok (.ldc2_w 304, 3) := by decide +kernel
theorem dX12_netOf_28 : decode cX12_netOf 28 = .ok (.invokestatic 84, 3) := by decide +kernel
theorem dX12_netOf_31 : decode cX12_netOf 31 = .ok (.ifCond .ne 6, 3) := by decide +kernel
theorem dX12_netOf_34 : decode cX12_netOf 34 = .ok (.bipush (-102), 2) := by decide +kernel
theorem dX12_netOf_36 : decode cX12_netOf 36 = .ok (.ireturn, 1) := by decide +kernel
theorem dX12_netOf_37 : decode cX12_netOf 37 = .ok (.aload_n 0, 1) := by decide +kernel
theorem dX12_netOf_38 : decode cX12_netOf 38 = .ok (.iload_n 3, 1) := by decide +kernel
theorem dX12_netOf_39 : decode cX12_netOf 39 = .ok (.invokevirtual 306, 3) := by decide +kernel
theorem dX12_netOf_42 : decode cX12_netOf 42 = .ok (.istore 4, 2) := by decide +kernel
theorem dX12_netOf_44 : decode cX12_netOf 44 = .ok (.aload_n 0, 1) := by decide +kernel
theorem dX12_netOf_45 : decode cX12_netOf 45 = .ok (.getfield 70, 3) := by decide +kernel
theorem dX12_netOf_48 : decode cX12_netOf 48 = .ok (.sipush 144, 3) := by decide +kernel
theorem dX12_netOf_51 : decode cX12_netOf 51 = .ok (.iload_n 2, 1) := by decide +kernel
theorem dX12_netOf_52 : decode cX12_netOf 52 = .ok (.imul, 1) := by decide +kernel
theorem dX12_netOf_53 : decode cX12_netOf 53 = .ok (.iload_n 1, 1) := by decide +kernel
theorem dX12_netOf_54 : decode cX12_netOf 54 = .ok (.iadd, 1) := by decide +kernel
theorem dX12_netOf_55 : decode cX12_netOf 55 = .ok (.iaload, 1) := by decide +kernel
theorem dX12_netOf_56 : decode cX12_netOf 56 = .ok (.ireturn, 1) := by decide +kernel
set_option maxRecDepth 20000 in
theorem ggX12_net_X12_in : GoodIn wsX12_net wsX12_in := goodIn_r _ [6] (by decide +kernel) (by decide +kernel)
set_option maxRecDepth 20000 in
theorem gX12_net_X12_in : GoodIn wsX12_net (va_wsS RX12 84 yX12_in wsX12_in) := goodIn_app (goodIn_of _ (by decide +kernel)) ggX12_net_X12_in
set_option maxRecDepth 20000 in
theorem ggX12_net_X12_findNets : GoodIn wsX12_net wsX12_findNets := goodIn_r _ [10, 2, 11, 12, 13, 14, 15, 16, 5, 17, 18, 19, 20, 21, 22, 23, 24, 25, 26, 27, 28, 29, 30, 31, 32, 33, 34, 35, 36, 37, 38, 39, 40, 41, 42, 43, 44, 45, 46, 47, 48, 49, 50, 51, 52, 53, 54, 55, 56, 57, 58, 59, 60, 61, 62, 63, 64, 65, 66, 67, 68, 69] (by decide +kernel) (by decide +kernel)
set_option maxRecDepth 20000 in
theorem gX12_net_X12_findNets : GoodIn wsX12_net (wsV RX12 306 RX12 yX12_findNets wsX12_findNets) := goodIn_app (goodIn_of _ (by decide +kernel)) ggX12_net_X12_findNets
theorem dX12_net_0 : decode cX12_net 0 = .ok (.iload_n 2, 1) := by decide +kernel
theorem dX12_net_1 : decode cX12_net 1 = .ok (.i2l, 1) := by decide +kernel
theorem dX12_net_2 : decode cX12_net 2 = .ok (.lconst 0, 1) := by decide +kernel
theorem dX12_net_3 : decode cX12_net 3 = .ok (.ldc2_w 304, 3) := by decide +kernel
theorem dX12_net_6 : decode cX12_net 6 = .ok (.invokestatic 84, 3) := by decide +kernel
theorem dX12_net_9 : decode cX12_net 9 = .ok (.ifCond .ne 6, 3) := by decide +kernel
theorem dX12_net_12 : decode cX12_net 12 = .ok (.bipush (-102), 2) := by decide +kernel
theorem dX12_net_14 : decode cX12_net 14 = .ok (.ireturn, 1) := by decide +kernel
theorem dX12_net_15 : decode cX12_net 15 = .ok (.iload_n 1, 1) := by decide +kernel
theorem dX12_net_16 : decode cX12_net 16 = .ok (.i2l, 1) := by decide +kernel
theorem dX12_net_17 : decode cX12_net 17 = .ok (.lconst 0, 1) := by decide +kernel
theorem dX12_net_18 : decode cX12_net 18 = .ok (.aload_n 0, 1) := by decide +kernel
theorem dX12_net_19 : decode cX12_net 19 = .ok (.iload_n 2, 1) := by decide +kernel
theorem dX12_net_20 : decode cX12_net 20 = .ok (.invokevirtual 306, 3) := by decide +kernel
theorem dX12_net_23 : decode cX12_net 23 = .ok (.iconst 1, 1) := by decide +kernel
theorem dX12_net_24 : decode cX12_net 24 = .ok (.isub, 1) := by decide +kernel
theorem dX12_net_25 : decode cX12_net 25 = .ok (.i2l, 1) := by decide +kernel
theorem dX12_net_26 : decode cX12_net 26 = .ok (.invokestatic 84, 3) := by decide +kernel
theorem dX12_net_29 : decode cX12_net 29 = .ok (.ifCond .ne 6, 3) := by decide +kernel
theorem dX12_net_32 : decode cX12_net 32 = .ok (.bipush (-101), 2) := by decide +kernel
theorem dX12_net_34 : decode cX12_net 34 = .ok (.ireturn, 1) := by decide +kernel
theorem dX12_net_35 : decode cX12_net 35 = .ok (.iconst (-1), 1) := by decide +kernel
theorem dX12_net_36 : decode cX12_net 36 = .ok (.istore 4, 2) := by decide +kernel
theorem dX12_net_38 : decode cX12_net 38 = .ok (.iconst 0, 1) := by decide +kernel
theorem dX12_net_39 : decode cX12_net 39 = .ok (.istore 5, 2) := by decide +kernel
theorem dX12_net_41 : decode cX12_net 41 = .ok (.bipush 20, 2) := by decide +kernel
theorem dX12_net_43 : decode cX12_net 43 = .ok (.istore 6, 2) := by decide +kernel
theorem dX12_net_45 : decode cX12_net 45 = .ok (.iconst (-1), 1) := by decide +kernel
theorem dX12_net_46 : decode cX12_net 46 = .ok (.istore 7, 2) := by decide +kernel
theorem dX12_net_48 : decode cX12_net 48 = .ok (.iconst 0, 1) := by decide +kernel
theorem dX12_net_49 : decode cX12_net 49 = .ok (.istore 8, 2) := by decide +kernel
theorem dX12_net_51 : decode cX12_net 51 = .ok (.iconst 0, 1) := by decide +kernel
theorem dX12_net_52 : decode cX12_net 52 = .ok (.istore 9, 2) := by decide +kernel
theorem dX12_net_54 : decode cX12_net 54 = .ok (.iload 9, 2) := by decide +kernel
theorem dX12_net_56 : decode cX12_net 56 = .ok (.sipush 144, 3) := by decide +kernel
theorem dX12_net_59 : decode cX12_net 59 = .ok (.if_icmp .ge 124, 3) := by decide +kernel
theorem dX12_net_62 : decode cX12_net 62 = .ok (.iconst 0, 1) := by decide +kernel
theorem dX12_net_63 : decode cX12_net 63 = .ok (.istore 10, 2) := by decide +kernel
theorem dX12_net_65 : decode cX12_net 65 = .ok (.iconst 0, 1) := by decide +kernel
theorem dX12_net_66 : decode cX12_net 66 = .ok (.istore 11, 2) := by decide +kernel
theorem dX12_net_68 : decode cX12_net 68 = .ok (.iload 11, 2) := by decide +kernel
theorem dX12_net_70 : decode cX12_net 70 = .ok (.bipush 20, 2) := by decide +kernel
theorem dX12_net_72 : decode cX12_net 72 = .ok (.if_icmp .ge 90, 3) := by decide +kernel
theorem dX12_net_75 : decode cX12_net 75 = .ok (.sipush 144, 3) := by decide +kernel
theorem dX12_net_78 : decode cX12_net 78 = .ok (.iload 11, 2) := by decide +kernel
theorem dX12_net_80 : decode cX12_net 80 = .ok (.imul, 1) := by decide +kernel
theorem dX12_net_81 : decode cX12_net 81 = .ok (.iload 9, 2) := by decide +kernel
theorem dX12_net_83 : decode cX12_net 83 = .ok (.iadd, 1) := by decide +kernel
theorem dX12_net_84 : decode cX12_net 84 = .ok (.istore 12, 2) := by decide +kernel
theorem dX12_net_86 : decode cX12_net 86 = .ok (.aload_n 0, 1) := by decide +kernel
theorem dX12_net_87 : decode cX12_net 87 = .ok (.getfield 70, 3) := by decide +kernel
theorem dX12_net_90 : decode cX12_net 90 = .ok (.iload 12, 2) := by decide +kernel
theorem dX12_net_92 : decode cX12_net 92 = .ok (.iaload, 1) := by decide +kernel
theorem dX12_net_93 : decode cX12_net 93 = .ok (.iload_n 1, 1) := by decide +kernel
theorem dX12_net_94 : decode cX12_net 94 = .ok (.if_icmp .ne 62, 3) := by decide +kernel
theorem dX12_net_97 : decode cX12_net 97 = .ok (.iload 4, 2) := by decide +kernel
theorem dX12_net_99 : decode cX12_net 99 = .ok (.ifCond .lt 10, 3) := by decide +kernel
theorem dX12_net_102 : decode cX12_net 102 = .ok (.iload 12, 2) := by decide +kernel
theorem dX12_net_104 : decode cX12_net 104 = .ok (.iload 4, 2) := by decide +kernel
theorem dX12_net_106 : decode cX12_net 106 = .ok (.if_icmp .ge 8, 3) := by decide +kernel
theorem dX12_net_109 : decode cX12_net 109 = .ok (.iload 12, 2) := by decide +kernel
theorem dX12_net_111 : decode cX12_net 111 = .ok (.goto 5, 3) := by decide +kernel
theorem dX12_net_114 : decode cX12_net 114 = .ok (.iload 4, 2) := by decide +kernel
theorem dX12_net_116 : decode cX12_net 116 = .ok (.istore 4, 2) := by decide +kernel
theorem dX12_net_118 : decode cX12_net 118 = .ok (.iinc 5 1, 3) := by decide +kernel
theorem dX12_net_121 : decode cX12_net 121 = .ok (.iload 11, 2) := by decide +kernel
theorem dX12_net_123 : decode cX12_net 123 = .ok (.iload 6, 2) := by decide +kernel
theorem dX12_net_125 : decode cX12_net 125 = .ok (.if_icmp .ge 8, 3) := by decide +kernel
theorem dX12_net_128 : decode cX12_net 128 = .ok (.iload 11, 2) := by decide +kernel
theorem dX12_net_130 : decode cX12_net 130 = .ok (.goto 5, 3) := by decide +kernel
theorem dX12_net_133 : decode cX12_net 133 = .ok (.iload 6, 2) := by decide +kernel
theorem dX12_net_135 : decode cX12_net 135 = .ok (.istore 6, 2) := by decide +kernel
theorem dX12_net_137 : decode cX12_net 137 = .ok (.iload 11, 2) := by decide +kernel
theorem dX12_net_139 : decode cX12_net 139 = .ok (.iload 7, 2) := by decide +kernel
theorem dX12_net_141 : decode cX12_net 141 = .ok (.if_icmp .le 8, 3) := by decide +kernel
theorem dX12_net_144 : decode cX12_net 144 = .ok (.iload 11, 2) := by decide +kernel
theorem dX12_net_146 : decode cX12_net 146 = .ok (.goto 5, 3) := by decide +kernel
theorem dX12_net_149 : decode cX12_net 149 = .ok (.iload 7, 2) := by decide +kernel
theorem dX12_net_151 : decode cX12_net 151 = .ok (.istore 7, 2) := by decide +kernel
theorem dX12_net_153 : decode cX12_net 153 = .ok (.iconst 1, 1) := by decide +kernel
theorem dX12_net_154 : decode cX12_net 154 = .ok (.istore 10, 2) := by decide +kernel
theorem dX12_net_156 : decode cX12_net 156 = .ok (.iinc 11 1, 3) := by decide +kernel
theorem dX12_net_159 : decode cX12_net 159 = .ok (.goto (-91), 3) := by decide +kernel
theorem dX12_net_162 : decode cX12_net 162 = .ok (.iload 8, 2) := by decide +kernel
theorem dX12_net_164 : decode cX12_net 164 = .ok (.iload 10, 2) := by decide +kernel
theorem dX12_net_166 : decode cX12_net 166 = .ok (.ifCond .eq 7, 3) := by decide +kernel
theorem dX12_net_169 : decode cX12_net 169 = .ok (.iconst 1, 1) := by decide +kernel
theorem dX12_net_170 : decode cX12_net 170 = .ok (.goto 4, 3) := by decide +kernel
theorem dX12_net_173 : decode cX12_net 173 = .ok (.iconst 0, 1) := by decide +kernel
theorem dX12_net_174 : decode cX12_net 174 = .ok (.iadd, 1) := by decide +kernel
theorem dX12_net_175 : decode cX12_net 175 = .ok (.istore 8, 2) := by decide +kernel
theorem dX12_net_177 : decode cX12_net 177 = .ok (.iinc 9 1, 3) := by decide +kernel
theorem dX12_net_180 : decode cX12_net 180 = .ok (.goto (-126), 3) := by decide +kernel
theorem dX12_net_183 : decode cX12_net 183 = .ok (.iload_n 3, 1) := by decide +kernel
theorem dX12_net_184 : decode cX12_net 184 = .ok (.tableswitch 51 0 4 #[36, 39, 42, 45, 48], 36) := by decide +kernel
theorem dX12_net_220 : decode cX12_net 220 = .ok (.iload 4, 2) := by decide +kernel
theorem dX12_net_222 : decode cX12_net 222 = .ok (.ireturn, 1) := by decide +kernel
theorem dX12_net_223 : decode cX12_net 223 = .ok (.iload 5, 2) := by decide +kernel
theorem dX12_net_225 : decode cX12_net 225 = .ok (.ireturn, 1) := by decide +kernel
theorem dX12_net_226 : decode cX12_net 226 = .ok (.iload 6, 2) := by decide +kernel
theorem dX12_net_228 : decode cX12_net 228 = .ok (.ireturn, 1) := by decide +kernel
theorem dX12_net_229 : decode cX12_net 229 = .ok (.iload 7, 2) := by decide +kernel
theorem dX12_net_231 : decode cX12_net 231 = .ok (.ireturn, 1) := by decide +kernel
theorem dX12_net_232 : decode cX12_net 232 = .ok (.iload 8, 2) := by decide +kernel
theorem dX12_net_234 : decode cX12_net 234 = .ok (.ireturn, 1) := by decide +kernel
theorem dX12_net_235 : decode cX12_net 235 = .ok (.bipush (-102), 2) := by decide +kernel
theorem dX12_net_237 : decode cX12_net 237 = .ok (.ireturn, 1) := by decide +kernel
set_option maxRecDepth 20000 in
theorem ggX12_joined_X12_noPlace : GoodIn wsX12_joined wsX12_noPlace := goodIn_r _ [6, 7, 8, 9, 5, 10] (by decide +kernel) (by decide +kernel)
set_option maxRecDepth 20000 in
theorem gX12_joined_X12_noPlace : GoodIn wsX12_joined (va_wsS RX12 290 yX12_noPlace wsX12_noPlace) := goodIn_app (goodIn_of _ (by decide +kernel)) ggX12_joined_X12_noPlace
set_option maxRecDepth 20000 in
theorem ggX12_joined_X12_in : GoodIn wsX12_joined wsX12_in := goodIn_r _ [10] (by decide +kernel) (by decide +kernel)
set_option maxRecDepth 20000 in
theorem gX12_joined_X12_in : GoodIn wsX12_joined (va_wsS RX12 84 yX12_in wsX12_in) := goodIn_app (goodIn_of _ (by decide +kernel)) ggX12_joined_X12_in
set_option maxRecDepth 20000 in
theorem ggX12_joined_X12_findNets : GoodIn wsX12_joined wsX12_findNets := goodIn_r _ [14, 2, 15, 16, 17, 18, 19, 20, 5, 21, 22, 23, 24, 25, 26, 27, 28, 29, 30, 31, 32, 33, 38, 39, 40, 41, 42, 43, 44, 45, 46, 47, 48, 49, 50, 51, 52, 53, 54, 55, 56, 57, 58, 59, 60, 61, 62, 63, 64, 65, 66, 67, 68, 69, 70, 71, 72, 73, 74, 75, 76, 77] (by decide +kernel) (by decide +kernel)
set_option maxRecDepth 20000 in
theorem gX12_joined_X12_findNets : GoodIn wsX12_joined (wsV RX12 306 RX12 yX12_findNets wsX12_findNets) := goodIn_app (goodIn_of _ (by decide +kernel)) ggX12_joined_X12_findNets
set_option maxRecDepth 20000 in
theorem ggX12_joined_X12_topOf : GoodIn wsX12_joined wsX12_topOf := goodIn_r _ [37, 15, 38, 39, 40, 41, 42, 43, 44, 45, 46, 47, 48, 49, 50, 51, 52, 53, 54, 55, 56, 57, 58, 59, 60, 61, 62, 63, 64, 65, 66, 67, 68, 69, 70, 71, 72, 73, 74, 75, 76, 77] (by decide +kernel) (by decide +kernel)
set_option maxRecDepth 20000 in
theorem gX12_joined_X12_topOf : GoodIn wsX12_joined (wsV RX12 220 RX12 yX12_topOf wsX12_topOf) := goodIn_app (goodIn_of _ (by decide +kernel)) ggX12_joined_X12_topOf
theorem dX12_joined_0 : decode cX12_joined 0 = .ok (.iload_n 1, 1) := by decide +kernel
theorem dX12_joined_1 : decode cX12_joined 1 = .ok (.invokestatic 290, 3) := by decide +kernel
theorem dX12_joined_4 : decode cX12_joined 4 = .ok (.ifCond .ne 10, 3) := by decide +kernel
theorem dX12_joined_7 : decode cX12_joined 7 = .ok (.iload_n 2, 1) := by decide +kernel
theorem dX12_joined_8 : decode cX12_joined 8 = .ok (.invokestatic 290, 3) := by decide +kernel
theorem dX12_joined_11 : decode cX12_joined 11 = .ok (.ifCond .eq 6, 3) := by decide +kernel
theorem dX12_joined_14 : decode cX12_joined 14 = .ok (.bipush (-101), 2) := by decide +kernel
theorem dX12_joined_16 : decode cX12_joined 16 = .ok (.ireturn, 1) := by decide +kernel
theorem dX12_joined_17 : decode cX12_joined 17 = .ok (.iload_n 3, 1) := by decide +kernel
theorem dX12_joined_18 : decode cX12_joined 18 = .ok (.i2l, 1) := by decide +kernel
theorem dX12_joined_19 : decode cX12_joined 19 = .ok (.lconst 0, 1) := by decide +kernel
theorem dX12_joined_20 : decode cX12_joined 20 = .ok (.ldc2_w 304, 3) := by decide +kernel
theorem dX12_joined_23 : decode cX12_joined 23 = .ok (.invokestatic 84, 3) := by decide +kernel
theorem dX12_joined_26 : decode cX12_joined 26 = .ok (.ifCond .ne 6, 3) := by decide +kernel
theorem dX12_joined_29 : decode cX12_joined 29 = .ok (.bipush (-102), 2) := by decide +kernel
theorem dX12_joined_31 : decode cX12_joined 31 = .ok (.ireturn, 1) := by decide +kernel
theorem dX12_joined_32 : decode cX12_joined 32 = .ok (.aload_n 0, 1) := by decide +kernel
theorem dX12_joined_33 : decode cX12_joined 33 = .ok (.iload_n 3, 1) := by decide +kernel
theorem dX12_joined_34 : decode cX12_joined 34 = .ok (.invokevirtual 306, 3) := by decide +kernel
theorem dX12_joined_37 : decode cX12_joined 37 = .ok (.istore 4, 2) := by decide +kernel
theorem dX12_joined_39 : decode cX12_joined 39 = .ok (.aload_n 0, 1) := by decide +kernel
theorem dX12_joined_40 : decode cX12_joined 40 = .ok (.iload_n 1, 1) := by decide +kernel
theorem dX12_joined_41 : decode cX12_joined 41 = .ok (.invokevirtual 220, 3) := by decide +kernel
theorem dX12_joined_44 : decode cX12_joined 44 = .ok (.ifCond .ge 7, 3) := by decide +kernel
theorem dX12_joined_47 : decode cX12_joined 47 = .ok (.iconst (-1), 1) := by decide +kernel
theorem dX12_joined_48 : decode cX12_joined 48 = .ok (.goto 19, 3) := by decide +kernel
theorem dX12_joined_51 : decode cX12_joined 51 = .ok (.aload_n 0, 1) := by decide +kernel
theorem dX12_joined_52 : decode cX12_joined 52 = .ok (.getfield 70, 3) := by decide +kernel
theorem dX12_joined_55 : decode cX12_joined 55 = .ok (.sipush 144, 3) := by decide +kernel
theorem dX12_joined_58 : decode cX12_joined 58 = .ok (.aload_n 0, 1) := by decide +kernel
theorem dX12_joined_59 : decode cX12_joined 59 = .ok (.iload_n 1, 1) := by decide +kernel
theorem dX12_joined_60 : decode cX12_joined 60 = .ok (.invokevirtual 220, 3) := by decide +kernel
theorem dX12_joined_63 : decode cX12_joined 63 = .ok (.imul, 1) := by decide +kernel
theorem dX12_joined_64 : decode cX12_joined 64 = .ok (.iload_n 1, 1) := by decide +kernel
theorem dX12_joined_65 : decode cX12_joined 65 = .ok (.iadd, 1) := by decide +kernel
theorem dX12_joined_66 : decode cX12_joined 66 = .ok (.iaload, 1) := by decide +kernel
theorem dX12_joined_67 : decode cX12_joined 67 = .ok (.istore 5, 2) := by decide +kernel
theorem dX12_joined_69 : decode cX12_joined 69 = .ok (.aload_n 0, 1) := by decide +kernel
theorem dX12_joined_70 : decode cX12_joined 70 = .ok (.iload_n 2, 1) := by decide +kernel
theorem dX12_joined_71 : decode cX12_joined 71 = .ok (.invokevirtual 220, 3) := by decide +kernel
theorem dX12_joined_74 : decode cX12_joined 74 = .ok (.ifCond .ge 7, 3) := by decide +kernel
theorem dX12_joined_77 : decode cX12_joined 77 = .ok (.iconst (-1), 1) := by decide +kernel
theorem dX12_joined_78 : decode cX12_joined 78 = .ok (.goto 19, 3) := by decide +kernel
theorem dX12_joined_81 : decode cX12_joined 81 = .ok (.aload_n 0, 1) := by decide +kernel
theorem dX12_joined_82 : decode cX12_joined 82 = .ok (.getfield 70, 3) := by decide +kernel
theorem dX12_joined_85 : decode cX12_joined 85 = .ok (.sipush 144, 3) := by decide +kernel
theorem dX12_joined_88 : decode cX12_joined 88 = .ok (.aload_n 0, 1) := by decide +kernel
theorem dX12_joined_89 : decode cX12_joined 89 = .ok (.iload_n 2, 1) := by decide +kernel
theorem dX12_joined_90 : decode cX12_joined 90 = .ok (.invokevirtual 220, 3) := by decide +kernel
theorem dX12_joined_93 : decode cX12_joined 93 = .ok (.imul, 1) := by decide +kernel
theorem dX12_joined_94 : decode cX12_joined 94 = .ok (.iload_n 2, 1) := by decide +kernel
theorem dX12_joined_95 : decode cX12_joined 95 = .ok (.iadd, 1) := by decide +kernel
theorem dX12_joined_96 : decode cX12_joined 96 = .ok (.iaload, 1) := by decide +kernel
theorem dX12_joined_97 : decode cX12_joined 97 = .ok (.istore 6, 2) := by decide +kernel
theorem dX12_joined_99 : decode cX12_joined 99 = .ok (.iload 5, 2) := by decide +kernel
theorem dX12_joined_101 : decode cX12_joined 101 = .ok (.ifCond .lt 14, 3) := by decide +kernel
theorem dX12_joined_104 : decode cX12_joined 104 = .ok (.iload 5, 2) := by decide +kernel
theorem dX12_joined_106 : decode cX12_joined 106 = .ok (.iload 6, 2) := by decide +kernel
theorem dX12_joined_108 : decode cX12_joined 108 = .ok (.if_icmp .ne 7, 3) := by decide +kernel
theorem dX12_joined_111 : decode cX12_joined 111 = .ok (.iconst 1, 1) := by decide +kernel
theorem dX12_joined_112 : decode cX12_joined 112 = .ok (.goto 4, 3) := by decide +kernel
theorem dX12_joined_115 : decode cX12_joined 115 = .ok (.iconst 0, 1) := by decide +kernel
theorem dX12_joined_116 : decode cX12_joined 116 = .ok (.ireturn, 1) := by decide +kernel
set_option maxRecDepth 20000 in
theorem ggX12_isOrder_X12_in : GoodIn wsX12_isOrder wsX12_in := goodIn_r _ [8] (by decide +kernel) (by decide +kernel)
set_option maxRecDepth 20000 in
theorem gX12_isOrder_X12_in : GoodIn wsX12_isOrder (va_wsS RX12 84 yX12_in wsX12_in) := goodIn_app (goodIn_of _ (by decide +kernel)) ggX12_isOrder_X12_in
theorem dX12_isOrder_0 : decode cX12_isOrder 0 = .ok (.iconst 0, 1) := by decide +kernel
theorem dX12_isOrder_1 : decode cX12_isOrder 1 = .ok (.istore_n 2, 1) := by decide +kernel
theorem dX12_isOrder_2 : decode cX12_isOrder 2 = .ok (.iload_n 1, 1) := by decide +kernel
theorem dX12_isOrder_3 : decode cX12_isOrder 3 = .ok (.i2l, 1) := by decide +kernel
theorem dX12_isOrder_4 : decode cX12_isOrder 4 = .ok (.lconst 1, 1) := by decide +kernel
theorem dX12_isOrder_5 : decode cX12_isOrder 5 = .ok (.ldc2_w 309, 3) := by decide +kernel
theorem dX12_isOrder_8 : decode cX12_isOrder 8 = .ok (.invokestatic 84, 3) := by decide +kernel
theorem dX12_isOrder_11 : decode cX12_isOrder 11 = .ok (.istore_n 3, 1) := by decide +kernel
theorem dX12_isOrder_12 : decode cX12_isOrder 12 = .ok (.iload_n 1, 1) := by decide +kernel
theorem dX12_isOrder_13 : decode cX12_isOrder 13 = .ok (.istore 4, 2) := by decide +kernel
theorem dX12_isOrder_15 : decode cX12_isOrder 15 = .ok (.iload 4, 2) := by decide +kernel
theorem dX12_isOrder_17 : decode cX12_isOrder 17 = .ok (.ifCond .le 34, 3) := by decide +kernel
theorem dX12_isOrder_20 : decode cX12_isOrder 20 = .ok (.iload_n 3, 1) := by decide +kernel
theorem dX12_isOrder_21 : decode cX12_isOrder 21 = .ok (.ifCond .eq 30, 3) := by decide +kernel
theorem dX12_isOrder_24 : decode cX12_isOrder 24 = .ok (.iload 4, 2) := by decide +kernel
theorem dX12_isOrder_26 : decode cX12_isOrder 26 = .ok (.bipush 10, 2) := by decide +kernel
theorem dX12_isOrder_28 : decode cX12_isOrder 28 = .ok (.irem, 1) := by decide +kernel
theorem dX12_isOrder_29 : decode cX12_isOrder 29 = .ok (.i2l, 1) := by decide +kernel
theorem dX12_isOrder_30 : decode cX12_isOrder 30 = .ok (.lconst 1, 1) := by decide +kernel
theorem dX12_isOrder_31 : decode cX12_isOrder 31 = .ok (.ldc2_w 82, 3) := by decide +kernel
theorem dX12_isOrder_34 : decode cX12_isOrder 34 = .ok (.invokestatic 84, 3) := by decide +kernel
theorem dX12_isOrder_37 : decode cX12_isOrder 37 = .ok (.istore_n 3, 1) := by decide +kernel
theorem dX12_isOrder_38 : decode cX12_isOrder 38 = .ok (.iinc 2 1, 3) := by decide +kernel
theorem dX12_isOrder_41 : decode cX12_isOrder 41 = .ok (.iload 4, 2) := by decide +kernel
theorem dX12_isOrder_43 : decode cX12_isOrder 43 = .ok (.bipush 10, 2) := by decide +kernel
theorem dX12_isOrder_45 : decode cX12_isOrder 45 = .ok (.idiv, 1) := by decide +kernel
theorem dX12_isOrder_46 : decode cX12_isOrder 46 = .ok (.istore 4, 2) := by decide +kernel
theorem dX12_isOrder_48 : decode cX12_isOrder 48 = .ok (.goto (-33), 3) := by decide +kernel
theorem dX12_isOrder_51 : decode cX12_isOrder 51 = .ok (.aload_n 0, 1) := by decide +kernel
theorem dX12_isOrder_52 : decode cX12_isOrder 52 = .ok (.iload_n 2, 1) := by decide +kernel
theorem dX12_isOrder_53 : decode cX12_isOrder 53 = .ok (.putfield 311, 3) := by decide +kernel
theorem dX12_isOrder_56 : decode cX12_isOrder 56 = .ok (.iload_n 1, 1) := by decide +kernel
theorem dX12_isOrder_57 : decode cX12_isOrder 57 = .ok (.istore 4, 2) := by decide +kernel
theorem dX12_isOrder_59 : decode cX12_isOrder 59 = .ok (.iload_n 2, 1) := by decide +kernel
theorem dX12_isOrder_60 : decode cX12_isOrder 60 = .ok (.iconst 1, 1) := by decide +kernel
theorem dX12_isOrder_61 : decode cX12_isOrder 61 = .ok (.isub, 1) := by decide +kernel
theorem dX12_isOrder_62 : decode cX12_isOrder 62 = .ok (.istore 5, 2) := by decide +kernel
theorem dX12_isOrder_64 : decode cX12_isOrder 64 = .ok (.iload 5, 2) := by decide +kernel
theorem dX12_isOrder_66 : decode cX12_isOrder 66 = .ok (.ifCond .lt 32, 3) := by decide +kernel
theorem dX12_isOrder_69 : decode cX12_isOrder 69 = .ok (.iload_n 3, 1) := by decide +kernel
theorem dX12_isOrder_70 : decode cX12_isOrder 70 = .ok (.ifCond .eq 28, 3) := by decide +kernel
theorem dX12_isOrder_73 : decode cX12_isOrder 73 = .ok (.aload_n 0, 1) := by decide +kernel
theorem dX12_isOrder_74 : decode cX12_isOrder 74 = .ok (.getfield 73, 3) := by decide +kernel
theorem dX12_isOrder_77 : decode cX12_isOrder 77 = .ok (.iload 5, 2) := by decide +kernel
theorem dX12_isOrder_79 : decode cX12_isOrder 79 = .ok (.iload 4, 2) := by decide +kernel
theorem dX12_isOrder_81 : decode cX12_isOrder 81 = .ok (.bipush 10, 2) := by decide +kernel
theorem dX12_isOrder_83 : decode cX12_isOrder 83 = .ok (.irem, 1) := by decide +kernel
theorem dX12_isOrder_84 : decode cX12_isOrder 84 = .ok (.iastore, 1) := by decide +kernel
theorem dX12_isOrder_85 : decode cX12_isOrder 85 = .ok (.iload 4, 2) := by decide +kernel
theorem dX12_isOrder_87 : decode cX12_isOrder 87 = .ok (.bipush 10, 2) := by decide +kernel
theorem dX12_isOrder_89 : decode cX12_isOrder 89 = .ok (.idiv, 1) := by decide +kernel
theorem dX12_isOrder_90 : decode cX12_isOrder 90 = .ok (.istore 4, 2) := by decide +kernel
theorem dX12_isOrder_92 : decode cX12_isOrder 92 = .ok (.iinc 5 (-1), 3) := by decide +kernel
theorem dX12_isOrder_95 : decode cX12_isOrder 95 = .ok (.goto (-31), 3) := by decide +kernel
theorem dX12_isOrder_98 : decode cX12_isOrder 98 = .ok (.iload_n 3, 1) := by decide +kernel
theorem dX12_isOrder_99 : decode cX12_isOrder 99 = .ok (.ireturn, 1) := by decide +kernel
set_option maxRecDepth 20000 in
theorem ggX12_hasOrder_X12_spanAt : GoodIn wsX12_hasOrder wsX12_spanAt := goodIn_r _ [8, 2, 9, 10, 11, 7, 12, 13, 14, 15, 16, 17, 18, 19, 20, 21, 22, 23, 24, 25, 26, 27, 28, 29, 30, 31, 32, 33, 34, 35, 36, 37, 38, 39, 40, 41, 42, 43, 44, 45, 46, 47, 48, 49, 50, 51, 52] (by decide +kernel) (by decide +kernel)
set_option maxRecDepth 20000 in
theorem gX12_hasOrder_X12_spanAt : GoodIn wsX12_hasOrder (wsV RX12 295 RX12 yX12_spanAt wsX12_spanAt) := goodIn_app (goodIn_of _ (by decide +kernel)) ggX12_hasOrder_X12_spanAt
theorem dX12_hasOrder_0 : decode cX12_hasOrder 0 = .ok (.aload_n 0, 1) := by decide +kernel
theorem dX12_hasOrder_1 : decode cX12_hasOrder 1 = .ok (.iload_n 1, 1) := by decide +kernel
theorem dX12_hasOrder_2 : decode cX12_hasOrder 2 = .ok (.iconst 0, 1) := by decide +kernel
theorem dX12_hasOrder_3 : decode cX12_hasOrder 3 = .ok (.iconst 1, 1) := by decide +kernel
theorem dX12_hasOrder_4 : decode cX12_hasOrder 4 = .ok (.invokevirtual 295, 3) := by decide +kernel
theorem dX12_hasOrder_7 : decode cX12_hasOrder 7 = .ok (.istore_n 2, 1) := by decide +kernel
theorem dX12_hasOrder_8 : decode cX12_hasOrder 8 = .ok (.iconst 0, 1) := by decide +kernel
theorem dX12_hasOrder_9 : decode cX12_hasOrder 9 = .ok (.istore_n 3, 1) := by decide +kernel
theorem dX12_hasOrder_10 : decode cX12_hasOrder 10 = .ok (.iconst 0, 1) := by decide +kernel
theorem dX12_hasOrder_11 : decode cX12_hasOrder 11 = .ok (.istore 4, 2) := by decide +kernel
theorem dX12_hasOrder_13 : decode cX12_hasOrder 13 = .ok (.iload 4, 2) := by decide +kernel
theorem dX12_hasOrder_15 : decode cX12_hasOrder 15 = .ok (.aload_n 0, 1) := by decide +kernel
theorem dX12_hasOrder_16 : decode cX12_hasOrder 16 = .ok (.getfield 311, 3) := by decide +kernel
theorem dX12_hasOrder_19 : decode cX12_hasOrder 19 = .ok (.iadd, 1) := by decide +kernel
theorem dX12_hasOrder_20 : decode cX12_hasOrder 20 = .ok (.iload_n 2, 1) := by decide +kernel
theorem dX12_hasOrder_21 : decode cX12_hasOrder 21 = .ok (.if_icmp .gt 89, 3) := by decide +kernel
theorem dX12_hasOrder_24 : decode cX12_hasOrder 24 = .ok (.iconst 1, 1) := by decide +kernel
theorem dX12_hasOrder_25 : decode cX12_hasOrder 25 = .ok (.istore 5, 2) := by decide +kernel
theorem dX12_hasOrder_27 : decode cX12_hasOrder 27 = .ok (.iconst 0, 1) := by decide +kernel
theorem dX12_hasOrder_28 : decode cX12_hasOrder 28 = .ok (.istore 6, 2) := by decide +kernel
theorem dX12_hasOrder_30 : decode cX12_hasOrder 30 = .ok (.iload 6, 2) := by decide +kernel
theorem dX12_hasOrder_32 : decode cX12_hasOrder 32 = .ok (.aload_n 0, 1) := by decide +kernel
theorem dX12_hasOrder_33 : decode cX12_hasOrder 33 = .ok (.getfield 311, 3) := by decide +kernel
theorem dX12_hasOrder_36 : decode cX12_hasOrder 36 = .ok (.if_icmp .ge 53, 3) := by decide +kernel
theorem dX12_hasOrder_39 : decode cX12_hasOrder 39 = .ok (.iload 5, 2) := by decide +kernel
theorem dX12_hasOrder_41 : decode cX12_hasOrder 41 = .ok (.ifCond .eq 39, 3) := by decide +kernel
theorem dX12_hasOrder_44 : decode cX12_hasOrder 44 = .ok (.aload_n 0, 1) := by decide +kernel
theorem dX12_hasOrder_45 : decode cX12_hasOrder 45 = .ok (.getfield 7, 3) := by decide +kernel
theorem dX12_hasOrder_48 : decode cX12_hasOrder 48 = .ok (.sipush 144, 3) := by decide +kernel
theorem dX12_hasOrder_51 : decode cX12_hasOrder 51 = .ok (.aload_n 0, 1) := by decide +kernel
theorem dX12_hasOrder_52 : decode cX12_hasOrder 52 = .ok (.iload_n 1, 1) := by decide +kernel
theorem dX12_hasOrder_53 : decode cX12_hasOrder 53 = .ok (.iload 4, 2) := by decide +kernel
theorem dX12_hasOrder_55 : decode cX12_hasOrder 55 = .ok (.iload 6, 2) := by decide +kernel
theorem dX12_hasOrder_57 : decode cX12_hasOrder 57 = .ok (.iadd, 1) := by decide +kernel
theorem dX12_hasOrder_58 : decode cX12_hasOrder 58 = .ok (.iconst 0, 1) := by decide +kernel
theorem dX12_hasOrder_59 : decode cX12_hasOrder 59 = .ok (.invokevirtual 295, 3) := by decide +kernel
theorem dX12_hasOrder_62 : decode cX12_hasOrder 62 = .ok (.imul, 1) := by decide +kernel
theorem dX12_hasOrder_63 : decode cX12_hasOrder 63 = .ok (.iload_n 1, 1) := by decide +kernel
theorem dX12_hasOrder_64 : decode cX12_hasOrder 64 = .ok (.iadd, 1) := by decide +kernel
theorem dX12_hasOrder_65 : decode cX12_hasOrder 65 = .ok (.iaload, 1) := by decide +kernel
theorem dX12_hasOrder_66 : decode cX12_hasOrder 66 = .ok (.aload_n 0, 1) := by decide +kernel
theorem dX12_hasOrder_67 : decode cX12_hasOrder 67 = .ok (.getfield 73, 3) := by decide +kernel
theorem dX12_hasOrder_70 : decode cX12_hasOrder 70 = .ok (.iload 6, 2) := by decide +kernel
theorem dX12_hasOrder_72 : decode cX12_hasOrder 72 = .ok (.iaload, 1) := by decide +kernel
theorem dX12_hasOrder_73 : decode cX12_hasOrder 73 = .ok (.if_icmp .ne 7, 3) := by decide +kernel
theorem dX12_hasOrder_76 : decode cX12_hasOrder 76 = .ok (.iconst 1, 1) := by decide +kernel
theorem dX12_hasOrder_77 : decode cX12_hasOrder 77 = .ok (.goto 4, 3) := by decide +kernel
theorem dX12_hasOrder_80 : decode cX12_hasOrder 80 = .ok (.iconst 0, 1) := by decide +kernel
theorem dX12_hasOrder_81 : decode cX12_hasOrder 81 = .ok (.istore 5, 2) := by decide +kernel
theorem dX12_hasOrder_83 : decode cX12_hasOrder 83 = .ok (.iinc 6 1, 3) := by decide +kernel
theorem dX12_hasOrder_86 : decode cX12_hasOrder 86 = .ok (.goto (-56), 3) := by decide +kernel
theorem dX12_hasOrder_89 : decode cX12_hasOrder 89 = .ok (.iload_n 3, 1) := by decide +kernel
theorem dX12_hasOrder_90 : decode cX12_hasOrder 90 = .ok (.ifCond .ne 8, 3) := by decide +kernel
theorem dX12_hasOrder_93 : decode cX12_hasOrder 93 = .ok (.iload 5, 2) := by decide +kernel
theorem dX12_hasOrder_95 : decode cX12_hasOrder 95 = .ok (.ifCond .eq 7, 3) := by decide +kernel
theorem dX12_hasOrder_98 : decode cX12_hasOrder 98 = .ok (.iconst 1, 1) := by decide +kernel
theorem dX12_hasOrder_99 : decode cX12_hasOrder 99 = .ok (.goto 4, 3) := by decide +kernel
theorem dX12_hasOrder_102 : decode cX12_hasOrder 102 = .ok (.iconst 0, 1) := by decide +kernel
theorem dX12_hasOrder_103 : decode cX12_hasOrder 103 = .ok (.istore_n 3, 1) := by decide +kernel
theorem dX12_hasOrder_104 : decode cX12_hasOrder 104 = .ok (.iinc 4 1, 3) := by decide +kernel
theorem dX12_hasOrder_107 : decode cX12_hasOrder 107 = .ok (.goto (-94), 3) := by decide +kernel
theorem dX12_hasOrder_110 : decode cX12_hasOrder 110 = .ok (.iload_n 3, 1) := by decide +kernel
theorem dX12_hasOrder_111 : decode cX12_hasOrder 111 = .ok (.ireturn, 1) := by decide +kernel
set_option maxRecDepth 20000 in
theorem ggX12_takeDevice_X12_clearMarks : GoodIn wsX12_takeDevice wsX12_clearMarks := goodIn_r _ [8, 9, 1, 17, 18, 19, 20, 21, 22, 23, 24, 25, 26, 27, 28, 29, 30, 31, 32, 33, 34, 35, 36, 37, 38, 39, 40, 41, 42, 43, 44, 45, 46, 47, 48, 49, 50, 51, 52, 53, 54, 55, 56] (by decide +kernel) (by decide +kernel)
set_option maxRecDepth 20000 in
theorem gX12_takeDevice_X12_clearMarks : GoodIn wsX12_takeDevice (wsV RX12 214 RX12 yX12_clearMarks wsX12_clearMarks) := goodIn_app (goodIn_of _ (by decide +kernel)) ggX12_takeDevice_X12_clearMarks
set_option maxRecDepth 20000 in
theorem ggX12_takeDevice_X12_come : GoodIn wsX12_takeDevice wsX12_come := goodIn_r _ [13, 9, 2, 1, 17, 18, 19, 20, 21, 22, 23, 24, 25, 26, 27, 28, 29, 30, 31, 32, 33, 34, 35, 36, 37, 38, 39, 40, 41, 42, 43, 44, 45, 46, 47, 48, 49, 50, 51, 52, 53, 54, 55, 56] (by decide +kernel) (by decide +kernel)
set_option maxRecDepth 20000 in
theorem gX12_takeDevice_X12_come : GoodIn wsX12_takeDevice (wsV RX12 211 RX12 yX12_come wsX12_come) := goodIn_app (goodIn_of _ (by decide +kernel)) ggX12_takeDevice_X12_come
set_option maxRecDepth 20000 in
theorem ggX12_takeDevice_X12_beside : GoodIn wsX12_takeDevice wsX12_beside := goodIn_r _ [16] (by decide +kernel) (by decide +kernel)
set_option maxRecDepth 20000 in
theorem gX12_takeDevice_X12_beside : GoodIn wsX12_takeDevice (va_wsS RX12 208 yX12_beside wsX12_beside) := goodIn_app (goodIn_of _ (by decide +kernel)) ggX12_takeDevice_X12_beside
theorem dX12_takeDevice_0 : decode cX12_takeDevice 0 = .ok (.aload_n 0, 1) := by decide +kernel
theorem dX12_takeDevice_1 : decode cX12_takeDevice 1 = .ok (.invokevirtual 214, 3) := by decide +kernel
theorem dX12_takeDevice_4 : decode cX12_takeDevice 4 = .ok (.aload_n 0, 1) := by decide +kernel
theorem dX12_takeDevice_5 : decode cX12_takeDevice 5 = .ok (.iload_n 1, 1) := by decide +kernel
theorem dX12_takeDevice_6 : decode cX12_takeDevice 6 = .ok (.invokevirtual 211, 3) := by decide +kernel
theorem dX12_takeDevice_9 : decode cX12_takeDevice 9 = .ok (.iconst 0, 1) := by decide +kernel
theorem dX12_takeDevice_10 : decode cX12_takeDevice 10 = .ok (.istore_n 2, 1) := by decide +kernel
theorem dX12_takeDevice_11 : decode cX12_takeDevice 11 = .ok (.iload_n 2, 1) := by decide +kernel
theorem dX12_takeDevice_12 : decode cX12_takeDevice 12 = .ok (.aload_n 0, 1) := by decide +kernel
theorem dX12_takeDevice_13 : decode cX12_takeDevice 13 = .ok (.getfield 205, 3) := by decide +kernel
theorem dX12_takeDevice_16 : decode cX12_takeDevice 16 = .ok (.if_icmp .ge 55, 3) := by decide +kernel
theorem dX12_takeDevice_19 : decode cX12_takeDevice 19 = .ok (.iconst 0, 1) := by decide +kernel
theorem dX12_takeDevice_20 : decode cX12_takeDevice 20 = .ok (.istore_n 3, 1) := by decide +kernel
theorem dX12_takeDevice_21 : decode cX12_takeDevice 21 = .ok (.iload_n 3, 1) := by decide +kernel
theorem dX12_takeDevice_22 : decode cX12_takeDevice 22 = .ok (.iconst 4, 1) := by decide +kernel
theorem dX12_takeDevice_23 : decode cX12_takeDevice 23 = .ok (.if_icmp .ge 42, 3) := by decide +kernel
theorem dX12_takeDevice_26 : decode cX12_takeDevice 26 = .ok (.aload_n 0, 1) := by decide +kernel
theorem dX12_takeDevice_27 : decode cX12_takeDevice 27 = .ok (.getfield 48, 3) := by decide +kernel
theorem dX12_takeDevice_30 : decode cX12_takeDevice 30 = .ok (.iload_n 2, 1) := by decide +kernel
theorem dX12_takeDevice_31 : decode cX12_takeDevice 31 = .ok (.iaload, 1) := by decide +kernel
theorem dX12_takeDevice_32 : decode cX12_takeDevice 32 = .ok (.iload_n 3, 1) := by decide +kernel
theorem dX12_takeDevice_33 : decode cX12_takeDevice 33 = .ok (.invokestatic 208, 3) := by decide +kernel
theorem dX12_takeDevice_36 : decode cX12_takeDevice 36 = .ok (.istore 4, 2) := by decide +kernel
theorem dX12_takeDevice_38 : decode cX12_takeDevice 38 = .ok (.iload 4, 2) := by decide +kernel
theorem dX12_takeDevice_40 : decode cX12_takeDevice 40 = .ok (.ifCond .lt 19, 3) := by decide +kernel
theorem dX12_takeDevice_43 : decode cX12_takeDevice 43 = .ok (.aload_n 0, 1) := by decide +kernel
theorem dX12_takeDevice_44 : decode cX12_takeDevice 44 = .ok (.getfield 76, 3) := by decide +kernel
theorem dX12_takeDevice_47 : decode cX12_takeDevice 47 = .ok (.iload 4, 2) := by decide +kernel
theorem dX12_takeDevice_49 : decode cX12_takeDevice 49 = .ok (.baload, 1) := by decide +kernel
theorem dX12_takeDevice_50 : decode cX12_takeDevice 50 = .ok (.ifCond .eq 9, 3) := by decide +kernel
theorem dX12_takeDevice_53 : decode cX12_takeDevice 53 = .ok (.aload_n 0, 1) := by decide +kernel
theorem dX12_takeDevice_54 : decode cX12_takeDevice 54 = .ok (.iload 4, 2) := by decide +kernel
theorem dX12_takeDevice_56 : decode cX12_takeDevice 56 = .ok (.invokevirtual 211, 3) := by decide +kernel
theorem dX12_takeDevice_59 : decode cX12_takeDevice 59 = .ok (.iinc 3 1, 3) := by decide +kernel
theorem dX12_takeDevice_62 : decode cX12_takeDevice 62 = .ok (.goto (-41), 3) := by decide +kernel
theorem dX12_takeDevice_65 : decode cX12_takeDevice 65 = .ok (.iinc 2 1, 3) := by decide +kernel
theorem dX12_takeDevice_68 : decode cX12_takeDevice 68 = .ok (.goto (-57), 3) := by decide +kernel
theorem dX12_takeDevice_71 : decode cX12_takeDevice 71 = .ok (.iconst 0, 1) := by decide +kernel
theorem dX12_takeDevice_72 : decode cX12_takeDevice 72 = .ok (.istore_n 2, 1) := by decide +kernel
theorem dX12_takeDevice_73 : decode cX12_takeDevice 73 = .ok (.iload_n 2, 1) := by decide +kernel
theorem dX12_takeDevice_74 : decode cX12_takeDevice 74 = .ok (.aload_n 0, 1) := by decide +kernel
theorem dX12_takeDevice_75 : decode cX12_takeDevice 75 = .ok (.getfield 205, 3) := by decide +kernel
theorem dX12_takeDevice_78 : decode cX12_takeDevice 78 = .ok (.if_icmp .ge 21, 3) := by decide +kernel
theorem dX12_takeDevice_81 : decode cX12_takeDevice 81 = .ok (.aload_n 0, 1) := by decide +kernel
theorem dX12_takeDevice_82 : decode cX12_takeDevice 82 = .ok (.getfield 76, 3) := by decide +kernel
theorem dX12_takeDevice_85 : decode cX12_takeDevice 85 = .ok (.aload_n 0, 1) := by decide +kernel
theorem dX12_takeDevice_86 : decode cX12_takeDevice 86 = .ok (.getfield 48, 3) := by decide +kernel
theorem dX12_takeDevice_89 : decode cX12_takeDevice 89 = .ok (.iload_n 2, 1) := by decide +kernel
theorem dX12_takeDevice_90 : decode cX12_takeDevice 90 = .ok (.iaload, 1) := by decide +kernel
theorem dX12_takeDevice_91 : decode cX12_takeDevice 91 = .ok (.iconst 0, 1) := by decide +kernel
theorem dX12_takeDevice_92 : decode cX12_takeDevice 92 = .ok (.bastore, 1) := by decide +kernel
theorem dX12_takeDevice_93 : decode cX12_takeDevice 93 = .ok (.iinc 2 1, 3) := by decide +kernel
theorem dX12_takeDevice_96 : decode cX12_takeDevice 96 = .ok (.goto (-23), 3) := by decide +kernel
theorem dX12_takeDevice_99 : decode cX12_takeDevice 99 = .ok (.aload_n 0, 1) := by decide +kernel
theorem dX12_takeDevice_100 : decode cX12_takeDevice 100 = .ok (.getfield 205, 3) := by decide +kernel
theorem dX12_takeDevice_103 : decode cX12_takeDevice 103 = .ok (.ireturn, 1) := by decide +kernel
set_option maxRecDepth 20000 in
theorem ggX12_device_X12_isOrder : GoodIn wsX12_device wsX12_isOrder := goodIn_r _ [7, 8, 9, 10, 11, 12, 13, 6, 14, 46, 47, 48, 49, 50, 51, 52, 53, 54, 55, 56, 57, 58, 59, 60, 61, 62, 63, 64, 65, 66, 67, 68, 69, 70, 71, 72, 73, 74, 75, 76, 77, 78, 79, 80, 81, 82, 83, 84, 85] (by decide +kernel) (by decide +kernel)
set_option maxRecDepth 20000 in
theorem gX12_device_X12_isOrder : GoodIn wsX12_device (wsV RX12 314 RX12 yX12_isOrder wsX12_isOrder) := goodIn_app (goodIn_of _ (by decide +kernel)) ggX12_device_X12_isOrder
set_option maxRecDepth 20000 in
theorem ggX12_device_X12_in : GoodIn wsX12_device wsX12_in := goodIn_r _ [14] (by decide +kernel) (by decide +kernel)
set_option maxRecDepth 20000 in
theorem gX12_device_X12_in : GoodIn wsX12_device (va_wsS RX12 84 yX12_in wsX12_in) := goodIn_app (goodIn_of _ (by decide +kernel)) ggX12_device_X12_in
set_option maxRecDepth 20000 in
theorem ggX12_device_X12_hasOrder : GoodIn wsX12_device wsX12_hasOrder := goodIn_r _ [18, 10, 19, 11, 20, 21, 22, 6, 23, 24, 25, 26, 27, 46, 47, 48, 49, 50, 51, 52, 53, 54, 55, 56, 57, 58, 59, 60, 61, 62, 63, 64, 65, 66, 67, 68, 69, 70, 71, 72, 73, 74, 75, 76, 77, 78, 79, 80, 81, 82, 83, 84, 85] (by decide +kernel) (by decide +kernel)
set_option maxRecDepth 20000 in
theorem gX12_device_X12_hasOrder : GoodIn wsX12_device (wsV RX12 319 RX12 yX12_hasOrder wsX12_hasOrder) := goodIn_app (goodIn_of _ (by decide +kernel)) ggX12_device_X12_hasOrder
set_option maxRecDepth 20000 in
theorem ggX12_device_X12_takeDevice : GoodIn wsX12_device wsX12_takeDevice := goodIn_r _ [31, 32, 33, 2, 34, 35, 36, 6, 37, 38, 39, 40, 41, 42, 43, 44, 45, 46, 47, 48, 49, 50, 51, 52, 53, 54, 55, 56, 57, 58, 59, 60, 61, 62, 63, 64, 65, 66, 67, 68, 69, 70, 71, 72, 73, 74, 75, 76, 77, 78, 79, 80, 81, 82, 83, 84, 85] (by decide +kernel) (by decide +kernel)
set_option maxRecDepth 20000 in
theorem gX12_device_X12_takeDevice : GoodIn wsX12_device (wsV RX12 322 RX12 yX12_takeDevice wsX12_takeDevice) := goodIn_app (goodIn_of _ (by decide +kernel)) ggX12_device_X12_takeDevice
theorem dX12_device_0 : decode cX12_device 0 = .ok (.aload_n 0, 1) := by decide +kernel
theorem dX12_device_1 : decode cX12_device 1 = .ok (.iload_n 1, 1) := by decide +kernel
theorem dX12_device_2 : decode cX12_device 2 = .ok (.invokevirtual 314, 3) := by decide +kernel
theorem dX12_device_5 : decode cX12_device 5 = .ok (.ifCond .eq 15, 3) := by decide +kernel
theorem dX12_device_8 : decode cX12_device 8 = .ok (.iload_n 2, 1) := by decide +kernel
theorem dX12_device_9 : decode cX12_device 9 = .ok (.i2l, 1) := by decide +kernel
theorem dX12_device_10 : decode cX12_device 10 = .ok (.lconst 0, 1) := by decide +kernel
theorem dX12_device_11 : decode cX12_device 11 = .ok (.ldc2_w 317, 3) := by decide +kernel
theorem dX12_device_14 : decode cX12_device 14 = .ok (.invokestatic 84, 3) := by decide +kernel
theorem dX12_device_17 : decode cX12_device 17 = .ok (.ifCond .ne 6, 3) := by decide +kernel
theorem dX12_device_20 : decode cX12_device 20 = .ok (.bipush (-102), 2) := by decide +kernel
theorem dX12_device_22 : decode cX12_device 22 = .ok (.ireturn, 1) := by decide +kernel
theorem dX12_device_23 : decode cX12_device 23 = .ok (.iconst 0, 1) := by decide +kernel
theorem dX12_device_24 : decode cX12_device 24 = .ok (.istore_n 3, 1) := by decide +kernel
theorem dX12_device_25 : decode cX12_device 25 = .ok (.iconst (-1), 1) := by decide +kernel
theorem dX12_device_26 : decode cX12_device 26 = .ok (.istore 4, 2) := by decide +kernel
theorem dX12_device_28 : decode cX12_device 28 = .ok (.sipush 143, 3) := by decide +kernel
theorem dX12_device_31 : decode cX12_device 31 = .ok (.istore 5, 2) := by decide +kernel
theorem dX12_device_33 : decode cX12_device 33 = .ok (.iload 5, 2) := by decide +kernel
theorem dX12_device_35 : decode cX12_device 35 = .ok (.ifCond .lt 59, 3) := by decide +kernel
theorem dX12_device_38 : decode cX12_device 38 = .ok (.aload_n 0, 1) := by decide +kernel
theorem dX12_device_39 : decode cX12_device 39 = .ok (.getfield 76, 3) := by decide +kernel
theorem dX12_device_42 : decode cX12_device 42 = .ok (.iload 5, 2) := by decide +kernel
theorem dX12_device_44 : decode cX12_device 44 = .ok (.aload_n 0, 1) := by decide +kernel
theorem dX12_device_45 : decode cX12_device 45 = .ok (.iload 5, 2) := by decide +kernel
theorem dX12_device_47 : decode cX12_device 47 = .ok (.invokevirtual 319, 3) := by decide +kernel
theorem dX12_device_50 : decode cX12_device 50 = .ok (.bastore, 1) := by decide +kernel
theorem dX12_device_51 : decode cX12_device 51 = .ok (.iload_n 3, 1) := by decide +kernel
theorem dX12_device_52 : decode cX12_device 52 = .ok (.aload_n 0, 1) := by decide +kernel
theorem dX12_device_53 : decode cX12_device 53 = .ok (.getfield 76, 3) := by decide +kernel
theorem dX12_device_56 : decode cX12_device 56 = .ok (.iload 5, 2) := by decide +kernel
theorem dX12_device_58 : decode cX12_device 58 = .ok (.baload, 1) := by decide +kernel
theorem dX12_device_59 : decode cX12_device 59 = .ok (.ifCond .eq 7, 3) := by decide +kernel
theorem dX12_device_62 : decode cX12_device 62 = .ok (.iconst 1, 1) := by decide +kernel
theorem dX12_device_63 : decode cX12_device 63 = .ok (.goto 4, 3) := by decide +kernel
theorem dX12_device_66 : decode cX12_device 66 = .ok (.iconst 0, 1) := by decide +kernel
theorem dX12_device_67 : decode cX12_device 67 = .ok (.iadd, 1) := by decide +kernel
theorem dX12_device_68 : decode cX12_device 68 = .ok (.istore_n 3, 1) := by decide +kernel
theorem dX12_device_69 : decode cX12_device 69 = .ok (.aload_n 0, 1) := by decide +kernel
theorem dX12_device_70 : decode cX12_device 70 = .ok (.getfield 76, 3) := by decide +kernel
theorem dX12_device_73 : decode cX12_device 73 = .ok (.iload 5, 2) := by decide +kernel
theorem dX12_device_75 : decode cX12_device 75 = .ok (.baload, 1) := by decide +kernel
theorem dX12_device_76 : decode cX12_device 76 = .ok (.ifCond .eq 8, 3) := by decide +kernel
theorem dX12_device_79 : decode cX12_device 79 = .ok (.iload 5, 2) := by decide +kernel
theorem dX12_device_81 : decode cX12_device 81 = .ok (.goto 5, 3) := by decide +kernel
theorem dX12_device_84 : decode cX12_device 84 = .ok (.iload 4, 2) := by decide +kernel
theorem dX12_device_86 : decode cX12_device 86 = .ok (.istore 4, 2) := by decide +kernel
theorem dX12_device_88 : decode cX12_device 88 = .ok (.iinc 5 (-1), 3) := by decide +kernel
theorem dX12_device_91 : decode cX12_device 91 = .ok (.goto (-58), 3) := by decide +kernel
theorem dX12_device_94 : decode cX12_device 94 = .ok (.iconst 0, 1) := by decide +kernel
theorem dX12_device_95 : decode cX12_device 95 = .ok (.istore 5, 2) := by decide +kernel
theorem dX12_device_97 : decode cX12_device 97 = .ok (.iconst 0, 1) := by decide +kernel
theorem dX12_device_98 : decode cX12_device 98 = .ok (.istore 6, 2) := by decide +kernel
theorem dX12_device_100 : decode cX12_device 100 = .ok (.iconst 0, 1) := by decide +kernel
theorem dX12_device_101 : decode cX12_device 101 = .ok (.istore 7, 2) := by decide +kernel
theorem dX12_device_103 : decode cX12_device 103 = .ok (.iload 7, 2) := by decide +kernel
theorem dX12_device_105 : decode cX12_device 105 = .ok (.sipush 144, 3) := by decide +kernel
theorem dX12_device_108 : decode cX12_device 108 = .ok (.if_icmp .ge 46, 3) := by decide +kernel
theorem dX12_device_111 : decode cX12_device 111 = .ok (.aload_n 0, 1) := by decide +kernel
theorem dX12_device_112 : decode cX12_device 112 = .ok (.getfield 76, 3) := by decide +kernel
theorem dX12_device_115 : decode cX12_device 115 = .ok (.iload 7, 2) := by decide +kernel
theorem dX12_device_117 : decode cX12_device 117 = .ok (.baload, 1) := by decide +kernel
theorem dX12_device_118 : decode cX12_device 118 = .ok (.ifCond .eq 30, 3) := by decide +kernel
theorem dX12_device_121 : decode cX12_device 121 = .ok (.aload_n 0, 1) := by decide +kernel
theorem dX12_device_122 : decode cX12_device 122 = .ok (.iload 7, 2) := by decide +kernel
theorem dX12_device_124 : decode cX12_device 124 = .ok (.invokevirtual 322, 3) := by decide +kernel
theorem dX12_device_127 : decode cX12_device 127 = .ok (.istore 8, 2) := by decide +kernel
theorem dX12_device_129 : decode cX12_device 129 = .ok (.iload 8, 2) := by decide +kernel
theorem dX12_device_131 : decode cX12_device 131 = .ok (.iload 6, 2) := by decide +kernel
theorem dX12_device_133 : decode cX12_device 133 = .ok (.if_icmp .le 8, 3) := by decide +kernel
theorem dX12_device_136 : decode cX12_device 136 = .ok (.iload 8, 2) := by decide +kernel
theorem dX12_device_138 : decode cX12_device 138 = .ok (.goto 5, 3) := by decide +kernel
theorem dX12_device_141 : decode cX12_device 141 = .ok (.iload 6, 2) := by decide +kernel
theorem dX12_device_143 : decode cX12_device 143 = .ok (.istore 6, 2) := by decide +kernel
theorem dX12_device_145 : decode cX12_device 145 = .ok (.iinc 5 1, 3) := by decide +kernel
theorem dX12_device_148 : decode cX12_device 148 = .ok (.iinc 7 1, 3) := by decide +kernel
theorem dX12_device_151 : decode cX12_device 151 = .ok (.goto (-48), 3) := by decide +kernel
theorem dX12_device_154 : decode cX12_device 154 = .ok (.iload_n 2, 1) := by decide +kernel
theorem dX12_device_155 : decode cX12_device 155 = .ok (.ifCond .ne 7, 3) := by decide +kernel
theorem dX12_device_158 : decode cX12_device 158 = .ok (.iload_n 3, 1) := by decide +kernel
theorem dX12_device_159 : decode cX12_device 159 = .ok (.goto 25, 3) := by decide +kernel
theorem dX12_device_162 : decode cX12_device 162 = .ok (.iload_n 2, 1) := by decide +kernel
theorem dX12_device_163 : decode cX12_device 163 = .ok (.iconst 1, 1) := by decide +kernel
theorem dX12_device_164 : decode cX12_device 164 = .ok (.if_icmp .ne 8, 3) := by decide +kernel
theorem dX12_device_167 : decode cX12_device 167 = .ok (.iload 5, 2) := by decide +kernel
theorem dX12_device_169 : decode cX12_device 169 = .ok (.goto 15, 3) := by decide +kernel
theorem dX12_device_172 : decode cX12_device 172 = .ok (.iload_n 2, 1) := by decide +kernel
theorem dX12_device_173 : decode cX12_device 173 = .ok (.iconst 2, 1) := by decide +kernel
theorem dX12_device_174 : decode cX12_device 174 = .ok (.if_icmp .ne 8, 3) := by decide +kernel
theorem dX12_device_177 : decode cX12_device 177 = .ok (.iload 4, 2) := by decide +kernel
theorem dX12_device_179 : decode cX12_device 179 = .ok (.goto 5, 3) := by decide +kernel
theorem dX12_device_182 : decode cX12_device 182 = .ok (.iload 6, 2) := by decide +kernel
theorem dX12_device_184 : decode cX12_device 184 = .ok (.ireturn, 1) := by decide +kernel
set_option maxRecDepth 20000 in
theorem ggX12_section_X12_in : GoodIn wsX12_section wsX12_in := goodIn_r _ [9] (by decide +kernel) (by decide +kernel)
set_option maxRecDepth 20000 in
theorem gX12_section_X12_in : GoodIn wsX12_section (va_wsS RX12 84 yX12_in wsX12_in) := goodIn_app (goodIn_of _ (by decide +kernel)) ggX12_section_X12_in
set_option maxRecDepth 20000 in
theorem ggX12_section_X12_findOpen : GoodIn wsX12_section wsX12_findOpen := goodIn_r _ [13, 4, 14, 15, 16, 8, 17, 5, 18, 19, 20, 21, 22, 23, 24, 25, 26, 27, 28, 29, 30, 31, 32, 33, 34, 35, 36, 37, 38, 39, 40, 41, 42, 43, 44, 45, 46, 47, 48, 49, 50, 51, 52, 53, 54, 55, 56, 57, 58, 59, 60, 61, 62, 63, 64, 65, 66, 67, 68, 69, 70] (by decide +kernel) (by decide +kernel)
set_option maxRecDepth 20000 in
theorem gX12_section_X12_findOpen : GoodIn wsX12_section (wsV RX12 223 RX12 yX12_findOpen wsX12_findOpen) := goodIn_app (goodIn_of _ (by decide +kernel)) ggX12_section_X12_findOpen
theorem dX12_section_0 : decode cX12_section 0 = .ok (.iload_n 1, 1) := by decide +kernel
theorem dX12_section_1 : decode cX12_section 1 = .ok (.i2l, 1) := by decide +kernel
theorem dX12_section_2 : decode cX12_section 2 = .ok (.lconst 0, 1) := by decide +kernel
theorem dX12_section_3 : decode cX12_section 3 = .ok (.lconst 1, 1) := by decide +kernel
theorem dX12_section_4 : decode cX12_section 4 = .ok (.invokestatic 84, 3) := by decide +kernel
theorem dX12_section_7 : decode cX12_section 7 = .ok (.ifCond .eq 15, 3) := by decide +kernel
theorem dX12_section_10 : decode cX12_section 10 = .ok (.iload_n 2, 1) := by decide +kernel
theorem dX12_section_11 : decode cX12_section 11 = .ok (.i2l, 1) := by decide +kernel
theorem dX12_section_12 : decode cX12_section 12 = .ok (.lconst 0, 1) := by decide +kernel
theorem dX12_section_13 : decode cX12_section 13 = .ok (.ldc2_w 88, 3) := by decide +kernel
theorem dX12_section_16 : decode cX12_section 16 = .ok (.invokestatic 84, 3) := by decide +kernel
theorem dX12_section_19 : decode cX12_section 19 = .ok (.ifCond .ne 6, 3) := by decide +kernel
theorem dX12_section_22 : decode cX12_section 22 = .ok (.bipush (-102), 2) := by decide +kernel
theorem dX12_section_24 : decode cX12_section 24 = .ok (.ireturn, 1) := by decide +kernel
theorem dX12_section_25 : decode cX12_section 25 = .ok (.aload_n 0, 1) := by decide +kernel
theorem dX12_section_26 : decode cX12_section 26 = .ok (.invokevirtual 223, 3) := by decide +kernel
theorem dX12_section_29 : decode cX12_section 29 = .ok (.aload_n 0, 1) := by decide +kernel
theorem dX12_section_30 : decode cX12_section 30 = .ok (.iconst 0, 1) := by decide +kernel
theorem dX12_section_31 : decode cX12_section 31 = .ok (.putfield 325, 3) := by decide +kernel
theorem dX12_section_34 : decode cX12_section 34 = .ok (.bipush 19, 2) := by decide +kernel
theorem dX12_section_36 : decode cX12_section 36 = .ok (.istore_n 3, 1) := by decide +kernel
theorem dX12_section_37 : decode cX12_section 37 = .ok (.iload_n 3, 1) := by decide +kernel
theorem dX12_section_38 : decode cX12_section 38 = .ok (.ifCond .lt 137, 3) := by decide +kernel
theorem dX12_section_41 : decode cX12_section 41 = .ok (.iconst 0, 1) := by decide +kernel
theorem dX12_section_42 : decode cX12_section 42 = .ok (.istore 4, 2) := by decide +kernel
theorem dX12_section_44 : decode cX12_section 44 = .ok (.iload 4, 2) := by decide +kernel
theorem dX12_section_46 : decode cX12_section 46 = .ok (.bipush 12, 2) := by decide +kernel
theorem dX12_section_48 : decode cX12_section 48 = .ok (.if_icmp .ge 100, 3) := by decide +kernel
theorem dX12_section_51 : decode cX12_section 51 = .ok (.sipush 144, 3) := by decide +kernel
theorem dX12_section_54 : decode cX12_section 54 = .ok (.iload_n 3, 1) := by decide +kernel
theorem dX12_section_55 : decode cX12_section 55 = .ok (.imul, 1) := by decide +kernel
theorem dX12_section_56 : decode cX12_section 56 = .ok (.iload_n 1, 1) := by decide +kernel
theorem dX12_section_57 : decode cX12_section 57 = .ok (.ifCond .ne 13, 3) := by decide +kernel
theorem dX12_section_60 : decode cX12_section 60 = .ok (.bipush 12, 2) := by decide +kernel
theorem dX12_section_62 : decode cX12_section 62 = .ok (.iload_n 2, 1) := by decide +kernel
theorem dX12_section_63 : decode cX12_section 63 = .ok (.imul, 1) := by decide +kernel
theorem dX12_section_64 : decode cX12_section 64 = .ok (.iload 4, 2) := by decide +kernel
theorem dX12_section_66 : decode cX12_section 66 = .ok (.iadd, 1) := by decide +kernel
theorem dX12_section_67 : decode cX12_section 67 = .ok (.goto 10, 3) := by decide +kernel
theorem dX12_section_70 : decode cX12_section 70 = .ok (.bipush 12, 2) := by decide +kernel
theorem dX12_section_72 : decode cX12_section 72 = .ok (.iload 4, 2) := by decide +kernel
theorem dX12_section_74 : decode cX12_section 74 = .ok (.imul, 1) := by decide +kernel
theorem dX12_section_75 : decode cX12_section 75 = .ok (.iload_n 2, 1) := by decide +kernel
theorem dX12_section_76 : decode cX12_section 76 = .ok (.iadd, 1) := by decide +kernel
theorem dX12_section_77 : decode cX12_section 77 = .ok (.iadd, 1) := by decide +kernel
theorem dX12_section_78 : decode cX12_section 78 = .ok (.istore 5, 2) := by decide +kernel
theorem dX12_section_80 : decode cX12_section 80 = .ok (.aload_n 0, 1) := by decide +kernel
theorem dX12_section_81 : decode cX12_section 81 = .ok (.getfield 79, 3) := by decide +kernel
theorem dX12_section_84 : decode cX12_section 84 = .ok (.aload_n 0, 1) := by decide +kernel
theorem dX12_section_85 : decode cX12_section 85 = .ok (.getfield 325, 3) := by decide +kernel
theorem dX12_section_88 : decode cX12_section 88 = .ok (.aload_n 0, 1) := by decide +kernel
theorem dX12_section_89 : decode cX12_section 89 = .ok (.getfield 7, 3) := by decide +kernel
theorem dX12_section_92 : decode cX12_section 92 = .ok (.iload 5, 2) := by decide +kernel
theorem dX12_section_94 : decode cX12_section 94 = .ok (.iaload, 1) := by decide +kernel
theorem dX12_section_95 : decode cX12_section 95 = .ok (.ifCond .le 18, 3) := by decide +kernel
theorem dX12_section_98 : decode cX12_section 98 = .ok (.bipush 97, 2) := by decide +kernel
theorem dX12_section_100 : decode cX12_section 100 = .ok (.aload_n 0, 1) := by decide +kernel
theorem dX12_section_101 : decode cX12_section 101 = .ok (.getfield 7, 3) := by decide +kernel
theorem dX12_section_104 : decode cX12_section 104 = .ok (.iload 5, 2) := by decide +kernel
theorem dX12_section_106 : decode cX12_section 106 = .ok (.iaload, 1) := by decide +kernel
theorem dX12_section_107 : decode cX12_section 107 = .ok (.iadd, 1) := by decide +kernel
theorem dX12_section_108 : decode cX12_section 108 = .ok (.iconst 1, 1) := by decide +kernel
theorem dX12_section_109 : decode cX12_section 109 = .ok (.isub, 1) := by decide +kernel
theorem dX12_section_110 : decode cX12_section 110 = .ok (.goto 20, 3) := by decide +kernel
theorem dX12_section_113 : decode cX12_section 113 = .ok (.aload_n 0, 1) := by decide +kernel
theorem dX12_section_114 : decode cX12_section 114 = .ok (.getfield 45, 3) := by decide +kernel
theorem dX12_section_117 : decode cX12_section 117 = .ok (.iload 5, 2) := by decide +kernel
theorem dX12_section_119 : decode cX12_section 119 = .ok (.baload, 1) := by decide +kernel
theorem dX12_section_120 : decode cX12_section 120 = .ok (.ifCond .eq 8, 3) := by decide +kernel
theorem dX12_section_123 : decode cX12_section 123 = .ok (.bipush 46, 2) := by decide +kernel
theorem dX12_section_125 : decode cX12_section 125 = .ok (.goto 5, 3) := by decide +kernel
theorem dX12_section_128 : decode cX12_section 128 = .ok (.bipush 45, 2) := by decide +kernel
theorem dX12_section_130 : decode cX12_section 130 = .ok (.i2b, 1) := by decide +kernel
theorem dX12_section_131 : decode cX12_section 131 = .ok (.bastore, 1) := by decide +kernel
theorem dX12_section_132 : decode cX12_section 132 = .ok (.aload_n 0, 1) := by decide +kernel
theorem dX12_section_133 : decode cX12_section 133 = .ok (.dup, 1) := by decide +kernel
theorem dX12_section_134 : decode cX12_section 134 = .ok (.getfield 325, 3) := by decide +kernel
theorem dX12_section_137 : decode cX12_section 137 = .ok (.iconst 1, 1) := by decide +kernel
theorem dX12_section_138 : decode cX12_section 138 = .ok (.iadd, 1) := by decide +kernel
theorem dX12_section_139 : decode cX12_section 139 = .ok (.putfield 325, 3) := by decide +kernel
theorem dX12_section_142 : decode cX12_section 142 = .ok (.iinc 4 1, 3) := by decide +kernel
theorem dX12_section_145 : decode cX12_section 145 = .ok (.goto (-101), 3) := by decide +kernel
theorem dX12_section_148 : decode cX12_section 148 = .ok (.aload_n 0, 1) := by decide +kernel
theorem dX12_section_149 : decode cX12_section 149 = .ok (.getfield 79, 3) := by decide +kernel
theorem dX12_section_152 : decode cX12_section 152 = .ok (.aload_n 0, 1) := by decide +kernel
theorem dX12_section_153 : decode cX12_section 153 = .ok (.getfield 325, 3) := by decide +kernel
theorem dX12_section_156 : decode cX12_section 156 = .ok (.bipush 10, 2) := by decide +kernel
theorem dX12_section_158 : decode cX12_section 158 = .ok (.bastore, 1) := by decide +kernel
theorem dX12_section_159 : decode cX12_section 159 = .ok (.aload_n 0, 1) := by decide +kernel
theorem dX12_section_160 : decode cX12_section 160 = .ok (.dup, 1) := by decide +kernel
theorem dX12_section_161 : decode cX12_section 161 = .ok (.getfield 325, 3) := by decide +kernel
theorem dX12_section_164 : decode cX12_section 164 = .ok (.iconst 1, 1) := by decide +kernel
theorem dX12_section_165 : decode cX12_section 165 = .ok (.iadd, 1) := by decide +kernel
theorem dX12_section_166 : decode cX12_section 166 = .ok (.putfield 325, 3) := by decide +kernel
theorem dX12_section_169 : decode cX12_section 169 = .ok (.iinc 3 (-1), 3) := by decide +kernel
theorem dX12_section_172 : decode cX12_section 172 = .ok (.goto (-135), 3) := by decide +kernel
theorem dX12_section_175 : decode cX12_section 175 = .ok (.aload_n 0, 1) := by decide +kernel
theorem dX12_section_176 : decode cX12_section 176 = .ok (.getfield 325, 3) := by decide +kernel
theorem dX12_section_179 : decode cX12_section 179 = .ok (.ireturn, 1) := by decide +kernel
set_option maxRecDepth 20000 in
theorem ggX12_out_X12_in : GoodIn wsX12_out wsX12_in := goodIn_r _ [6] (by decide +kernel) (by decide +kernel)
set_option maxRecDepth 20000 in
theorem gX12_out_X12_in : GoodIn wsX12_out (va_wsS RX12 84 yX12_in wsX12_in) := goodIn_app (goodIn_of _ (by decide +kernel)) ggX12_out_X12_in
theorem dX12_out_0 : decode cX12_out 0 = .ok (.iload_n 1, 1) := by decide +kernel
theorem dX12_out_1 : decode cX12_out 1 = .ok (.i2l, 1) := by decide +kernel
theorem dX12_out_2 : decode cX12_out 2 = .ok (.lconst 0, 1) := by decide +kernel
theorem dX12_out_3 : decode cX12_out 3 = .ok (.aload_n 0, 1) := by decide +kernel
theorem dX12_out_4 : decode cX12_out 4 = .ok (.getfield 325, 3) := by decide +kernel
theorem dX12_out_7 : decode cX12_out 7 = .ok (.iconst 1, 1) := by decide +kernel
theorem dX12_out_8 : decode cX12_out 8 = .ok (.isub, 1) := by decide +kernel
theorem dX12_out_9 : decode cX12_out 9 = .ok (.i2l, 1) := by decide +kernel
theorem dX12_out_10 : decode cX12_out 10 = .ok (.invokestatic 84, 3) := by decide +kernel
theorem dX12_out_13 : decode cX12_out 13 = .ok (.ifCond .eq 12, 3) := by decide +kernel
theorem dX12_out_16 : decode cX12_out 16 = .ok (.aload_n 0, 1) := by decide +kernel
theorem dX12_out_17 : decode cX12_out 17 = .ok (.getfield 79, 3) := by decide +kernel
theorem dX12_out_20 : decode cX12_out 20 = .ok (.iload_n 1, 1) := by decide +kernel
theorem dX12_out_21 : decode cX12_out 21 = .ok (.baload, 1) := by decide +kernel
theorem dX12_out_22 : decode cX12_out 22 = .ok (.goto 4, 3) := by decide +kernel
theorem dX12_out_25 : decode cX12_out 25 = .ok (.iconst (-1), 1) := by decide +kernel
theorem dX12_out_26 : decode cX12_out 26 = .ok (.ireturn, 1) := by decide +kernel
theorem dX12_digest_0 : decode cX12_digest 0 = .ok (.bipush 7, 2) := by decide +kernel
theorem dX12_digest_2 : decode cX12_digest 2 = .ok (.istore_n 1, 1) := by decide +kernel
theorem dX12_digest_3 : decode cX12_digest 3 = .ok (.iconst 0, 1) := by decide +kernel
theorem dX12_digest_4 : decode cX12_digest 4 = .ok (.istore_n 2, 1) := by decide +kernel
theorem dX12_digest_5 : decode cX12_digest 5 = .ok (.iload_n 2, 1) := by decide +kernel
theorem dX12_digest_6 : decode cX12_digest 6 = .ok (.sipush 2880, 3) := by decide +kernel
theorem dX12_digest_9 : decode cX12_digest 9 = .ok (.if_icmp .ge 21, 3) := by decide +kernel
theorem dX12_digest_12 : decode cX12_digest 12 = .ok (.bipush 31, 2) := by decide +kernel
theorem dX12_digest_14 : decode cX12_digest 14 = .ok (.iload_n 1, 1) := by decide +kernel
theorem dX12_digest_15 : decode cX12_digest 15 = .ok (.imul, 1) := by decide +kernel
theorem dX12_digest_16 : decode cX12_digest 16 = .ok (.aload_n 0, 1) := by decide +kernel
theorem dX12_digest_17 : decode cX12_digest 17 = .ok (.getfield 7, 3) := by decide +kernel
theorem dX12_digest_20 : decode cX12_digest 20 = .ok (.iload_n 2, 1) := by decide +kernel
theorem dX12_digest_21 : decode cX12_digest 21 = .ok (.iaload, 1) := by decide +kernel
theorem dX12_digest_22 : decode cX12_digest 22 = .ok (.iadd, 1) := by decide +kernel
theorem dX12_digest_23 : decode cX12_digest 23 = .ok (.istore_n 1, 1) := by decide +kernel
theorem dX12_digest_24 : decode cX12_digest 24 = .ok (.iinc 2 1, 3) := by decide +kernel
theorem dX12_digest_27 : decode cX12_digest 27 = .ok (.goto (-22), 3) := by decide +kernel
theorem dX12_digest_30 : decode cX12_digest 30 = .ok (.iload_n 1, 1) := by decide +kernel
theorem dX12_digest_31 : decode cX12_digest 31 = .ok (.ireturn, 1) := by decide +kernel
theorem dJ9_max_7cf53_0 : decode cJ9_max_7cf53 0 = .ok (.iload_n 0, 1) := by decide +kernel
theorem dJ9_max_7cf53_1 : decode cJ9_max_7cf53 1 = .ok (.iload_n 1, 1) := by decide +kernel
theorem dJ9_max_7cf53_2 : decode cJ9_max_7cf53 2 = .ok (.if_icmp .lt 7, 3) := by decide +kernel
theorem dJ9_max_7cf53_5 : decode cJ9_max_7cf53 5 = .ok (.iload_n 0, 1) := by decide +kernel
theorem dJ9_max_7cf53_6 : decode cJ9_max_7cf53 6 = .ok (.goto 4, 3) := by decide +kernel
theorem dJ9_max_7cf53_9 : decode cJ9_max_7cf53 9 = .ok (.iload_n 1, 1) := by decide +kernel
theorem dJ9_max_7cf53_10 : decode cJ9_max_7cf53 10 = .ok (.ireturn, 1) := by decide +kernel
theorem dJ9_min_7cf53_0 : decode cJ9_min_7cf53 0 = .ok (.iload_n 0, 1) := by decide +kernel
theorem dJ9_min_7cf53_1 : decode cJ9_min_7cf53 1 = .ok (.iload_n 1, 1) := by decide +kernel
theorem dJ9_min_7cf53_2 : decode cJ9_min_7cf53 2 = .ok (.if_icmp .gt 7, 3) := by decide +kernel
theorem dJ9_min_7cf53_5 : decode cJ9_min_7cf53 5 = .ok (.iload_n 0, 1) := by decide +kernel
theorem dJ9_min_7cf53_6 : decode cJ9_min_7cf53 6 = .ok (.goto 4, 3) := by decide +kernel
theorem dJ9_min_7cf53_9 : decode cJ9_min_7cf53 9 = .ok (.iload_n 1, 1) := by decide +kernel
theorem dJ9_min_7cf53_10 : decode cJ9_min_7cf53 10 = .ok (.ireturn, 1) := by decide +kernel
set_option maxRecDepth 20000 in
theorem ggJ0_length_8abf5_J0_coder_7d493 : GoodIn wsJ0_length_8abf5 wsJ0_coder_7d493 := goodIn_r _ [6, 7, 8] (by decide +kernel) (by decide +kernel)
set_option maxRecDepth 20000 in
theorem gJ0_length_8abf5_J0_coder_7d493 : GoodIn wsJ0_length_8abf5 (wsV RJ0 335 RJ0 yJ0_coder_7d493 wsJ0_coder_7d493) := goodIn_app (goodIn_of _ (by decide +kernel)) ggJ0_length_8abf5_J0_coder_7d493
theorem dJ0_length_8abf5_0 : decode cJ0_length_8abf5 0 = .ok (.aload_n 0, 1) := by decide +kernel
theorem dJ0_length_8abf5_1 : decode cJ0_length_8abf5 1 = .ok (.getfield 9, 3) := by decide +kernel
theorem dJ0_length_8abf5_4 : decode cJ0_length_8abf5 4 = .ok (.arraylength, 1) := by decide +kernel
theorem dJ0_length_8abf5_5 : decode cJ0_length_8abf5 5 = .ok (.aload_n 0, 1) := by decide +kernel
theorem dJ0_length_8abf5_6 : decode cJ0_length_8abf5 6 = .ok (.invokevirtual 335, 3) := by decide +kernel
theorem dJ0_length_8abf5_9 : decode cJ0_length_8abf5 9 = .ok (.ishr, 1) := by decide +kernel
theorem dJ0_length_8abf5_10 : decode cJ0_length_8abf5 10 = .ok (.ireturn, 1) := by decide +kernel
set_option maxRecDepth 20000 in
theorem ggJ0_charAt_5068e_J0_isLatin1_aae02 : GoodIn wsJ0_charAt_5068e wsJ0_isLatin1_aae02 := goodIn_r _ [6, 7, 8] (by decide +kernel) (by decide +kernel)
set_option maxRecDepth 20000 in
theorem gJ0_charAt_5068e_J0_isLatin1_aae02 : GoodIn wsJ0_charAt_5068e (wsV RJ0 492 RJ0 yJ0_isLatin1_aae02 wsJ0_isLatin1_aae02) := goodIn_app (goodIn_of _ (by decide +kernel)) ggJ0_charAt_5068e_J0_isLatin1_aae02
set_option maxRecDepth 20000 in
theorem ggJ0_charAt_5068e_J1_charAt_3b067 : GoodIn wsJ0_charAt_5068e wsJ1_charAt_3b067 := goodIn_r _ [12, 13, 14, 5, 15, 16, 17, 18, 19, 20] (by decide +kernel) (by decide +kernel)
set_option maxRecDepth 20000 in
theorem gJ0_charAt_5068e_J1_charAt_3b067 : GoodIn wsJ0_charAt_5068e (va_wsS RJ0 495 yJ1_charAt_3b067 wsJ1_charAt_3b067) := goodIn_app (goodIn_of _ (by decide +kernel)) ggJ0_charAt_5068e_J1_charAt_3b067
set_option maxRecDepth 20000 in
theorem ggJ0_charAt_5068e_J2_charAt_3b067 : GoodIn wsJ0_charAt_5068e wsJ2_charAt_3b067 := goodIn_r _ [24, 25, 26, 23, 27, 28, 29, 30, 31, 14, 5, 15, 16, 17, 18, 19, 20, 32, 33, 34, 35, 36, 37] (by decide +kernel) (by decide +kernel)
set_option maxRecDepth 20000 in
theorem gJ0_charAt_5068e_J2_charAt_3b067 : GoodIn wsJ0_charAt_5068e (va_wsS RJ0 498 yJ2_charAt_3b067 wsJ2_charAt_3b067) := goodIn_app (goodIn_of _ (by decide +kernel)) ggJ0_charAt_5068e_J2_charAt_3b067
theorem dJ0_charAt_5068e_0 : decode cJ0_charAt_5068e 0 = .ok (.aload_n 0, 1) := by decide +kernel
theorem dJ0_charAt_5068e_1 : decode cJ0_charAt_5068e 1 = .ok (.invokevirtual 492, 3) := by decide +kernel
theorem dJ0_charAt_5068e_4 : decode cJ0_charAt_5068e 4 = .ok (.ifCond .eq 12, 3) := by decide +kernel
theorem dJ0_charAt_5068e_7 : decode cJ0_charAt_5068e 7 = .ok (.aload_n 0, 1) := by decide +kernel
theorem dJ0_charAt_5068e_8 : decode cJ0_charAt_5068e 8 = .ok (.getfield 9, 3) := by decide +kernel
theorem dJ0_charAt_5068e_11 : decode cJ0_charAt_5068e 11 = .ok (.iload_n 1, 1) := by decide +kernel
theorem dJ0_charAt_5068e_12 : decode cJ0_charAt_5068e 12 = .ok (.invokestatic 495, 3) := by decide +kernel
theorem dJ0_charAt_5068e_15 : decode cJ0_charAt_5068e 15 = .ok (.ireturn, 1) := by decide +kernel
theorem dJ0_charAt_5068e_16 : decode cJ0_charAt_5068e 16 = .ok (.aload_n 0, 1) := by decide +kernel
theorem dJ0_charAt_5068e_17 : decode cJ0_charAt_5068e 17 = .ok (.getfield 9, 3) := by decide +kernel
theorem dJ0_charAt_5068e_20 : decode cJ0_charAt_5068e 20 = .ok (.iload_n 1, 1) := by decide +kernel
theorem dJ0_charAt_5068e_21 : decode cJ0_charAt_5068e 21 = .ok (.invokestatic 498, 3) := by decide +kernel
theorem dJ0_charAt_5068e_24 : decode cJ0_charAt_5068e 24 = .ok (.ireturn, 1) := by decide +kernel
theorem dJ0_coder_7d493_0 : decode cJ0_coder_7d493 0 = .ok (.getstatic 38, 3) := by decide +kernel
theorem dJ0_coder_7d493_3 : decode cJ0_coder_7d493 3 = .ok (.ifCond .eq 10, 3) := by decide +kernel
theorem dJ0_coder_7d493_6 : decode cJ0_coder_7d493 6 = .ok (.aload_n 0, 1) := by decide +kernel
theorem dJ0_coder_7d493_7 : decode cJ0_coder_7d493 7 = .ok (.getfield 15, 3) := by decide +kernel
theorem dJ0_coder_7d493_10 : decode cJ0_coder_7d493 10 = .ok (.goto 4, 3) := by decide +kernel
theorem dJ0_coder_7d493_13 : decode cJ0_coder_7d493 13 = .ok (.iconst 1, 1) := by decide +kernel
theorem dJ0_coder_7d493_14 : decode cJ0_coder_7d493 14 = .ok (.ireturn, 1) := by decide +kernel
theorem dJ0_isLatin1_aae02_0 : decode cJ0_isLatin1_aae02 0 = .ok (.getstatic 38, 3) := by decide +kernel
theorem dJ0_isLatin1_aae02_3 : decode cJ0_isLatin1_aae02 3 = .ok (.ifCond .eq 14, 3) := by decide +kernel
theorem dJ0_isLatin1_aae02_6 : decode cJ0_isLatin1_aae02 6 = .ok (.aload_n 0, 1) := by decide +kernel
theorem dJ0_isLatin1_aae02_7 : decode cJ0_isLatin1_aae02 7 = .ok (.getfield 15, 3) := by decide +kernel
theorem dJ0_isLatin1_aae02_10 : decode cJ0_isLatin1_aae02 10 = .ok (.ifCond .ne 7, 3) := by decide +kernel
theorem dJ0_isLatin1_aae02_13 : decode cJ0_isLatin1_aae02 13 = .ok (.iconst 1, 1) := by decide +kernel
theorem dJ0_isLatin1_aae02_14 : decode cJ0_isLatin1_aae02 14 = .ok (.goto 4, 3) := by decide +kernel
theorem dJ0_isLatin1_aae02_17 : decode cJ0_isLatin1_aae02 17 = .ok (.iconst 0, 1) := by decide +kernel
theorem dJ0_isLatin1_aae02_18 : decode cJ0_isLatin1_aae02 18 = .ok (.ireturn, 1) := by decide +kernel
set_option maxRecDepth 20000 in
theorem ggJ0_checkIndex_df160_J3_checkIndex_8e157 : GoodIn wsJ0_checkIndex_df160 wsJ3_checkIndex_8e157 := goodIn_r _ [5] (by decide +kernel) (by decide +kernel)
set_option maxRecDepth 20000 in
theorem gJ0_checkIndex_df160_J3_checkIndex_8e157 : GoodIn wsJ0_checkIndex_df160 (va_wsS RJ0 1059 yJ3_checkIndex_8e157 wsJ3_checkIndex_8e157) := goodIn_app (goodIn_of _ (by decide +kernel)) ggJ0_checkIndex_df160_J3_checkIndex_8e157
theorem dJ0_checkIndex_df160_0 : decode cJ0_checkIndex_df160 0 = .ok (.iload_n 0, 1) := by decide +kernel
theorem dJ0_checkIndex_df160_1 : decode cJ0_checkIndex_df160 1 = .ok (.iload_n 1, 1) := by decide +kernel
theorem dJ0_checkIndex_df160_2 : decode cJ0_checkIndex_df160 2 = .ok (.getstatic 1053, 3) := by decide +kernel
theorem dJ0_checkIndex_df160_5 : decode cJ0_checkIndex_df160 5 = .ok (.invokestatic 1059, 3) := by decide +kernel
theorem dJ0_checkIndex_df160_8 : decode cJ0_checkIndex_df160 8 = .ok (.pop, 1) := by decide +kernel
theorem dJ0_checkIndex_df160_9 : decode cJ0_checkIndex_df160 9 = .ok (.return_, 1) := by decide +kernel
set_option maxRecDepth 20000 in
theorem ggJ1_charAt_3b067_J0_checkIndex_df160 : GoodIn wsJ1_charAt_3b067 wsJ0_checkIndex_df160 := goodIn_r _ [4, 5, 6, 7, 8, 9] (by decide +kernel) (by decide +kernel)
set_option maxRecDepth 20000 in
theorem gJ1_charAt_3b067_J0_checkIndex_df160 : GoodIn wsJ1_charAt_3b067 (va_wsS RJ1 9 yJ0_checkIndex_df160 wsJ0_checkIndex_df160) := goodIn_app (goodIn_of _ (by decide +kernel)) ggJ1_charAt_3b067_J0_checkIndex_df160
theorem dJ1_charAt_3b067_0 : decode cJ1_charAt_3b067 0 = .ok (.iload_n 1, 1) := by decide +kernel
theorem dJ1_charAt_3b067_1 : decode cJ1_charAt_3b067 1 = .ok (.aload_n 0, 1) := by decide +kernel
theorem dJ1_charAt_3b067_2 : decode cJ1_charAt_3b067 2 = .ok (.arraylength, 1) := by decide +kernel
theorem dJ1_charAt_3b067_3 : decode cJ1_charAt_3b067 3 = .ok (.invokestatic 9, 3) := by decide +kernel
theorem dJ1_charAt_3b067_6 : decode cJ1_charAt_3b067 6 = .ok (.aload_n 0, 1) := by decide +kernel
theorem dJ1_charAt_3b067_7 : decode cJ1_charAt_3b067 7 = .ok (.iload_n 1, 1) := by decide +kernel
theorem dJ1_charAt_3b067_8 : decode cJ1_charAt_3b067 8 = .ok (.baload, 1) := by decide +kernel
theorem dJ1_charAt_3b067_9 : decode cJ1_charAt_3b067 9 = .ok (.sipush 255, 3) := by decide +kernel
theorem dJ1_charAt_3b067_12 : decode cJ1_charAt_3b067 12 = .ok (.iand, 1) := by decide +kernel
theorem dJ1_charAt_3b067_13 : decode cJ1_charAt_3b067 13 = .ok (.i2c, 1) := by decide +kernel
theorem dJ1_charAt_3b067_14 : decode cJ1_charAt_3b067 14 = .ok (.ireturn, 1) := by decide +kernel
set_option maxRecDepth 20000 in
theorem ggJ2_getChar_3b067_J2_length_9d52b : GoodIn wsJ2_getChar_3b067 wsJ2_length_9d52b := goodIn_r _ [7] (by decide +kernel) (by decide +kernel)
set_option maxRecDepth 20000 in
theorem gJ2_getChar_3b067_J2_length_9d52b : GoodIn wsJ2_getChar_3b067 (va_wsS RJ2 48 yJ2_length_9d52b wsJ2_length_9d52b) := goodIn_app (goodIn_of _ (by decide +kernel)) ggJ2_getChar_3b067_J2_length_9d52b
theorem dJ2_getChar_3b067_0 : decode cJ2_getChar_3b067 0 = .ok (.getstatic 44, 3) := by decide +kernel
theorem dJ2_getChar_3b067_3 : decode cJ2_getChar_3b067 3 = .ok (.ifCond .ne 25, 3) := by decide +kernel
theorem dJ2_getChar_3b067_6 : decode cJ2_getChar_3b067 6 = .ok (.iload_n 1, 1) := by decide +kernel
theorem dJ2_getChar_3b067_7 : decode cJ2_getChar_3b067 7 = .ok (.ifCond .lt 11, 3) := by decide +kernel
theorem dJ2_getChar_3b067_10 : decode cJ2_getChar_3b067 10 = .ok (.iload_n 1, 1) := by decide +kernel
theorem dJ2_getChar_3b067_11 : decode cJ2_getChar_3b067 11 = .ok (.aload_n 0, 1) := by decide +kernel
theorem dJ2_getChar_3b067_12 : decode cJ2_getChar_3b067 12 = .ok (.invokestatic 48, 3) := by decide +kernel
theorem dJ2_getChar_3b067_15 : decode cJ2_getChar_3b067 15 = .ok (.if_icmp .lt 13, 3) := by decide +kernel
theorem dJ2_getChar_3b067_18 : decode cJ2_getChar_3b067 18 = .ok (.new 52, 3) := by decide +kernel
theorem dJ2_getChar_3b067_21 : decode cJ2_getChar_3b067 21 = .ok (.dup, 1) := by decide +kernel
theorem dJ2_getChar_3b067_22 : decode cJ2_getChar_3b067 22 = .ok (.ldc 54, 2) := by decide +kernel
theorem dJ2_getChar_3b067_24 : decode cJ2_getChar_3b067 24 = .ok (.invokespecial 56, 3) := by decide +kernel
theorem dJ2_getChar_3b067_27 : decode cJ2_getChar_3b067 27 = .ok (.athrow, 1) := by decide +kernel
theorem dJ2_getChar_3b067_28 : decode cJ2_getChar_3b067 28 = .ok (.iload_n 1, 1) := by decide +kernel
theorem dJ2_getChar_3b067_29 : decode cJ2_getChar_3b067 29 = .ok (.iconst 1, 1) := by decide +kernel
theorem dJ2_getChar_3b067_30 : decode cJ2_getChar_3b067 30 = .ok (.ishl, 1) := by decide +kernel
theorem dJ2_getChar_3b067_31 : decode cJ2_getChar_3b067 31 = .ok (.istore_n 1, 1) := by decide +kernel
theorem dJ2_getChar_3b067_32 : decode cJ2_getChar_3b067 32 = .ok (.aload_n 0, 1) := by decide +kernel
theorem dJ2_getChar_3b067_33 : decode cJ2_getChar_3b067 33 = .ok (.iload_n 1, 1) := by decide +kernel
theorem dJ2_getChar_3b067_34 : decode cJ2_getChar_3b067 34 = .ok (.iinc 1 1, 3) := by decide +kernel
theorem dJ2_getChar_3b067_37 : decode cJ2_getChar_3b067 37 = .ok (.baload, 1) := by decide +kernel
theorem dJ2_getChar_3b067_38 : decode cJ2_getChar_3b067 38 = .ok (.sipush 255, 3) := by decide +kernel
theorem dJ2_getChar_3b067_41 : decode cJ2_getChar_3b067 41 = .ok (.iand, 1) := by decide +kernel
theorem dJ2_getChar_3b067_42 : decode cJ2_getChar_3b067 42 = .ok (.getstatic 59, 3) := by decide +kernel
theorem dJ2_getChar_3b067_45 : decode cJ2_getChar_3b067 45 = .ok (.ishl, 1) := by decide +kernel
theorem dJ2_getChar_3b067_46 : decode cJ2_getChar_3b067 46 = .ok (.aload_n 0, 1) := by decide +kernel
theorem dJ2_getChar_3b067_47 : decode cJ2_getChar_3b067 47 = .ok (.iload_n 1, 1) := by decide +kernel
theorem dJ2_getChar_3b067_48 : decode cJ2_getChar_3b067 48 = .ok (.baload, 1) := by decide +kernel
theorem dJ2_getChar_3b067_49 : decode cJ2_getChar_3b067 49 = .ok (.sipush 255, 3) := by decide +kernel
theorem dJ2_getChar_3b067_52 : decode cJ2_getChar_3b067 52 = .ok (.iand, 1) := by decide +kernel
theorem dJ2_getChar_3b067_53 : decode cJ2_getChar_3b067 53 = .ok (.getstatic 63, 3) := by decide +kernel
theorem dJ2_getChar_3b067_56 : decode cJ2_getChar_3b067 56 = .ok (.ishl, 1) := by decide +kernel
theorem dJ2_getChar_3b067_57 : decode cJ2_getChar_3b067 57 = .ok (.ior, 1) := by decide +kernel
theorem dJ2_getChar_3b067_58 : decode cJ2_getChar_3b067 58 = .ok (.i2c, 1) := by decide +kernel
theorem dJ2_getChar_3b067_59 : decode cJ2_getChar_3b067 59 = .ok (.ireturn, 1) := by decide +kernel
theorem dJ2_length_9d52b_0 : decode cJ2_length_9d52b 0 = .ok (.aload_n 0, 1) := by decide +kernel
theorem dJ2_length_9d52b_1 : decode cJ2_length_9d52b 1 = .ok (.arraylength, 1) := by decide +kernel
theorem dJ2_length_9d52b_2 : decode cJ2_length_9d52b 2 = .ok (.iconst 1, 1) := by decide +kernel
theorem dJ2_length_9d52b_3 : decode cJ2_length_9d52b 3 = .ok (.ishr, 1) := by decide +kernel
theorem dJ2_length_9d52b_4 : decode cJ2_length_9d52b 4 = .ok (.ireturn, 1) := by decide +kernel
set_option maxRecDepth 20000 in
theorem ggJ2_charAt_3b067_J2_checkIndex_2214a : GoodIn wsJ2_charAt_3b067 wsJ2_checkIndex_2214a := goodIn_r _ [4, 5, 6, 3, 7, 8, 9, 10, 11, 12, 13, 14, 15, 16] (by decide +kernel) (by decide +kernel)
set_option maxRecDepth 20000 in
theorem gJ2_charAt_3b067_J2_checkIndex_2214a : GoodIn wsJ2_charAt_3b067 (va_wsS RJ2 67 yJ2_checkIndex_2214a wsJ2_checkIndex_2214a) := goodIn_app (goodIn_of _ (by decide +kernel)) ggJ2_charAt_3b067_J2_checkIndex_2214a
set_option maxRecDepth 20000 in
theorem ggJ2_charAt_3b067_J2_getChar_3b067 : GoodIn wsJ2_charAt_3b067 wsJ2_getChar_3b067 := goodIn_r _ [19, 20, 21, 22, 5, 6, 3, 7] (by decide +kernel) (by decide +kernel)
set_option maxRecDepth 20000 in
theorem gJ2_charAt_3b067_J2_getChar_3b067 : GoodIn wsJ2_charAt_3b067 (va_wsS RJ2 71 yJ2_getChar_3b067 wsJ2_getChar_3b067) := goodIn_app (goodIn_of _ (by decide +kernel)) ggJ2_charAt_3b067_J2_getChar_3b067
theorem dJ2_charAt_3b067_0 : decode cJ2_charAt_3b067 0 = .ok (.iload_n 1, 1) := by decide +kernel
theorem dJ2_charAt_3b067_1 : decode cJ2_charAt_3b067 1 = .ok (.aload_n 0, 1) := by decide +kernel
theorem dJ2_charAt_3b067_2 : decode cJ2_charAt_3b067 2 = .ok (.invokestatic 67, 3) := by decide +kernel
theorem dJ2_charAt_3b067_5 : decode cJ2_charAt_3b067 5 = .ok (.aload_n 0, 1) := by decide +kernel
theorem dJ2_charAt_3b067_6 : decode cJ2_charAt_3b067 6 = .ok (.iload_n 1, 1) := by decide +kernel
theorem dJ2_charAt_3b067_7 : decode cJ2_charAt_3b067 7 = .ok (.invokestatic 71, 3) := by decide +kernel
theorem dJ2_charAt_3b067_10 : decode cJ2_charAt_3b067 10 = .ok (.ireturn, 1) := by decide +kernel
set_option maxRecDepth 20000 in
theorem ggJ2_checkIndex_2214a_J2_length_9d52b : GoodIn wsJ2_checkIndex_2214a wsJ2_length_9d52b := goodIn_r _ [4] (by decide +kernel) (by decide +kernel)
set_option maxRecDepth 20000 in
theorem gJ2_checkIndex_2214a_J2_length_9d52b : GoodIn wsJ2_checkIndex_2214a (va_wsS RJ2 48 yJ2_length_9d52b wsJ2_length_9d52b) := goodIn_app (goodIn_of _ (by decide +kernel)) ggJ2_checkIndex_2214a_J2_length_9d52b
set_option maxRecDepth 20000 in
theorem ggJ2_checkIndex_2214a_J0_checkIndex_df160 : GoodIn wsJ2_checkIndex_2214a wsJ0_checkIndex_df160 := goodIn_r _ [8, 9, 10, 11, 12, 13] (by decide +kernel) (by decide +kernel)
set_option maxRecDepth 20000 in
theorem gJ2_checkIndex_2214a_J0_checkIndex_df160 : GoodIn wsJ2_checkIndex_2214a (va_wsS RJ2 414 yJ0_checkIndex_df160 wsJ0_checkIndex_df160) := goodIn_app (goodIn_of _ (by decide +kernel)) ggJ2_checkIndex_2214a_J0_checkIndex_df160
theorem dJ2_checkIndex_2214a_0 : decode cJ2_checkIndex_2214a 0 = .ok (.iload_n 0, 1) := by decide +kernel
theorem dJ2_checkIndex_2214a_1 : decode cJ2_checkIndex_2214a 1 = .ok (.aload_n 1, 1) := by decide +kernel
theorem dJ2_checkIndex_2214a_2 : decode cJ2_checkIndex_2214a 2 = .ok (.invokestatic 48, 3) := by decide +kernel
theorem dJ2_checkIndex_2214a_5 : decode cJ2_checkIndex_2214a 5 = .ok (.invokestatic 414, 3) := by decide +kernel
theorem dJ2_checkIndex_2214a_8 : decode cJ2_checkIndex_2214a 8 = .ok (.return_, 1) := by decide +kernel
theorem dJ7_fill_53178_0 : decode cJ7_fill_53178 0 = .ok (.iconst 0, 1) := by decide +kernel
theorem dJ7_fill_53178_1 : decode cJ7_fill_53178 1 = .ok (.istore_n 2, 1) := by decide +kernel
theorem dJ7_fill_53178_2 : decode cJ7_fill_53178 2 = .ok (.aload_n 0, 1) := by decide +kernel
theorem dJ7_fill_53178_3 : decode cJ7_fill_53178 3 = .ok (.arraylength, 1) := by decide +kernel
theorem dJ7_fill_53178_4 : decode cJ7_fill_53178 4 = .ok (.istore_n 3, 1) := by decide +kernel
theorem dJ7_fill_53178_5 : decode cJ7_fill_53178 5 = .ok (.iload_n 2, 1) := by decide +kernel
theorem dJ7_fill_53178_6 : decode cJ7_fill_53178 6 = .ok (.iload_n 3, 1) := by decide +kernel
theorem dJ7_fill_53178_7 : decode cJ7_fill_53178 7 = .ok (.if_icmp .ge 13, 3) := by decide +kernel
theorem dJ7_fill_53178_10 : decode cJ7_fill_53178 10 = .ok (.aload_n 0, 1) := by decide +kernel
theorem dJ7_fill_53178_11 : decode cJ7_fill_53178 11 = .ok (.iload_n 2, 1) := by decide +kernel
theorem dJ7_fill_53178_12 : decode cJ7_fill_53178 12 = .ok (.iload_n 1, 1) := by decide +kernel
theorem dJ7_fill_53178_13 : decode cJ7_fill_53178 13 = .ok (.iastore, 1) := by decide +kernel
theorem dJ7_fill_53178_14 : decode cJ7_fill_53178 14 = .ok (.iinc 2 1, 3) := by decide +kernel
theorem dJ7_fill_53178_17 : decode cJ7_fill_53178 17 = .ok (.goto (-12), 3) := by decide +kernel
theorem dJ7_fill_53178_20 : decode cJ7_fill_53178 20 = .ok (.return_, 1) := by decide +kernel
theorem dJ3_checkIndex_8e157_0 : decode cJ3_checkIndex_8e157 0 = .ok (.iload_n 0, 1) := by decide +kernel
theorem dJ3_checkIndex_8e157_1 : decode cJ3_checkIndex_8e157 1 = .ok (.ifCond .lt 8, 3) := by decide +kernel
theorem dJ3_checkIndex_8e157_4 : decode cJ3_checkIndex_8e157 4 = .ok (.iload_n 0, 1) := by decide +kernel
theorem dJ3_checkIndex_8e157_5 : decode cJ3_checkIndex_8e157 5 = .ok (.iload_n 1, 1) := by decide +kernel
theorem dJ3_checkIndex_8e157_6 : decode cJ3_checkIndex_8e157 6 = .ok (.if_icmp .lt 10, 3) := by decide +kernel
theorem dJ3_checkIndex_8e157_9 : decode cJ3_checkIndex_8e157 9 = .ok (.aload_n 2, 1) := by decide +kernel
theorem dJ3_checkIndex_8e157_10 : decode cJ3_checkIndex_8e157 10 = .ok (.iload_n 0, 1) := by decide +kernel
theorem dJ3_checkIndex_8e157_11 : decode cJ3_checkIndex_8e157 11 = .ok (.iload_n 1, 1) := by decide +kernel
