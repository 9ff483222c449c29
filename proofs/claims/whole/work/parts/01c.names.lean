theorem dX0_init_0 : decode cX0_init 0 = .ok (.aload_n 0, 1) := by decide +kernel
theorem dX0_init_1 : decode cX0_init 1 = .ok (.invokespecial 3, 3) := by decide +kernel
theorem dX0_init_4 : decode cX0_init 4 = .ok (.aload_n 0, 1) := by decide +kernel
theorem dX0_init_5 : decode cX0_init 5 = .ok (.sipush 2880, 3) := by decide +kernel
theorem dX0_init_8 : decode cX0_init 8 = .ok (.newarray .int, 2) := by decide +kernel
theorem dX0_init_10 : decode cX0_init 10 = .ok (.putfield 9, 3) := by decide +kernel
theorem dX0_init_13 : decode cX0_init 13 = .ok (.iconst 0, 1) := by decide +kernel
theorem dX0_init_14 : decode cX0_init 14 = .ok (.istore_n 1, 1) := by decide +kernel
theorem dX0_init_15 : decode cX0_init 15 = .ok (.iload_n 1, 1) := by decide +kernel
theorem dX0_init_16 : decode cX0_init 16 = .ok (.sipush 144, 3) := by decide +kernel
theorem dX0_init_19 : decode cX0_init 19 = .ok (.if_icmp .ge 16, 3) := by decide +kernel
theorem dX0_init_22 : decode cX0_init 22 = .ok (.aload_n 0, 1) := by decide +kernel
theorem dX0_init_23 : decode cX0_init 23 = .ok (.getfield 9, 3) := by decide +kernel
theorem dX0_init_26 : decode cX0_init 26 = .ok (.iload_n 1, 1) := by decide +kernel
theorem dX0_init_27 : decode cX0_init 27 = .ok (.iconst 1, 1) := by decide +kernel
theorem dX0_init_28 : decode cX0_init 28 = .ok (.iastore, 1) := by decide +kernel
theorem dX0_init_29 : decode cX0_init 29 = .ok (.iinc 1 1, 3) := by decide +kernel
theorem dX0_init_32 : decode cX0_init 32 = .ok (.goto (-17), 3) := by decide +kernel
theorem dX0_init_35 : decode cX0_init 35 = .ok (.return_, 1) := by decide +kernel
theorem dX0_highest_0 : decode cX0_highest 0 = .ok (.bipush 19, 2) := by decide +kernel
theorem dX0_highest_2 : decode cX0_highest 2 = .ok (.istore_n 2, 1) := by decide +kernel
theorem dX0_highest_3 : decode cX0_highest 3 = .ok (.iload_n 2, 1) := by decide +kernel
theorem dX0_highest_4 : decode cX0_highest 4 = .ok (.ifCond .lt 26, 3) := by decide +kernel
theorem dX0_highest_7 : decode cX0_highest 7 = .ok (.aload_n 0, 1) := by decide +kernel
theorem dX0_highest_8 : decode cX0_highest 8 = .ok (.getfield 9, 3) := by decide +kernel
theorem dX0_highest_11 : decode cX0_highest 11 = .ok (.iload_n 2, 1) := by decide +kernel
theorem dX0_highest_12 : decode cX0_highest 12 = .ok (.sipush 144, 3) := by decide +kernel
theorem dX0_highest_15 : decode cX0_highest 15 = .ok (.imul, 1) := by decide +kernel
theorem dX0_highest_16 : decode cX0_highest 16 = .ok (.iload_n 1, 1) := by decide +kernel
theorem dX0_highest_17 : decode cX0_highest 17 = .ok (.iadd, 1) := by decide +kernel
theorem dX0_highest_18 : decode cX0_highest 18 = .ok (.iaload, 1) := by decide +kernel
theorem dX0_highest_19 : decode cX0_highest 19 = .ok (.ifCond .eq 5, 3) := by decide +kernel
theorem dX0_highest_22 : decode cX0_highest 22 = .ok (.iload_n 2, 1) := by decide +kernel
theorem dX0_highest_23 : decode cX0_highest 23 = .ok (.ireturn, 1) := by decide +kernel
theorem dX0_highest_24 : decode cX0_highest 24 = .ok (.iinc 2 (-1), 3) := by decide +kernel
theorem dX0_highest_27 : decode cX0_highest 27 = .ok (.goto (-24), 3) := by decide +kernel
theorem dX0_highest_30 : decode cX0_highest 30 = .ok (.iconst (-1), 1) := by decide +kernel
theorem dX0_highest_31 : decode cX0_highest 31 = .ok (.ireturn, 1) := by decide +kernel
set_option maxRecDepth 20000 in
theorem ggX0_count_X11_hasKind : GoodIn wsX0_count wsX11_hasKind := goodIn_r _ [4] (by decide +kernel) (by decide +kernel)
set_option maxRecDepth 20000 in
theorem gX0_count_X11_hasKind_n15 : GoodIn wsX0_count (wsX11_hasKind) := ggX0_count_X11_hasKind
theorem dX0_count_0 : decode cX0_count 0 = .ok (.iconst 0, 1) := by decide +kernel
theorem dX0_count_1 : decode cX0_count 1 = .ok (.istore_n 2, 1) := by decide +kernel
theorem dX0_count_2 : decode cX0_count 2 = .ok (.iconst 0, 1) := by decide +kernel
theorem dX0_count_3 : decode cX0_count 3 = .ok (.istore_n 3, 1) := by decide +kernel
theorem dX0_count_4 : decode cX0_count 4 = .ok (.iload_n 3, 1) := by decide +kernel
theorem dX0_count_5 : decode cX0_count 5 = .ok (.sipush 2880, 3) := by decide +kernel
theorem dX0_count_8 : decode cX0_count 8 = .ok (.if_icmp .ge 25, 3) := by decide +kernel
theorem dX0_count_11 : decode cX0_count 11 = .ok (.iload_n 1, 1) := by decide +kernel
theorem dX0_count_12 : decode cX0_count 12 = .ok (.aload_n 0, 1) := by decide +kernel
theorem dX0_count_13 : decode cX0_count 13 = .ok (.getfield 9, 3) := by decide +kernel
theorem dX0_count_16 : decode cX0_count 16 = .ok (.iload_n 3, 1) := by decide +kernel
theorem dX0_count_17 : decode cX0_count 17 = .ok (.iaload, 1) := by decide +kernel
theorem dX0_count_18 : decode cX0_count 18 = .ok (.invokestatic 15, 3) := by decide +kernel
theorem dX0_count_21 : decode cX0_count 21 = .ok (.ifCond .eq 6, 3) := by decide +kernel
theorem dX0_count_24 : decode cX0_count 24 = .ok (.iinc 2 1, 3) := by decide +kernel
theorem dX0_count_27 : decode cX0_count 27 = .ok (.iinc 3 1, 3) := by decide +kernel
theorem dX0_count_30 : decode cX0_count 30 = .ok (.goto (-26), 3) := by decide +kernel
theorem dX0_count_33 : decode cX0_count 33 = .ok (.iload_n 2, 1) := by decide +kernel
theorem dX0_count_34 : decode cX0_count 34 = .ok (.ireturn, 1) := by decide +kernel
set_option maxRecDepth 20000 in
theorem ggX0_layOn_X0_highest : GoodIn wsX0_layOn wsX0_highest := goodIn_r _ [6, 1, 7] (by decide +kernel) (by decide +kernel)
set_option maxRecDepth 20000 in
theorem gX0_layOn_X0_highest : GoodIn wsX0_layOn (wsV RX0 19 RX0 yX0_highest wsX0_highest) := goodIn_app (goodIn_of _ (by decide +kernel)) ggX0_layOn_X0_highest
theorem dX0_layOn_0 : decode cX0_layOn 0 = .ok (.aload_n 0, 1) := by decide +kernel
theorem dX0_layOn_1 : decode cX0_layOn 1 = .ok (.iload_n 1, 1) := by decide +kernel
theorem dX0_layOn_2 : decode cX0_layOn 2 = .ok (.invokevirtual 19, 3) := by decide +kernel
theorem dX0_layOn_5 : decode cX0_layOn 5 = .ok (.iconst 1, 1) := by decide +kernel
theorem dX0_layOn_6 : decode cX0_layOn 6 = .ok (.iadd, 1) := by decide +kernel
theorem dX0_layOn_7 : decode cX0_layOn 7 = .ok (.istore 4, 2) := by decide +kernel
theorem dX0_layOn_9 : decode cX0_layOn 9 = .ok (.iload 4, 2) := by decide +kernel
theorem dX0_layOn_11 : decode cX0_layOn 11 = .ok (.istore 5, 2) := by decide +kernel
theorem dX0_layOn_13 : decode cX0_layOn 13 = .ok (.iload 5, 2) := by decide +kernel
theorem dX0_layOn_15 : decode cX0_layOn 15 = .ok (.iload 4, 2) := by decide +kernel
theorem dX0_layOn_17 : decode cX0_layOn 17 = .ok (.iload_n 3, 1) := by decide +kernel
theorem dX0_layOn_18 : decode cX0_layOn 18 = .ok (.iadd, 1) := by decide +kernel
theorem dX0_layOn_19 : decode cX0_layOn 19 = .ok (.if_icmp .ge 30, 3) := by decide +kernel
theorem dX0_layOn_22 : decode cX0_layOn 22 = .ok (.iload 5, 2) := by decide +kernel
theorem dX0_layOn_24 : decode cX0_layOn 24 = .ok (.bipush 20, 2) := by decide +kernel
theorem dX0_layOn_26 : decode cX0_layOn 26 = .ok (.if_icmp .ge 23, 3) := by decide +kernel
theorem dX0_layOn_29 : decode cX0_layOn 29 = .ok (.aload_n 0, 1) := by decide +kernel
theorem dX0_layOn_30 : decode cX0_layOn 30 = .ok (.getfield 9, 3) := by decide +kernel
theorem dX0_layOn_33 : decode cX0_layOn 33 = .ok (.iload 5, 2) := by decide +kernel
theorem dX0_layOn_35 : decode cX0_layOn 35 = .ok (.sipush 144, 3) := by decide +kernel
theorem dX0_layOn_38 : decode cX0_layOn 38 = .ok (.imul, 1) := by decide +kernel
theorem dX0_layOn_39 : decode cX0_layOn 39 = .ok (.iload_n 1, 1) := by decide +kernel
theorem dX0_layOn_40 : decode cX0_layOn 40 = .ok (.iadd, 1) := by decide +kernel
theorem dX0_layOn_41 : decode cX0_layOn 41 = .ok (.iload_n 2, 1) := by decide +kernel
theorem dX0_layOn_42 : decode cX0_layOn 42 = .ok (.iastore, 1) := by decide +kernel
theorem dX0_layOn_43 : decode cX0_layOn 43 = .ok (.iinc 5 1, 3) := by decide +kernel
theorem dX0_layOn_46 : decode cX0_layOn 46 = .ok (.goto (-33), 3) := by decide +kernel
theorem dX0_layOn_49 : decode cX0_layOn 49 = .ok (.return_, 1) := by decide +kernel
set_option maxRecDepth 20000 in
theorem ggX0_cutDown_X0_highest : GoodIn wsX0_cutDown wsX0_highest := goodIn_r _ [6, 1, 10] (by decide +kernel) (by decide +kernel)
set_option maxRecDepth 20000 in
theorem gX0_cutDown_X0_highest : GoodIn wsX0_cutDown (wsV RX0 19 RX0 yX0_highest wsX0_highest) := goodIn_app (goodIn_of _ (by decide +kernel)) ggX0_cutDown_X0_highest
set_option maxRecDepth 20000 in
theorem ggX0_cutDown_X11_hasKind : GoodIn wsX0_cutDown wsX11_hasKind := goodIn_r _ [9] (by decide +kernel) (by decide +kernel)
set_option maxRecDepth 20000 in
theorem gX0_cutDown_X11_hasKind_n15 : GoodIn wsX0_cutDown (wsX11_hasKind) := ggX0_cutDown_X11_hasKind
theorem dX0_cutDown_0 : decode cX0_cutDown 0 = .ok (.iconst 0, 1) := by decide +kernel
theorem dX0_cutDown_1 : decode cX0_cutDown 1 = .ok (.istore 4, 2) := by decide +kernel
theorem dX0_cutDown_3 : decode cX0_cutDown 3 = .ok (.iload 4, 2) := by decide +kernel
theorem dX0_cutDown_5 : decode cX0_cutDown 5 = .ok (.iload_n 3, 1) := by decide +kernel
theorem dX0_cutDown_6 : decode cX0_cutDown 6 = .ok (.if_icmp .ge 57, 3) := by decide +kernel
theorem dX0_cutDown_9 : decode cX0_cutDown 9 = .ok (.aload_n 0, 1) := by decide +kernel
theorem dX0_cutDown_10 : decode cX0_cutDown 10 = .ok (.iload_n 1, 1) := by decide +kernel
theorem dX0_cutDown_11 : decode cX0_cutDown 11 = .ok (.invokevirtual 19, 3) := by decide +kernel
theorem dX0_cutDown_14 : decode cX0_cutDown 14 = .ok (.istore 5, 2) := by decide +kernel
theorem dX0_cutDown_16 : decode cX0_cutDown 16 = .ok (.iload 5, 2) := by decide +kernel
theorem dX0_cutDown_18 : decode cX0_cutDown 18 = .ok (.iconst (-1), 1) := by decide +kernel
theorem dX0_cutDown_19 : decode cX0_cutDown 19 = .ok (.if_icmp .eq 23, 3) := by decide +kernel
theorem dX0_cutDown_22 : decode cX0_cutDown 22 = .ok (.iload_n 2, 1) := by decide +kernel
theorem dX0_cutDown_23 : decode cX0_cutDown 23 = .ok (.aload_n 0, 1) := by decide +kernel
theorem dX0_cutDown_24 : decode cX0_cutDown 24 = .ok (.getfield 9, 3) := by decide +kernel
theorem dX0_cutDown_27 : decode cX0_cutDown 27 = .ok (.iload 5, 2) := by decide +kernel
theorem dX0_cutDown_29 : decode cX0_cutDown 29 = .ok (.sipush 144, 3) := by decide +kernel
theorem dX0_cutDown_32 : decode cX0_cutDown 32 = .ok (.imul, 1) := by decide +kernel
theorem dX0_cutDown_33 : decode cX0_cutDown 33 = .ok (.iload_n 1, 1) := by decide +kernel
theorem dX0_cutDown_34 : decode cX0_cutDown 34 = .ok (.iadd, 1) := by decide +kernel
theorem dX0_cutDown_35 : decode cX0_cutDown 35 = .ok (.iaload, 1) := by decide +kernel
theorem dX0_cutDown_36 : decode cX0_cutDown 36 = .ok (.invokestatic 15, 3) := by decide +kernel
theorem dX0_cutDown_39 : decode cX0_cutDown 39 = .ok (.ifCond .ne 4, 3) := by decide +kernel
theorem dX0_cutDown_42 : decode cX0_cutDown 42 = .ok (.return_, 1) := by decide +kernel
theorem dX0_cutDown_43 : decode cX0_cutDown 43 = .ok (.aload_n 0, 1) := by decide +kernel
theorem dX0_cutDown_44 : decode cX0_cutDown 44 = .ok (.getfield 9, 3) := by decide +kernel
theorem dX0_cutDown_47 : decode cX0_cutDown 47 = .ok (.iload 5, 2) := by decide +kernel
theorem dX0_cutDown_49 : decode cX0_cutDown 49 = .ok (.sipush 144, 3) := by decide +kernel
theorem dX0_cutDown_52 : decode cX0_cutDown 52 = .ok (.imul, 1) := by decide +kernel
theorem dX0_cutDown_53 : decode cX0_cutDown 53 = .ok (.iload_n 1, 1) := by decide +kernel
theorem dX0_cutDown_54 : decode cX0_cutDown 54 = .ok (.iadd, 1) := by decide +kernel
theorem dX0_cutDown_55 : decode cX0_cutDown 55 = .ok (.iconst 0, 1) := by decide +kernel
theorem dX0_cutDown_56 : decode cX0_cutDown 56 = .ok (.iastore, 1) := by decide +kernel
theorem dX0_cutDown_57 : decode cX0_cutDown 57 = .ok (.iinc 4 1, 3) := by decide +kernel
theorem dX0_cutDown_60 : decode cX0_cutDown 60 = .ok (.goto (-57), 3) := by decide +kernel
theorem dX0_cutDown_63 : decode cX0_cutDown 63 = .ok (.return_, 1) := by decide +kernel
set_option maxRecDepth 20000 in
theorem ggX0_dopeDown_X0_highest : GoodIn wsX0_dopeDown wsX0_highest := goodIn_r _ [6, 1, 18] (by decide +kernel) (by decide +kernel)
set_option maxRecDepth 20000 in
theorem gX0_dopeDown_X0_highest : GoodIn wsX0_dopeDown (wsV RX0 19 RX0 yX0_highest wsX0_highest) := goodIn_app (goodIn_of _ (by decide +kernel)) ggX0_dopeDown_X0_highest
set_option maxRecDepth 20000 in
theorem ggX0_dopeDown_X11_hasKind : GoodIn wsX0_dopeDown wsX11_hasKind := goodIn_r _ [9] (by decide +kernel) (by decide +kernel)
set_option maxRecDepth 20000 in
theorem gX0_dopeDown_X11_hasKind_n15 : GoodIn wsX0_dopeDown (wsX11_hasKind) := ggX0_dopeDown_X11_hasKind
theorem dX0_dopeDown_0 : decode cX0_dopeDown 0 = .ok (.aload_n 2, 1) := by decide +kernel
theorem dX0_dopeDown_1 : decode cX0_dopeDown 1 = .ok (.getfield 23, 3) := by decide +kernel
theorem dX0_dopeDown_4 : decode cX0_dopeDown 4 = .ok (.iconst 1, 1) := by decide +kernel
theorem dX0_dopeDown_5 : decode cX0_dopeDown 5 = .ok (.aload_n 2, 1) := by decide +kernel
theorem dX0_dopeDown_6 : decode cX0_dopeDown 6 = .ok (.getfield 29, 3) := by decide +kernel
theorem dX0_dopeDown_9 : decode cX0_dopeDown 9 = .ok (.ishl, 1) := by decide +kernel
theorem dX0_dopeDown_10 : decode cX0_dopeDown 10 = .ok (.ior, 1) := by decide +kernel
theorem dX0_dopeDown_11 : decode cX0_dopeDown 11 = .ok (.istore_n 3, 1) := by decide +kernel
theorem dX0_dopeDown_12 : decode cX0_dopeDown 12 = .ok (.aload_n 0, 1) := by decide +kernel
theorem dX0_dopeDown_13 : decode cX0_dopeDown 13 = .ok (.iload_n 1, 1) := by decide +kernel
theorem dX0_dopeDown_14 : decode cX0_dopeDown 14 = .ok (.invokevirtual 19, 3) := by decide +kernel
theorem dX0_dopeDown_17 : decode cX0_dopeDown 17 = .ok (.istore 4, 2) := by decide +kernel
theorem dX0_dopeDown_19 : decode cX0_dopeDown 19 = .ok (.iload 4, 2) := by decide +kernel
theorem dX0_dopeDown_21 : decode cX0_dopeDown 21 = .ok (.istore 5, 2) := by decide +kernel
theorem dX0_dopeDown_23 : decode cX0_dopeDown 23 = .ok (.iload 5, 2) := by decide +kernel
theorem dX0_dopeDown_25 : decode cX0_dopeDown 25 = .ok (.ifCond .lt 71, 3) := by decide +kernel
theorem dX0_dopeDown_28 : decode cX0_dopeDown 28 = .ok (.iload 5, 2) := by decide +kernel
theorem dX0_dopeDown_30 : decode cX0_dopeDown 30 = .ok (.iload 4, 2) := by decide +kernel
theorem dX0_dopeDown_32 : decode cX0_dopeDown 32 = .ok (.aload_n 2, 1) := by decide +kernel
theorem dX0_dopeDown_33 : decode cX0_dopeDown 33 = .ok (.getfield 32, 3) := by decide +kernel
theorem dX0_dopeDown_36 : decode cX0_dopeDown 36 = .ok (.isub, 1) := by decide +kernel
theorem dX0_dopeDown_37 : decode cX0_dopeDown 37 = .ok (.if_icmp .le 59, 3) := by decide +kernel
theorem dX0_dopeDown_40 : decode cX0_dopeDown 40 = .ok (.iload 5, 2) := by decide +kernel
theorem dX0_dopeDown_42 : decode cX0_dopeDown 42 = .ok (.sipush 144, 3) := by decide +kernel
theorem dX0_dopeDown_45 : decode cX0_dopeDown 45 = .ok (.imul, 1) := by decide +kernel
theorem dX0_dopeDown_46 : decode cX0_dopeDown 46 = .ok (.iload_n 1, 1) := by decide +kernel
theorem dX0_dopeDown_47 : decode cX0_dopeDown 47 = .ok (.iadd, 1) := by decide +kernel
theorem dX0_dopeDown_48 : decode cX0_dopeDown 48 = .ok (.istore 6, 2) := by decide +kernel
theorem dX0_dopeDown_50 : decode cX0_dopeDown 50 = .ok (.iload_n 3, 1) := by decide +kernel
theorem dX0_dopeDown_51 : decode cX0_dopeDown 51 = .ok (.aload_n 0, 1) := by decide +kernel
theorem dX0_dopeDown_52 : decode cX0_dopeDown 52 = .ok (.getfield 9, 3) := by decide +kernel
theorem dX0_dopeDown_55 : decode cX0_dopeDown 55 = .ok (.iload 6, 2) := by decide +kernel
theorem dX0_dopeDown_57 : decode cX0_dopeDown 57 = .ok (.iaload, 1) := by decide +kernel
theorem dX0_dopeDown_58 : decode cX0_dopeDown 58 = .ok (.invokestatic 15, 3) := by decide +kernel
theorem dX0_dopeDown_61 : decode cX0_dopeDown 61 = .ok (.ifCond .ne 4, 3) := by decide +kernel
theorem dX0_dopeDown_64 : decode cX0_dopeDown 64 = .ok (.return_, 1) := by decide +kernel
theorem dX0_dopeDown_65 : decode cX0_dopeDown 65 = .ok (.aload_n 0, 1) := by decide +kernel
theorem dX0_dopeDown_66 : decode cX0_dopeDown 66 = .ok (.getfield 9, 3) := by decide +kernel
theorem dX0_dopeDown_69 : decode cX0_dopeDown 69 = .ok (.iload 6, 2) := by decide +kernel
theorem dX0_dopeDown_71 : decode cX0_dopeDown 71 = .ok (.iaload, 1) := by decide +kernel
theorem dX0_dopeDown_72 : decode cX0_dopeDown 72 = .ok (.aload_n 2, 1) := by decide +kernel
theorem dX0_dopeDown_73 : decode cX0_dopeDown 73 = .ok (.getfield 29, 3) := by decide +kernel
theorem dX0_dopeDown_76 : decode cX0_dopeDown 76 = .ok (.if_icmp .ne 14, 3) := by decide +kernel
theorem dX0_dopeDown_79 : decode cX0_dopeDown 79 = .ok (.aload_n 0, 1) := by decide +kernel
theorem dX0_dopeDown_80 : decode cX0_dopeDown 80 = .ok (.getfield 9, 3) := by decide +kernel
theorem dX0_dopeDown_83 : decode cX0_dopeDown 83 = .ok (.iload 6, 2) := by decide +kernel
theorem dX0_dopeDown_85 : decode cX0_dopeDown 85 = .ok (.aload_n 2, 1) := by decide +kernel
theorem dX0_dopeDown_86 : decode cX0_dopeDown 86 = .ok (.getfield 35, 3) := by decide +kernel
theorem dX0_dopeDown_89 : decode cX0_dopeDown 89 = .ok (.iastore, 1) := by decide +kernel
theorem dX0_dopeDown_90 : decode cX0_dopeDown 90 = .ok (.iinc 5 (-1), 3) := by decide +kernel
theorem dX0_dopeDown_93 : decode cX0_dopeDown 93 = .ok (.goto (-70), 3) := by decide +kernel
theorem dX0_dopeDown_96 : decode cX0_dopeDown 96 = .ok (.return_, 1) := by decide +kernel
theorem dX0_endOfSpan_0 : decode cX0_endOfSpan 0 = .ok (.iload_n 2, 1) := by decide +kernel
theorem dX0_endOfSpan_1 : decode cX0_endOfSpan 1 = .ok (.iconst 1, 1) := by decide +kernel
theorem dX0_endOfSpan_2 : decode cX0_endOfSpan 2 = .ok (.iadd, 1) := by decide +kernel
theorem dX0_endOfSpan_3 : decode cX0_endOfSpan 3 = .ok (.istore_n 3, 1) := by decide +kernel
theorem dX0_endOfSpan_4 : decode cX0_endOfSpan 4 = .ok (.iload_n 3, 1) := by decide +kernel
theorem dX0_endOfSpan_5 : decode cX0_endOfSpan 5 = .ok (.bipush 20, 2) := by decide +kernel
theorem dX0_endOfSpan_7 : decode cX0_endOfSpan 7 = .ok (.if_icmp .ge 36, 3) := by decide +kernel
theorem dX0_endOfSpan_10 : decode cX0_endOfSpan 10 = .ok (.aload_n 0, 1) := by decide +kernel
theorem dX0_endOfSpan_11 : decode cX0_endOfSpan 11 = .ok (.getfield 9, 3) := by decide +kernel
theorem dX0_endOfSpan_14 : decode cX0_endOfSpan 14 = .ok (.iload_n 3, 1) := by decide +kernel
theorem dX0_endOfSpan_15 : decode cX0_endOfSpan 15 = .ok (.sipush 144, 3) := by decide +kernel
theorem dX0_endOfSpan_18 : decode cX0_endOfSpan 18 = .ok (.imul, 1) := by decide +kernel
theorem dX0_endOfSpan_19 : decode cX0_endOfSpan 19 = .ok (.iload_n 1, 1) := by decide +kernel
theorem dX0_endOfSpan_20 : decode cX0_endOfSpan 20 = .ok (.iadd, 1) := by decide +kernel
theorem dX0_endOfSpan_21 : decode cX0_endOfSpan 21 = .ok (.iaload, 1) := by decide +kernel
theorem dX0_endOfSpan_22 : decode cX0_endOfSpan 22 = .ok (.aload_n 0, 1) := by decide +kernel
theorem dX0_endOfSpan_23 : decode cX0_endOfSpan 23 = .ok (.getfield 9, 3) := by decide +kernel
theorem dX0_endOfSpan_26 : decode cX0_endOfSpan 26 = .ok (.iload_n 2, 1) := by decide +kernel
theorem dX0_endOfSpan_27 : decode cX0_endOfSpan 27 = .ok (.sipush 144, 3) := by decide +kernel
theorem dX0_endOfSpan_30 : decode cX0_endOfSpan 30 = .ok (.imul, 1) := by decide +kernel
theorem dX0_endOfSpan_31 : decode cX0_endOfSpan 31 = .ok (.iload_n 1, 1) := by decide +kernel
theorem dX0_endOfSpan_32 : decode cX0_endOfSpan 32 = .ok (.iadd, 1) := by decide +kernel
theorem dX0_endOfSpan_33 : decode cX0_endOfSpan 33 = .ok (.iaload, 1) := by decide +kernel
theorem dX0_endOfSpan_34 : decode cX0_endOfSpan 34 = .ok (.if_icmp .ne 9, 3) := by decide +kernel
theorem dX0_endOfSpan_37 : decode cX0_endOfSpan 37 = .ok (.iinc 3 1, 3) := by decide +kernel
theorem dX0_endOfSpan_40 : decode cX0_endOfSpan 40 = .ok (.goto (-36), 3) := by decide +kernel
theorem dX0_endOfSpan_43 : decode cX0_endOfSpan 43 = .ok (.iload_n 3, 1) := by decide +kernel
theorem dX0_endOfSpan_44 : decode cX0_endOfSpan 44 = .ok (.ireturn, 1) := by decide +kernel
theorem dX0_beginsSpan_0 : decode cX0_beginsSpan 0 = .ok (.iload_n 2, 1) := by decide +kernel
theorem dX0_beginsSpan_1 : decode cX0_beginsSpan 1 = .ok (.ifCond .eq 32, 3) := by decide +kernel
theorem dX0_beginsSpan_4 : decode cX0_beginsSpan 4 = .ok (.aload_n 0, 1) := by decide +kernel
theorem dX0_beginsSpan_5 : decode cX0_beginsSpan 5 = .ok (.getfield 9, 3) := by decide +kernel
theorem dX0_beginsSpan_8 : decode cX0_beginsSpan 8 = .ok (.iload_n 2, 1) := by decide +kernel
theorem dX0_beginsSpan_9 : decode cX0_beginsSpan 9 = .ok (.sipush 144, 3) := by decide +kernel
theorem dX0_beginsSpan_12 : decode cX0_beginsSpan 12 = .ok (.imul, 1) := by decide +kernel
theorem dX0_beginsSpan_13 : decode cX0_beginsSpan 13 = .ok (.iload_n 1, 1) := by decide +kernel
theorem dX0_beginsSpan_14 : decode cX0_beginsSpan 14 = .ok (.iadd, 1) := by decide +kernel
theorem dX0_beginsSpan_15 : decode cX0_beginsSpan 15 = .ok (.iaload, 1) := by decide +kernel
theorem dX0_beginsSpan_16 : decode cX0_beginsSpan 16 = .ok (.aload_n 0, 1) := by decide +kernel
theorem dX0_beginsSpan_17 : decode cX0_beginsSpan 17 = .ok (.getfield 9, 3) := by decide +kernel
theorem dX0_beginsSpan_20 : decode cX0_beginsSpan 20 = .ok (.iload_n 2, 1) := by decide +kernel
theorem dX0_beginsSpan_21 : decode cX0_beginsSpan 21 = .ok (.iconst 1, 1) := by decide +kernel
theorem dX0_beginsSpan_22 : decode cX0_beginsSpan 22 = .ok (.isub, 1) := by decide +kernel
theorem dX0_beginsSpan_23 : decode cX0_beginsSpan 23 = .ok (.sipush 144, 3) := by decide +kernel
theorem dX0_beginsSpan_26 : decode cX0_beginsSpan 26 = .ok (.imul, 1) := by decide +kernel
theorem dX0_beginsSpan_27 : decode cX0_beginsSpan 27 = .ok (.iload_n 1, 1) := by decide +kernel
theorem dX0_beginsSpan_28 : decode cX0_beginsSpan 28 = .ok (.iadd, 1) := by decide +kernel
theorem dX0_beginsSpan_29 : decode cX0_beginsSpan 29 = .ok (.iaload, 1) := by decide +kernel
theorem dX0_beginsSpan_30 : decode cX0_beginsSpan 30 = .ok (.if_icmp .eq 7, 3) := by decide +kernel
theorem dX0_beginsSpan_33 : decode cX0_beginsSpan 33 = .ok (.iconst 1, 1) := by decide +kernel
theorem dX0_beginsSpan_34 : decode cX0_beginsSpan 34 = .ok (.goto 4, 3) := by decide +kernel
theorem dX0_beginsSpan_37 : decode cX0_beginsSpan 37 = .ok (.iconst 0, 1) := by decide +kernel
theorem dX0_beginsSpan_38 : decode cX0_beginsSpan 38 = .ok (.ireturn, 1) := by decide +kernel
set_option maxRecDepth 20000 in
theorem ggX0_countSpans_X0_highest : GoodIn wsX0_countSpans wsX0_highest := goodIn_r _ [5, 6, 11] (by decide +kernel) (by decide +kernel)
set_option maxRecDepth 20000 in
theorem gX0_countSpans_X0_highest : GoodIn wsX0_countSpans (wsV RX0 19 RX0 yX0_highest wsX0_highest) := goodIn_app (goodIn_of _ (by decide +kernel)) ggX0_countSpans_X0_highest
set_option maxRecDepth 20000 in
theorem ggX0_countSpans_X0_beginsSpan : GoodIn wsX0_countSpans wsX0_beginsSpan := goodIn_r _ [10, 6, 11] (by decide +kernel) (by decide +kernel)
set_option maxRecDepth 20000 in
theorem gX0_countSpans_X0_beginsSpan : GoodIn wsX0_countSpans (wsV RX0 38 RX0 yX0_beginsSpan wsX0_beginsSpan) := goodIn_app (goodIn_of _ (by decide +kernel)) ggX0_countSpans_X0_beginsSpan
theorem dX0_countSpans_0 : decode cX0_countSpans 0 = .ok (.aload_n 0, 1) := by decide +kernel
theorem dX0_countSpans_1 : decode cX0_countSpans 1 = .ok (.iload_n 1, 1) := by decide +kernel
theorem dX0_countSpans_2 : decode cX0_countSpans 2 = .ok (.invokevirtual 19, 3) := by decide +kernel
theorem dX0_countSpans_5 : decode cX0_countSpans 5 = .ok (.istore_n 2, 1) := by decide +kernel
theorem dX0_countSpans_6 : decode cX0_countSpans 6 = .ok (.iconst 0, 1) := by decide +kernel
theorem dX0_countSpans_7 : decode cX0_countSpans 7 = .ok (.istore_n 3, 1) := by decide +kernel
theorem dX0_countSpans_8 : decode cX0_countSpans 8 = .ok (.iconst 0, 1) := by decide +kernel
theorem dX0_countSpans_9 : decode cX0_countSpans 9 = .ok (.istore 4, 2) := by decide +kernel
theorem dX0_countSpans_11 : decode cX0_countSpans 11 = .ok (.iload 4, 2) := by decide +kernel
theorem dX0_countSpans_13 : decode cX0_countSpans 13 = .ok (.iload_n 2, 1) := by decide +kernel
theorem dX0_countSpans_14 : decode cX0_countSpans 14 = .ok (.if_icmp .gt 22, 3) := by decide +kernel
theorem dX0_countSpans_17 : decode cX0_countSpans 17 = .ok (.aload_n 0, 1) := by decide +kernel
theorem dX0_countSpans_18 : decode cX0_countSpans 18 = .ok (.iload_n 1, 1) := by decide +kernel
theorem dX0_countSpans_19 : decode cX0_countSpans 19 = .ok (.iload 4, 2) := by decide +kernel
theorem dX0_countSpans_21 : decode cX0_countSpans 21 = .ok (.invokevirtual 38, 3) := by decide +kernel
theorem dX0_countSpans_24 : decode cX0_countSpans 24 = .ok (.ifCond .eq 6, 3) := by decide +kernel
theorem dX0_countSpans_27 : decode cX0_countSpans 27 = .ok (.iinc 3 1, 3) := by decide +kernel
theorem dX0_countSpans_30 : decode cX0_countSpans 30 = .ok (.iinc 4 1, 3) := by decide +kernel
theorem dX0_countSpans_33 : decode cX0_countSpans 33 = .ok (.goto (-22), 3) := by decide +kernel
theorem dX0_countSpans_36 : decode cX0_countSpans 36 = .ok (.iload_n 3, 1) := by decide +kernel
theorem dX0_countSpans_37 : decode cX0_countSpans 37 = .ok (.ireturn, 1) := by decide +kernel
set_option maxRecDepth 20000 in
theorem ggX0_lowOfSpan_X0_highest : GoodIn wsX0_lowOfSpan wsX0_highest := goodIn_r _ [5, 6, 11] (by decide +kernel) (by decide +kernel)
set_option maxRecDepth 20000 in
theorem gX0_lowOfSpan_X0_highest : GoodIn wsX0_lowOfSpan (wsV RX0 19 RX0 yX0_highest wsX0_highest) := goodIn_app (goodIn_of _ (by decide +kernel)) ggX0_lowOfSpan_X0_highest
set_option maxRecDepth 20000 in
theorem ggX0_lowOfSpan_X0_beginsSpan : GoodIn wsX0_lowOfSpan wsX0_beginsSpan := goodIn_r _ [10, 6, 11] (by decide +kernel) (by decide +kernel)
set_option maxRecDepth 20000 in
theorem gX0_lowOfSpan_X0_beginsSpan : GoodIn wsX0_lowOfSpan (wsV RX0 38 RX0 yX0_beginsSpan wsX0_beginsSpan) := goodIn_app (goodIn_of _ (by decide +kernel)) ggX0_lowOfSpan_X0_beginsSpan
theorem dX0_lowOfSpan_0 : decode cX0_lowOfSpan 0 = .ok (.aload_n 0, 1) := by decide +kernel
theorem dX0_lowOfSpan_1 : decode cX0_lowOfSpan 1 = .ok (.iload_n 1, 1) := by decide +kernel
theorem dX0_lowOfSpan_2 : decode cX0_lowOfSpan 2 = .ok (.invokevirtual 19, 3) := by decide +kernel
theorem dX0_lowOfSpan_5 : decode cX0_lowOfSpan 5 = .ok (.istore_n 3, 1) := by decide +kernel
theorem dX0_lowOfSpan_6 : decode cX0_lowOfSpan 6 = .ok (.iconst 0, 1) := by decide +kernel
theorem dX0_lowOfSpan_7 : decode cX0_lowOfSpan 7 = .ok (.istore 4, 2) := by decide +kernel
theorem dX0_lowOfSpan_9 : decode cX0_lowOfSpan 9 = .ok (.iconst 0, 1) := by decide +kernel
theorem dX0_lowOfSpan_10 : decode cX0_lowOfSpan 10 = .ok (.istore 5, 2) := by decide +kernel
theorem dX0_lowOfSpan_12 : decode cX0_lowOfSpan 12 = .ok (.iload 5, 2) := by decide +kernel
theorem dX0_lowOfSpan_14 : decode cX0_lowOfSpan 14 = .ok (.iload_n 3, 1) := by decide +kernel
theorem dX0_lowOfSpan_15 : decode cX0_lowOfSpan 15 = .ok (.if_icmp .gt 31, 3) := by decide +kernel
theorem dX0_lowOfSpan_18 : decode cX0_lowOfSpan 18 = .ok (.aload_n 0, 1) := by decide +kernel
theorem dX0_lowOfSpan_19 : decode cX0_lowOfSpan 19 = .ok (.iload_n 1, 1) := by decide +kernel
theorem dX0_lowOfSpan_20 : decode cX0_lowOfSpan 20 = .ok (.iload 5, 2) := by decide +kernel
theorem dX0_lowOfSpan_22 : decode cX0_lowOfSpan 22 = .ok (.invokevirtual 38, 3) := by decide +kernel
theorem dX0_lowOfSpan_25 : decode cX0_lowOfSpan 25 = .ok (.ifCond .eq 15, 3) := by decide +kernel
theorem dX0_lowOfSpan_28 : decode cX0_lowOfSpan 28 = .ok (.iload 4, 2) := by decide +kernel
theorem dX0_lowOfSpan_30 : decode cX0_lowOfSpan 30 = .ok (.iload_n 2, 1) := by decide +kernel
theorem dX0_lowOfSpan_31 : decode cX0_lowOfSpan 31 = .ok (.if_icmp .ne 6, 3) := by decide +kernel
theorem dX0_lowOfSpan_34 : decode cX0_lowOfSpan 34 = .ok (.iload 5, 2) := by decide +kernel
theorem dX0_lowOfSpan_36 : decode cX0_lowOfSpan 36 = .ok (.ireturn, 1) := by decide +kernel
theorem dX0_lowOfSpan_37 : decode cX0_lowOfSpan 37 = .ok (.iinc 4 1, 3) := by decide +kernel
theorem dX0_lowOfSpan_40 : decode cX0_lowOfSpan 40 = .ok (.iinc 5 1, 3) := by decide +kernel
theorem dX0_lowOfSpan_43 : decode cX0_lowOfSpan 43 = .ok (.goto (-31), 3) := by decide +kernel
theorem dX0_lowOfSpan_46 : decode cX0_lowOfSpan 46 = .ok (.iconst (-1), 1) := by decide +kernel
theorem dX0_lowOfSpan_47 : decode cX0_lowOfSpan 47 = .ok (.ireturn, 1) := by decide +kernel
set_option maxRecDepth 20000 in
theorem ggX0_hasThinSpan_X0_beginsSpan : GoodIn wsX0_hasThinSpan wsX0_beginsSpan := goodIn_r _ [6, 1, 11] (by decide +kernel) (by decide +kernel)
set_option maxRecDepth 20000 in
theorem gX0_hasThinSpan_X0_beginsSpan : GoodIn wsX0_hasThinSpan (wsV RX0 38 RX0 yX0_beginsSpan wsX0_beginsSpan) := goodIn_app (goodIn_of _ (by decide +kernel)) ggX0_hasThinSpan_X0_beginsSpan
set_option maxRecDepth 20000 in
theorem ggX0_hasThinSpan_X0_endOfSpan : GoodIn wsX0_hasThinSpan wsX0_endOfSpan := goodIn_r _ [10, 1, 11] (by decide +kernel) (by decide +kernel)
set_option maxRecDepth 20000 in
theorem gX0_hasThinSpan_X0_endOfSpan : GoodIn wsX0_hasThinSpan (wsV RX0 41 RX0 yX0_endOfSpan wsX0_endOfSpan) := goodIn_app (goodIn_of _ (by decide +kernel)) ggX0_hasThinSpan_X0_endOfSpan
theorem dX0_hasThinSpan_0 : decode cX0_hasThinSpan 0 = .ok (.iconst 0, 1) := by decide +kernel
theorem dX0_hasThinSpan_1 : decode cX0_hasThinSpan 1 = .ok (.istore 4, 2) := by decide +kernel
theorem dX0_hasThinSpan_3 : decode cX0_hasThinSpan 3 = .ok (.iload 4, 2) := by decide +kernel
theorem dX0_hasThinSpan_5 : decode cX0_hasThinSpan 5 = .ok (.bipush 20, 2) := by decide +kernel
theorem dX0_hasThinSpan_7 : decode cX0_hasThinSpan 7 = .ok (.if_icmp .ge 64, 3) := by decide +kernel
theorem dX0_hasThinSpan_10 : decode cX0_hasThinSpan 10 = .ok (.aload_n 0, 1) := by decide +kernel
theorem dX0_hasThinSpan_11 : decode cX0_hasThinSpan 11 = .ok (.getfield 9, 3) := by decide +kernel
theorem dX0_hasThinSpan_14 : decode cX0_hasThinSpan 14 = .ok (.iload 4, 2) := by decide +kernel
theorem dX0_hasThinSpan_16 : decode cX0_hasThinSpan 16 = .ok (.sipush 144, 3) := by decide +kernel
theorem dX0_hasThinSpan_19 : decode cX0_hasThinSpan 19 = .ok (.imul, 1) := by decide +kernel
theorem dX0_hasThinSpan_20 : decode cX0_hasThinSpan 20 = .ok (.iload_n 1, 1) := by decide +kernel
theorem dX0_hasThinSpan_21 : decode cX0_hasThinSpan 21 = .ok (.iadd, 1) := by decide +kernel
theorem dX0_hasThinSpan_22 : decode cX0_hasThinSpan 22 = .ok (.iaload, 1) := by decide +kernel
theorem dX0_hasThinSpan_23 : decode cX0_hasThinSpan 23 = .ok (.iload_n 2, 1) := by decide +kernel
theorem dX0_hasThinSpan_24 : decode cX0_hasThinSpan 24 = .ok (.if_icmp .ne 17, 3) := by decide +kernel
theorem dX0_hasThinSpan_27 : decode cX0_hasThinSpan 27 = .ok (.aload_n 0, 1) := by decide +kernel
theorem dX0_hasThinSpan_28 : decode cX0_hasThinSpan 28 = .ok (.iload_n 1, 1) := by decide +kernel
theorem dX0_hasThinSpan_29 : decode cX0_hasThinSpan 29 = .ok (.iload 4, 2) := by decide +kernel
theorem dX0_hasThinSpan_31 : decode cX0_hasThinSpan 31 = .ok (.invokevirtual 38, 3) := by decide +kernel
theorem dX0_hasThinSpan_34 : decode cX0_hasThinSpan 34 = .ok (.ifCond .eq 7, 3) := by decide +kernel
theorem dX0_hasThinSpan_37 : decode cX0_hasThinSpan 37 = .ok (.iconst 1, 1) := by decide +kernel
theorem dX0_hasThinSpan_38 : decode cX0_hasThinSpan 38 = .ok (.goto 4, 3) := by decide +kernel
theorem dX0_hasThinSpan_41 : decode cX0_hasThinSpan 41 = .ok (.iconst 0, 1) := by decide +kernel
theorem dX0_hasThinSpan_42 : decode cX0_hasThinSpan 42 = .ok (.istore 5, 2) := by decide +kernel
theorem dX0_hasThinSpan_44 : decode cX0_hasThinSpan 44 = .ok (.iload 5, 2) := by decide +kernel
theorem dX0_hasThinSpan_46 : decode cX0_hasThinSpan 46 = .ok (.ifCond .eq 19, 3) := by decide +kernel
theorem dX0_hasThinSpan_49 : decode cX0_hasThinSpan 49 = .ok (.aload_n 0, 1) := by decide +kernel
theorem dX0_hasThinSpan_50 : decode cX0_hasThinSpan 50 = .ok (.iload_n 1, 1) := by decide +kernel
theorem dX0_hasThinSpan_51 : decode cX0_hasThinSpan 51 = .ok (.iload 4, 2) := by decide +kernel
theorem dX0_hasThinSpan_53 : decode cX0_hasThinSpan 53 = .ok (.invokevirtual 41, 3) := by decide +kernel
theorem dX0_hasThinSpan_56 : decode cX0_hasThinSpan 56 = .ok (.iload 4, 2) := by decide +kernel
theorem dX0_hasThinSpan_58 : decode cX0_hasThinSpan 58 = .ok (.isub, 1) := by decide +kernel
theorem dX0_hasThinSpan_59 : decode cX0_hasThinSpan 59 = .ok (.iload_n 3, 1) := by decide +kernel
theorem dX0_hasThinSpan_60 : decode cX0_hasThinSpan 60 = .ok (.if_icmp .ge 5, 3) := by decide +kernel
theorem dX0_hasThinSpan_63 : decode cX0_hasThinSpan 63 = .ok (.iconst 1, 1) := by decide +kernel
theorem dX0_hasThinSpan_64 : decode cX0_hasThinSpan 64 = .ok (.ireturn, 1) := by decide +kernel
theorem dX0_hasThinSpan_65 : decode cX0_hasThinSpan 65 = .ok (.iinc 4 1, 3) := by decide +kernel
theorem dX0_hasThinSpan_68 : decode cX0_hasThinSpan 68 = .ok (.goto (-65), 3) := by decide +kernel
theorem dX0_hasThinSpan_71 : decode cX0_hasThinSpan 71 = .ok (.iconst 0, 1) := by decide +kernel
theorem dX0_hasThinSpan_72 : decode cX0_hasThinSpan 72 = .ok (.ireturn, 1) := by decide +kernel
theorem dX1_init_0 : decode cX1_init 0 = .ok (.aload_n 0, 1) := by decide +kernel
theorem dX1_init_1 : decode cX1_init 1 = .ok (.invokespecial 3, 3) := by decide +kernel
theorem dX1_init_4 : decode cX1_init 4 = .ok (.aload_n 0, 1) := by decide +kernel
theorem dX1_init_5 : decode cX1_init 5 = .ok (.iconst 4, 1) := by decide +kernel
theorem dX1_init_6 : decode cX1_init 6 = .ok (.newarray .int, 2) := by decide +kernel
theorem dX1_init_8 : decode cX1_init 8 = .ok (.putfield 9, 3) := by decide +kernel
theorem dX1_init_11 : decode cX1_init 11 = .ok (.aload_n 0, 1) := by decide +kernel
theorem dX1_init_12 : decode cX1_init 12 = .ok (.iconst 0, 1) := by decide +kernel
theorem dX1_init_13 : decode cX1_init 13 = .ok (.putfield 15, 3) := by decide +kernel
theorem dX1_init_16 : decode cX1_init 16 = .ok (.aload_n 0, 1) := by decide +kernel
theorem dX1_init_17 : decode cX1_init 17 = .ok (.sipush 144, 3) := by decide +kernel
theorem dX1_init_20 : decode cX1_init 20 = .ok (.newarray .boolean, 2) := by decide +kernel
theorem dX1_init_22 : decode cX1_init 22 = .ok (.putfield 19, 3) := by decide +kernel
theorem dX1_init_25 : decode cX1_init 25 = .ok (.aload_n 0, 1) := by decide +kernel
theorem dX1_init_26 : decode cX1_init 26 = .ok (.sipush 144, 3) := by decide +kernel
theorem dX1_init_29 : decode cX1_init 29 = .ok (.newarray .int, 2) := by decide +kernel
theorem dX1_init_31 : decode cX1_init 31 = .ok (.putfield 23, 3) := by decide +kernel
theorem dX1_init_34 : decode cX1_init 34 = .ok (.aload_n 0, 1) := by decide +kernel
theorem dX1_init_35 : decode cX1_init 35 = .ok (.iconst 0, 1) := by decide +kernel
theorem dX1_init_36 : decode cX1_init 36 = .ok (.putfield 26, 3) := by decide +kernel
theorem dX1_init_39 : decode cX1_init 39 = .ok (.aload_n 0, 1) := by decide +kernel
theorem dX1_init_40 : decode cX1_init 40 = .ok (.iconst 0, 1) := by decide +kernel
theorem dX1_init_41 : decode cX1_init 41 = .ok (.putfield 29, 3) := by decide +kernel
theorem dX1_init_44 : decode cX1_init 44 = .ok (.aload_n 0, 1) := by decide +kernel
theorem dX1_init_45 : decode cX1_init 45 = .ok (.iconst (-1), 1) := by decide +kernel
theorem dX1_init_46 : decode cX1_init 46 = .ok (.putfield 32, 3) := by decide +kernel
theorem dX1_init_49 : decode cX1_init 49 = .ok (.aload_n 0, 1) := by decide +kernel
theorem dX1_init_50 : decode cX1_init 50 = .ok (.iconst 0, 1) := by decide +kernel
theorem dX1_init_51 : decode cX1_init 51 = .ok (.putfield 35, 3) := by decide +kernel
theorem dX1_init_54 : decode cX1_init 54 = .ok (.aload_n 0, 1) := by decide +kernel
theorem dX1_init_55 : decode cX1_init 55 = .ok (.aload_n 1, 1) := by decide +kernel
theorem dX1_init_56 : decode cX1_init 56 = .ok (.putfield 38, 3) := by decide +kernel
theorem dX1_init_59 : decode cX1_init 59 = .ok (.return_, 1) := by decide +kernel
set_option maxRecDepth 20000 in
theorem ggX1_takeOrder_X11_within : GoodIn wsX1_takeOrder wsX11_within := goodIn_r _ [5] (by decide +kernel) (by decide +kernel)
set_option maxRecDepth 20000 in
theorem gX1_takeOrder_X11_within_n42 : GoodIn wsX1_takeOrder (wsX11_within) := ggX1_takeOrder_X11_within
theorem dX1_takeOrder_0 : decode cX1_takeOrder 0 = .ok (.iload_n 1, 1) := by decide +kernel
theorem dX1_takeOrder_1 : decode cX1_takeOrder 1 = .ok (.iconst 1, 1) := by decide +kernel
theorem dX1_takeOrder_2 : decode cX1_takeOrder 2 = .ok (.sipush 7777, 3) := by decide +kernel
theorem dX1_takeOrder_5 : decode cX1_takeOrder 5 = .ok (.invokestatic 42, 3) := by decide +kernel
theorem dX1_takeOrder_8 : decode cX1_takeOrder 8 = .ok (.ifCond .ne 5, 3) := by decide +kernel
theorem dX1_takeOrder_11 : decode cX1_takeOrder 11 = .ok (.iconst 0, 1) := by decide +kernel
theorem dX1_takeOrder_12 : decode cX1_takeOrder 12 = .ok (.ireturn, 1) := by decide +kernel
theorem dX1_takeOrder_13 : decode cX1_takeOrder 13 = .ok (.aload_n 0, 1) := by decide +kernel
theorem dX1_takeOrder_14 : decode cX1_takeOrder 14 = .ok (.iconst 0, 1) := by decide +kernel
theorem dX1_takeOrder_15 : decode cX1_takeOrder 15 = .ok (.putfield 15, 3) := by decide +kernel
theorem dX1_takeOrder_18 : decode cX1_takeOrder 18 = .ok (.sipush 1000, 3) := by decide +kernel
theorem dX1_takeOrder_21 : decode cX1_takeOrder 21 = .ok (.istore_n 2, 1) := by decide +kernel
theorem dX1_takeOrder_22 : decode cX1_takeOrder 22 = .ok (.iload_n 2, 1) := by decide +kernel
theorem dX1_takeOrder_23 : decode cX1_takeOrder 23 = .ok (.ifCond .le 68, 3) := by decide +kernel
theorem dX1_takeOrder_26 : decode cX1_takeOrder 26 = .ok (.iload_n 1, 1) := by decide +kernel
theorem dX1_takeOrder_27 : decode cX1_takeOrder 27 = .ok (.iload_n 2, 1) := by decide +kernel
theorem dX1_takeOrder_28 : decode cX1_takeOrder 28 = .ok (.idiv, 1) := by decide +kernel
theorem dX1_takeOrder_29 : decode cX1_takeOrder 29 = .ok (.bipush 10, 2) := by decide +kernel
theorem dX1_takeOrder_31 : decode cX1_takeOrder 31 = .ok (.irem, 1) := by decide +kernel
theorem dX1_takeOrder_32 : decode cX1_takeOrder 32 = .ok (.istore_n 3, 1) := by decide +kernel
theorem dX1_takeOrder_33 : decode cX1_takeOrder 33 = .ok (.iload_n 1, 1) := by decide +kernel
theorem dX1_takeOrder_34 : decode cX1_takeOrder 34 = .ok (.iload_n 2, 1) := by decide +kernel
theorem dX1_takeOrder_35 : decode cX1_takeOrder 35 = .ok (.if_icmp .lt 15, 3) := by decide +kernel
theorem dX1_takeOrder_38 : decode cX1_takeOrder 38 = .ok (.iload_n 3, 1) := by decide +kernel
theorem dX1_takeOrder_39 : decode cX1_takeOrder 39 = .ok (.iconst 1, 1) := by decide +kernel
theorem dX1_takeOrder_40 : decode cX1_takeOrder 40 = .ok (.bipush 7, 2) := by decide +kernel
theorem dX1_takeOrder_42 : decode cX1_takeOrder 42 = .ok (.invokestatic 42, 3) := by decide +kernel
theorem dX1_takeOrder_45 : decode cX1_takeOrder 45 = .ok (.ifCond .ne 5, 3) := by decide +kernel
theorem dX1_takeOrder_48 : decode cX1_takeOrder 48 = .ok (.iconst 0, 1) := by decide +kernel
theorem dX1_takeOrder_49 : decode cX1_takeOrder 49 = .ok (.ireturn, 1) := by decide +kernel
theorem dX1_takeOrder_50 : decode cX1_takeOrder 50 = .ok (.iload_n 1, 1) := by decide +kernel
theorem dX1_takeOrder_51 : decode cX1_takeOrder 51 = .ok (.iload_n 2, 1) := by decide +kernel
theorem dX1_takeOrder_52 : decode cX1_takeOrder 52 = .ok (.if_icmp .lt 31, 3) := by decide +kernel
theorem dX1_takeOrder_55 : decode cX1_takeOrder 55 = .ok (.aload_n 0, 1) := by decide +kernel
theorem dX1_takeOrder_56 : decode cX1_takeOrder 56 = .ok (.getfield 15, 3) := by decide +kernel
theorem dX1_takeOrder_59 : decode cX1_takeOrder 59 = .ok (.iconst 4, 1) := by decide +kernel
theorem dX1_takeOrder_60 : decode cX1_takeOrder 60 = .ok (.if_icmp .ge 23, 3) := by decide +kernel
theorem dX1_takeOrder_63 : decode cX1_takeOrder 63 = .ok (.aload_n 0, 1) := by decide +kernel
theorem dX1_takeOrder_64 : decode cX1_takeOrder 64 = .ok (.getfield 9, 3) := by decide +kernel
theorem dX1_takeOrder_67 : decode cX1_takeOrder 67 = .ok (.aload_n 0, 1) := by decide +kernel
theorem dX1_takeOrder_68 : decode cX1_takeOrder 68 = .ok (.getfield 15, 3) := by decide +kernel
theorem dX1_takeOrder_71 : decode cX1_takeOrder 71 = .ok (.iload_n 3, 1) := by decide +kernel
theorem dX1_takeOrder_72 : decode cX1_takeOrder 72 = .ok (.iastore, 1) := by decide +kernel
theorem dX1_takeOrder_73 : decode cX1_takeOrder 73 = .ok (.aload_n 0, 1) := by decide +kernel
theorem dX1_takeOrder_74 : decode cX1_takeOrder 74 = .ok (.dup, 1) := by decide +kernel
theorem dX1_takeOrder_75 : decode cX1_takeOrder 75 = .ok (.getfield 15, 3) := by decide +kernel
theorem dX1_takeOrder_78 : decode cX1_takeOrder 78 = .ok (.iconst 1, 1) := by decide +kernel
theorem dX1_takeOrder_79 : decode cX1_takeOrder 79 = .ok (.iadd, 1) := by decide +kernel
theorem dX1_takeOrder_80 : decode cX1_takeOrder 80 = .ok (.putfield 15, 3) := by decide +kernel
theorem dX1_takeOrder_83 : decode cX1_takeOrder 83 = .ok (.iload_n 2, 1) := by decide +kernel
theorem dX1_takeOrder_84 : decode cX1_takeOrder 84 = .ok (.bipush 10, 2) := by decide +kernel
theorem dX1_takeOrder_86 : decode cX1_takeOrder 86 = .ok (.idiv, 1) := by decide +kernel
theorem dX1_takeOrder_87 : decode cX1_takeOrder 87 = .ok (.istore_n 2, 1) := by decide +kernel
theorem dX1_takeOrder_88 : decode cX1_takeOrder 88 = .ok (.goto (-66), 3) := by decide +kernel
theorem dX1_takeOrder_91 : decode cX1_takeOrder 91 = .ok (.iconst 1, 1) := by decide +kernel
theorem dX1_takeOrder_92 : decode cX1_takeOrder 92 = .ok (.ireturn, 1) := by decide +kernel
set_option maxRecDepth 20000 in
theorem ggX1_find_X1_isAt : GoodIn wsX1_find wsX1_isAt := goodIn_r _ [14, 15, 16, 17, 18, 19, 20, 21, 22, 23, 24, 13, 25, 26, 27, 28, 29, 30, 31, 40, 41, 42, 43, 44, 45, 46, 47, 48, 49] (by decide +kernel) (by decide +kernel)
set_option maxRecDepth 20000 in
theorem gX1_find_X1_isAt : GoodIn wsX1_find (wsV RX1 46 RX1 yX1_isAt wsX1_isAt) := goodIn_app (goodIn_of _ (by decide +kernel)) ggX1_find_X1_isAt
set_option maxRecDepth 20000 in
theorem ggX1_find_X1_takeGroup : GoodIn wsX1_find wsX1_takeGroup := goodIn_r _ [35, 36, 5, 37, 38, 39, 40, 41, 42, 43, 44, 45, 46, 47, 48] (by decide +kernel) (by decide +kernel)
set_option maxRecDepth 20000 in
theorem gX1_find_X1_takeGroup : GoodIn wsX1_find (wsV RX1 50 RX1 yX1_takeGroup wsX1_takeGroup) := goodIn_app (goodIn_of _ (by decide +kernel)) ggX1_find_X1_takeGroup
theorem dX1_find_0 : decode cX1_find 0 = .ok (.aload_n 0, 1) := by decide +kernel
theorem dX1_find_1 : decode cX1_find 1 = .ok (.iconst 0, 1) := by decide +kernel
theorem dX1_find_2 : decode cX1_find 2 = .ok (.putfield 26, 3) := by decide +kernel
theorem dX1_find_5 : decode cX1_find 5 = .ok (.aload_n 0, 1) := by decide +kernel
theorem dX1_find_6 : decode cX1_find 6 = .ok (.iconst 0, 1) := by decide +kernel
theorem dX1_find_7 : decode cX1_find 7 = .ok (.putfield 29, 3) := by decide +kernel
theorem dX1_find_10 : decode cX1_find 10 = .ok (.aload_n 0, 1) := by decide +kernel
theorem dX1_find_11 : decode cX1_find 11 = .ok (.iconst (-1), 1) := by decide +kernel
theorem dX1_find_12 : decode cX1_find 12 = .ok (.putfield 32, 3) := by decide +kernel
theorem dX1_find_15 : decode cX1_find 15 = .ok (.aload_n 0, 1) := by decide +kernel
theorem dX1_find_16 : decode cX1_find 16 = .ok (.iconst 0, 1) := by decide +kernel
theorem dX1_find_17 : decode cX1_find 17 = .ok (.putfield 35, 3) := by decide +kernel
theorem dX1_find_20 : decode cX1_find 20 = .ok (.sipush 143, 3) := by decide +kernel
theorem dX1_find_23 : decode cX1_find 23 = .ok (.istore_n 1, 1) := by decide +kernel
theorem dX1_find_24 : decode cX1_find 24 = .ok (.iload_n 1, 1) := by decide +kernel
theorem dX1_find_25 : decode cX1_find 25 = .ok (.ifCond .lt 44, 3) := by decide +kernel
theorem dX1_find_28 : decode cX1_find 28 = .ok (.aload_n 0, 1) := by decide +kernel
theorem dX1_find_29 : decode cX1_find 29 = .ok (.getfield 19, 3) := by decide +kernel
theorem dX1_find_32 : decode cX1_find 32 = .ok (.iload_n 1, 1) := by decide +kernel
theorem dX1_find_33 : decode cX1_find 33 = .ok (.aload_n 0, 1) := by decide +kernel
theorem dX1_find_34 : decode cX1_find 34 = .ok (.iload_n 1, 1) := by decide +kernel
theorem dX1_find_35 : decode cX1_find 35 = .ok (.invokevirtual 46, 3) := by decide +kernel
theorem dX1_find_38 : decode cX1_find 38 = .ok (.bastore, 1) := by decide +kernel
theorem dX1_find_39 : decode cX1_find 39 = .ok (.aload_n 0, 1) := by decide +kernel
theorem dX1_find_40 : decode cX1_find 40 = .ok (.getfield 19, 3) := by decide +kernel
theorem dX1_find_43 : decode cX1_find 43 = .ok (.iload_n 1, 1) := by decide +kernel
theorem dX1_find_44 : decode cX1_find 44 = .ok (.baload, 1) := by decide +kernel
theorem dX1_find_45 : decode cX1_find 45 = .ok (.ifCond .eq 18, 3) := by decide +kernel
theorem dX1_find_48 : decode cX1_find 48 = .ok (.aload_n 0, 1) := by decide +kernel
theorem dX1_find_49 : decode cX1_find 49 = .ok (.dup, 1) := by decide +kernel
theorem dX1_find_50 : decode cX1_find 50 = .ok (.getfield 26, 3) := by decide +kernel
theorem dX1_find_53 : decode cX1_find 53 = .ok (.iconst 1, 1) := by decide +kernel
theorem dX1_find_54 : decode cX1_find 54 = .ok (.iadd, 1) := by decide +kernel
theorem dX1_find_55 : decode cX1_find 55 = .ok (.putfield 26, 3) := by decide +kernel
theorem dX1_find_58 : decode cX1_find 58 = .ok (.aload_n 0, 1) := by decide +kernel
theorem dX1_find_59 : decode cX1_find 59 = .ok (.iload_n 1, 1) := by decide +kernel
theorem dX1_find_60 : decode cX1_find 60 = .ok (.putfield 32, 3) := by decide +kernel
theorem dX1_find_63 : decode cX1_find 63 = .ok (.iinc 1 (-1), 3) := by decide +kernel
theorem dX1_find_66 : decode cX1_find 66 = .ok (.goto (-42), 3) := by decide +kernel
theorem dX1_find_69 : decode cX1_find 69 = .ok (.iconst 0, 1) := by decide +kernel
theorem dX1_find_70 : decode cX1_find 70 = .ok (.istore_n 1, 1) := by decide +kernel
theorem dX1_find_71 : decode cX1_find 71 = .ok (.iload_n 1, 1) := by decide +kernel
theorem dX1_find_72 : decode cX1_find 72 = .ok (.sipush 144, 3) := by decide +kernel
theorem dX1_find_75 : decode cX1_find 75 = .ok (.if_icmp .ge 44, 3) := by decide +kernel
theorem dX1_find_78 : decode cX1_find 78 = .ok (.aload_n 0, 1) := by decide +kernel
theorem dX1_find_79 : decode cX1_find 79 = .ok (.getfield 19, 3) := by decide +kernel
theorem dX1_find_82 : decode cX1_find 82 = .ok (.iload_n 1, 1) := by decide +kernel
theorem dX1_find_83 : decode cX1_find 83 = .ok (.baload, 1) := by decide +kernel
theorem dX1_find_84 : decode cX1_find 84 = .ok (.ifCond .eq 29, 3) := by decide +kernel
theorem dX1_find_87 : decode cX1_find 87 = .ok (.aload_n 0, 1) := by decide +kernel
theorem dX1_find_88 : decode cX1_find 88 = .ok (.dup, 1) := by decide +kernel
theorem dX1_find_89 : decode cX1_find 89 = .ok (.getfield 29, 3) := by decide +kernel
theorem dX1_find_92 : decode cX1_find 92 = .ok (.iconst 1, 1) := by decide +kernel
theorem dX1_find_93 : decode cX1_find 93 = .ok (.iadd, 1) := by decide +kernel
theorem dX1_find_94 : decode cX1_find 94 = .ok (.putfield 29, 3) := by decide +kernel
theorem dX1_find_97 : decode cX1_find 97 = .ok (.aload_n 0, 1) := by decide +kernel
theorem dX1_find_98 : decode cX1_find 98 = .ok (.aload_n 0, 1) := by decide +kernel
theorem dX1_find_99 : decode cX1_find 99 = .ok (.getfield 35, 3) := by decide +kernel
theorem dX1_find_102 : decode cX1_find 102 = .ok (.aload_n 0, 1) := by decide +kernel
theorem dX1_find_103 : decode cX1_find 103 = .ok (.iload_n 1, 1) := by decide +kernel
theorem dX1_find_104 : decode cX1_find 104 = .ok (.invokevirtual 50, 3) := by decide +kernel
theorem dX1_find_107 : decode cX1_find 107 = .ok (.invokestatic 54, 3) := by decide +kernel
theorem dX1_find_110 : decode cX1_find 110 = .ok (.putfield 35, 3) := by decide +kernel
theorem dX1_find_113 : decode cX1_find 113 = .ok (.iinc 1 1, 3) := by decide +kernel
theorem dX1_find_116 : decode cX1_find 116 = .ok (.goto (-45), 3) := by decide +kernel
theorem dX1_find_119 : decode cX1_find 119 = .ok (.return_, 1) := by decide +kernel
set_option maxRecDepth 20000 in
theorem ggX1_isAt_X0_beginsSpan : GoodIn wsX1_isAt wsX0_beginsSpan := goodIn_r _ [6, 7, 28] (by decide +kernel) (by decide +kernel)
set_option maxRecDepth 20000 in
theorem gX1_isAt_X0_beginsSpan : GoodIn wsX1_isAt (wsV RX1 60 RX0 yX0_beginsSpan wsX0_beginsSpan) := goodIn_app (goodIn_of _ (by decide +kernel)) ggX1_isAt_X0_beginsSpan
set_option maxRecDepth 20000 in
theorem ggX1_isAt_X1_beginsAt : GoodIn wsX1_isAt wsX1_beginsAt := goodIn_r _ [12, 13, 1, 14, 15, 16, 17, 5, 18, 7, 19, 20, 21, 22, 23, 24, 25, 26, 27, 28] (by decide +kernel) (by decide +kernel)
set_option maxRecDepth 20000 in
theorem gX1_isAt_X1_beginsAt : GoodIn wsX1_isAt (wsV RX1 66 RX1 yX1_beginsAt wsX1_beginsAt) := goodIn_app (goodIn_of _ (by decide +kernel)) ggX1_isAt_X1_beginsAt
theorem dX1_isAt_0 : decode cX1_isAt 0 = .ok (.iconst 0, 1) := by decide +kernel
theorem dX1_isAt_1 : decode cX1_isAt 1 = .ok (.istore_n 2, 1) := by decide +kernel
theorem dX1_isAt_2 : decode cX1_isAt 2 = .ok (.iload_n 2, 1) := by decide +kernel
theorem dX1_isAt_3 : decode cX1_isAt 3 = .ok (.bipush 20, 2) := by decide +kernel
theorem dX1_isAt_5 : decode cX1_isAt 5 = .ok (.if_icmp .ge 32, 3) := by decide +kernel
theorem dX1_isAt_8 : decode cX1_isAt 8 = .ok (.aload_n 0, 1) := by decide +kernel
theorem dX1_isAt_9 : decode cX1_isAt 9 = .ok (.getfield 38, 3) := by decide +kernel
theorem dX1_isAt_12 : decode cX1_isAt 12 = .ok (.iload_n 1, 1) := by decide +kernel
theorem dX1_isAt_13 : decode cX1_isAt 13 = .ok (.iload_n 2, 1) := by decide +kernel
theorem dX1_isAt_14 : decode cX1_isAt 14 = .ok (.invokevirtual 60, 3) := by decide +kernel
theorem dX1_isAt_17 : decode cX1_isAt 17 = .ok (.ifCond .eq 14, 3) := by decide +kernel
theorem dX1_isAt_20 : decode cX1_isAt 20 = .ok (.aload_n 0, 1) := by decide +kernel
theorem dX1_isAt_21 : decode cX1_isAt 21 = .ok (.iload_n 1, 1) := by decide +kernel
theorem dX1_isAt_22 : decode cX1_isAt 22 = .ok (.iload_n 2, 1) := by decide +kernel
theorem dX1_isAt_23 : decode cX1_isAt 23 = .ok (.invokevirtual 66, 3) := by decide +kernel
theorem dX1_isAt_26 : decode cX1_isAt 26 = .ok (.ifCond .eq 5, 3) := by decide +kernel
theorem dX1_isAt_29 : decode cX1_isAt 29 = .ok (.iconst 1, 1) := by decide +kernel
theorem dX1_isAt_30 : decode cX1_isAt 30 = .ok (.ireturn, 1) := by decide +kernel
theorem dX1_isAt_31 : decode cX1_isAt 31 = .ok (.iinc 2 1, 3) := by decide +kernel
theorem dX1_isAt_34 : decode cX1_isAt 34 = .ok (.goto (-32), 3) := by decide +kernel
theorem dX1_isAt_37 : decode cX1_isAt 37 = .ok (.iconst 0, 1) := by decide +kernel
theorem dX1_isAt_38 : decode cX1_isAt 38 = .ok (.ireturn, 1) := by decide +kernel
set_option maxRecDepth 20000 in
theorem ggX1_beginsAt_X0_endOfSpan : GoodIn wsX1_beginsAt wsX0_endOfSpan := goodIn_r _ [8, 9, 19] (by decide +kernel) (by decide +kernel)
set_option maxRecDepth 20000 in
theorem gX1_beginsAt_X0_endOfSpan : GoodIn wsX1_beginsAt (wsV RX1 72 RX0 yX0_endOfSpan wsX0_endOfSpan) := goodIn_app (goodIn_of _ (by decide +kernel)) ggX1_beginsAt_X0_endOfSpan
theorem dX1_beginsAt_0 : decode cX1_beginsAt 0 = .ok (.iload_n 2, 1) := by decide +kernel
theorem dX1_beginsAt_1 : decode cX1_beginsAt 1 = .ok (.istore_n 3, 1) := by decide +kernel
theorem dX1_beginsAt_2 : decode cX1_beginsAt 2 = .ok (.iconst 0, 1) := by decide +kernel
theorem dX1_beginsAt_3 : decode cX1_beginsAt 3 = .ok (.istore 4, 2) := by decide +kernel
theorem dX1_beginsAt_5 : decode cX1_beginsAt 5 = .ok (.iload 4, 2) := by decide +kernel
theorem dX1_beginsAt_7 : decode cX1_beginsAt 7 = .ok (.aload_n 0, 1) := by decide +kernel
theorem dX1_beginsAt_8 : decode cX1_beginsAt 8 = .ok (.getfield 15, 3) := by decide +kernel
theorem dX1_beginsAt_11 : decode cX1_beginsAt 11 = .ok (.if_icmp .ge 58, 3) := by decide +kernel
theorem dX1_beginsAt_14 : decode cX1_beginsAt 14 = .ok (.iload 4, 2) := by decide +kernel
theorem dX1_beginsAt_16 : decode cX1_beginsAt 16 = .ok (.iconst 4, 1) := by decide +kernel
theorem dX1_beginsAt_17 : decode cX1_beginsAt 17 = .ok (.if_icmp .ge 52, 3) := by decide +kernel
theorem dX1_beginsAt_20 : decode cX1_beginsAt 20 = .ok (.iload_n 3, 1) := by decide +kernel
theorem dX1_beginsAt_21 : decode cX1_beginsAt 21 = .ok (.bipush 20, 2) := by decide +kernel
theorem dX1_beginsAt_23 : decode cX1_beginsAt 23 = .ok (.if_icmp .ge 28, 3) := by decide +kernel
theorem dX1_beginsAt_26 : decode cX1_beginsAt 26 = .ok (.aload_n 0, 1) := by decide +kernel
theorem dX1_beginsAt_27 : decode cX1_beginsAt 27 = .ok (.getfield 38, 3) := by decide +kernel
theorem dX1_beginsAt_30 : decode cX1_beginsAt 30 = .ok (.getfield 69, 3) := by decide +kernel
theorem dX1_beginsAt_33 : decode cX1_beginsAt 33 = .ok (.iload_n 3, 1) := by decide +kernel
theorem dX1_beginsAt_34 : decode cX1_beginsAt 34 = .ok (.sipush 144, 3) := by decide +kernel
theorem dX1_beginsAt_37 : decode cX1_beginsAt 37 = .ok (.imul, 1) := by decide +kernel
theorem dX1_beginsAt_38 : decode cX1_beginsAt 38 = .ok (.iload_n 1, 1) := by decide +kernel
theorem dX1_beginsAt_39 : decode cX1_beginsAt 39 = .ok (.iadd, 1) := by decide +kernel
theorem dX1_beginsAt_40 : decode cX1_beginsAt 40 = .ok (.iaload, 1) := by decide +kernel
theorem dX1_beginsAt_41 : decode cX1_beginsAt 41 = .ok (.aload_n 0, 1) := by decide +kernel
theorem dX1_beginsAt_42 : decode cX1_beginsAt 42 = .ok (.getfield 9, 3) := by decide +kernel
theorem dX1_beginsAt_45 : decode cX1_beginsAt 45 = .ok (.iload 4, 2) := by decide +kernel
theorem dX1_beginsAt_47 : decode cX1_beginsAt 47 = .ok (.iaload, 1) := by decide +kernel
theorem dX1_beginsAt_48 : decode cX1_beginsAt 48 = .ok (.if_icmp .eq 5, 3) := by decide +kernel
theorem dX1_beginsAt_51 : decode cX1_beginsAt 51 = .ok (.iconst 0, 1) := by decide +kernel
theorem dX1_beginsAt_52 : decode cX1_beginsAt 52 = .ok (.ireturn, 1) := by decide +kernel
theorem dX1_beginsAt_53 : decode cX1_beginsAt 53 = .ok (.aload_n 0, 1) := by decide +kernel
theorem dX1_beginsAt_54 : decode cX1_beginsAt 54 = .ok (.getfield 38, 3) := by decide +kernel
theorem dX1_beginsAt_57 : decode cX1_beginsAt 57 = .ok (.iload_n 1, 1) := by decide +kernel
theorem dX1_beginsAt_58 : decode cX1_beginsAt 58 = .ok (.iload_n 3, 1) := by decide +kernel
theorem dX1_beginsAt_59 : decode cX1_beginsAt 59 = .ok (.invokevirtual 72, 3) := by decide +kernel
theorem dX1_beginsAt_62 : decode cX1_beginsAt 62 = .ok (.istore_n 3, 1) := by decide +kernel
theorem dX1_beginsAt_63 : decode cX1_beginsAt 63 = .ok (.iinc 4 1, 3) := by decide +kernel
theorem dX1_beginsAt_66 : decode cX1_beginsAt 66 = .ok (.goto (-61), 3) := by decide +kernel
theorem dX1_beginsAt_69 : decode cX1_beginsAt 69 = .ok (.iconst 1, 1) := by decide +kernel
theorem dX1_beginsAt_70 : decode cX1_beginsAt 70 = .ok (.ireturn, 1) := by decide +kernel
set_option maxRecDepth 20000 in
theorem ggX1_takeGroup_X11_beside : GoodIn wsX1_takeGroup wsX11_beside := goodIn_r _ [5] (by decide +kernel) (by decide +kernel)
set_option maxRecDepth 20000 in
theorem gX1_takeGroup_X11_beside_n75 : GoodIn wsX1_takeGroup (wsX11_beside) := ggX1_takeGroup_X11_beside
theorem dX1_takeGroup_0 : decode cX1_takeGroup 0 = .ok (.iconst 1, 1) := by decide +kernel
theorem dX1_takeGroup_1 : decode cX1_takeGroup 1 = .ok (.istore_n 2, 1) := by decide +kernel
theorem dX1_takeGroup_2 : decode cX1_takeGroup 2 = .ok (.aload_n 0, 1) := by decide +kernel
theorem dX1_takeGroup_3 : decode cX1_takeGroup 3 = .ok (.getfield 23, 3) := by decide +kernel
theorem dX1_takeGroup_6 : decode cX1_takeGroup 6 = .ok (.iconst 0, 1) := by decide +kernel
theorem dX1_takeGroup_7 : decode cX1_takeGroup 7 = .ok (.iload_n 1, 1) := by decide +kernel
theorem dX1_takeGroup_8 : decode cX1_takeGroup 8 = .ok (.iastore, 1) := by decide +kernel
theorem dX1_takeGroup_9 : decode cX1_takeGroup 9 = .ok (.aload_n 0, 1) := by decide +kernel
theorem dX1_takeGroup_10 : decode cX1_takeGroup 10 = .ok (.getfield 19, 3) := by decide +kernel
theorem dX1_takeGroup_13 : decode cX1_takeGroup 13 = .ok (.iload_n 1, 1) := by decide +kernel
theorem dX1_takeGroup_14 : decode cX1_takeGroup 14 = .ok (.iconst 0, 1) := by decide +kernel
theorem dX1_takeGroup_15 : decode cX1_takeGroup 15 = .ok (.bastore, 1) := by decide +kernel
theorem dX1_takeGroup_16 : decode cX1_takeGroup 16 = .ok (.iconst 0, 1) := by decide +kernel
theorem dX1_takeGroup_17 : decode cX1_takeGroup 17 = .ok (.istore_n 3, 1) := by decide +kernel
theorem dX1_takeGroup_18 : decode cX1_takeGroup 18 = .ok (.iload_n 3, 1) := by decide +kernel
theorem dX1_takeGroup_19 : decode cX1_takeGroup 19 = .ok (.iload_n 2, 1) := by decide +kernel
theorem dX1_takeGroup_20 : decode cX1_takeGroup 20 = .ok (.if_icmp .ge 86, 3) := by decide +kernel
theorem dX1_takeGroup_23 : decode cX1_takeGroup 23 = .ok (.iload_n 3, 1) := by decide +kernel
theorem dX1_takeGroup_24 : decode cX1_takeGroup 24 = .ok (.sipush 144, 3) := by decide +kernel
theorem dX1_takeGroup_27 : decode cX1_takeGroup 27 = .ok (.if_icmp .ge 79, 3) := by decide +kernel
theorem dX1_takeGroup_30 : decode cX1_takeGroup 30 = .ok (.iconst 0, 1) := by decide +kernel
theorem dX1_takeGroup_31 : decode cX1_takeGroup 31 = .ok (.istore 4, 2) := by decide +kernel
theorem dX1_takeGroup_33 : decode cX1_takeGroup 33 = .ok (.iload 4, 2) := by decide +kernel
theorem dX1_takeGroup_35 : decode cX1_takeGroup 35 = .ok (.iconst 4, 1) := by decide +kernel
theorem dX1_takeGroup_36 : decode cX1_takeGroup 36 = .ok (.if_icmp .ge 64, 3) := by decide +kernel
theorem dX1_takeGroup_39 : decode cX1_takeGroup 39 = .ok (.aload_n 0, 1) := by decide +kernel
theorem dX1_takeGroup_40 : decode cX1_takeGroup 40 = .ok (.getfield 23, 3) := by decide +kernel
theorem dX1_takeGroup_43 : decode cX1_takeGroup 43 = .ok (.iload_n 3, 1) := by decide +kernel
theorem dX1_takeGroup_44 : decode cX1_takeGroup 44 = .ok (.iaload, 1) := by decide +kernel
theorem dX1_takeGroup_45 : decode cX1_takeGroup 45 = .ok (.iload 4, 2) := by decide +kernel
theorem dX1_takeGroup_47 : decode cX1_takeGroup 47 = .ok (.invokestatic 75, 3) := by decide +kernel
theorem dX1_takeGroup_50 : decode cX1_takeGroup 50 = .ok (.istore 5, 2) := by decide +kernel
theorem dX1_takeGroup_52 : decode cX1_takeGroup 52 = .ok (.iload 5, 2) := by decide +kernel
theorem dX1_takeGroup_54 : decode cX1_takeGroup 54 = .ok (.iconst (-1), 1) := by decide +kernel
theorem dX1_takeGroup_55 : decode cX1_takeGroup 55 = .ok (.if_icmp .eq 39, 3) := by decide +kernel
theorem dX1_takeGroup_58 : decode cX1_takeGroup 58 = .ok (.aload_n 0, 1) := by decide +kernel
theorem dX1_takeGroup_59 : decode cX1_takeGroup 59 = .ok (.getfield 19, 3) := by decide +kernel
theorem dX1_takeGroup_62 : decode cX1_takeGroup 62 = .ok (.iload 5, 2) := by decide +kernel
theorem dX1_takeGroup_64 : decode cX1_takeGroup 64 = .ok (.baload, 1) := by decide +kernel
theorem dX1_takeGroup_65 : decode cX1_takeGroup 65 = .ok (.ifCond .eq 29, 3) := by decide +kernel
theorem dX1_takeGroup_68 : decode cX1_takeGroup 68 = .ok (.iload_n 2, 1) := by decide +kernel
theorem dX1_takeGroup_69 : decode cX1_takeGroup 69 = .ok (.sipush 144, 3) := by decide +kernel
theorem dX1_takeGroup_72 : decode cX1_takeGroup 72 = .ok (.if_icmp .ge 22, 3) := by decide +kernel
theorem dX1_takeGroup_75 : decode cX1_takeGroup 75 = .ok (.aload_n 0, 1) := by decide +kernel
theorem dX1_takeGroup_76 : decode cX1_takeGroup 76 = .ok (.getfield 19, 3) := by decide +kernel
theorem dX1_takeGroup_79 : decode cX1_takeGroup 79 = .ok (.iload 5, 2) := by decide +kernel
theorem dX1_takeGroup_81 : decode cX1_takeGroup 81 = .ok (.iconst 0, 1) := by decide +kernel
theorem dX1_takeGroup_82 : decode cX1_takeGroup 82 = .ok (.bastore, 1) := by decide +kernel
theorem dX1_takeGroup_83 : decode cX1_takeGroup 83 = .ok (.aload_n 0, 1) := by decide +kernel
theorem dX1_takeGroup_84 : decode cX1_takeGroup 84 = .ok (.getfield 23, 3) := by decide +kernel
theorem dX1_takeGroup_87 : decode cX1_takeGroup 87 = .ok (.iload_n 2, 1) := by decide +kernel
theorem dX1_takeGroup_88 : decode cX1_takeGroup 88 = .ok (.iload 5, 2) := by decide +kernel
theorem dX1_takeGroup_90 : decode cX1_takeGroup 90 = .ok (.iastore, 1) := by decide +kernel
theorem dX1_takeGroup_91 : decode cX1_takeGroup 91 = .ok (.iinc 2 1, 3) := by decide +kernel
theorem dX1_takeGroup_94 : decode cX1_takeGroup 94 = .ok (.iinc 4 1, 3) := by decide +kernel
theorem dX1_takeGroup_97 : decode cX1_takeGroup 97 = .ok (.goto (-64), 3) := by decide +kernel
theorem dX1_takeGroup_100 : decode cX1_takeGroup 100 = .ok (.iinc 3 1, 3) := by decide +kernel
theorem dX1_takeGroup_103 : decode cX1_takeGroup 103 = .ok (.goto (-85), 3) := by decide +kernel
theorem dX1_takeGroup_106 : decode cX1_takeGroup 106 = .ok (.iload_n 2, 1) := by decide +kernel
theorem dX1_takeGroup_107 : decode cX1_takeGroup 107 = .ok (.ireturn, 1) := by decide +kernel
theorem dX2_init_0 : decode cX2_init 0 = .ok (.aload_n 0, 1) := by decide +kernel
theorem dX2_init_1 : decode cX2_init 1 = .ok (.invokespecial 3, 3) := by decide +kernel
theorem dX2_init_4 : decode cX2_init 4 = .ok (.aload_n 0, 1) := by decide +kernel
theorem dX2_init_5 : decode cX2_init 5 = .ok (.sipush 2880, 3) := by decide +kernel
theorem dX2_init_8 : decode cX2_init 8 = .ok (.newarray .int, 2) := by decide +kernel
theorem dX2_init_10 : decode cX2_init 10 = .ok (.putfield 9, 3) := by decide +kernel
theorem dX2_init_13 : decode cX2_init 13 = .ok (.aload_n 0, 1) := by decide +kernel
theorem dX2_init_14 : decode cX2_init 14 = .ok (.sipush 2880, 3) := by decide +kernel
theorem dX2_init_17 : decode cX2_init 17 = .ok (.newarray .int, 2) := by decide +kernel
theorem dX2_init_19 : decode cX2_init 19 = .ok (.putfield 15, 3) := by decide +kernel
theorem dX2_init_22 : decode cX2_init 22 = .ok (.aload_n 0, 1) := by decide +kernel
theorem dX2_init_23 : decode cX2_init 23 = .ok (.iconst 0, 1) := by decide +kernel
theorem dX2_init_24 : decode cX2_init 24 = .ok (.putfield 18, 3) := by decide +kernel
theorem dX2_init_27 : decode cX2_init 27 = .ok (.return_, 1) := by decide +kernel
set_option maxRecDepth 20000 in
theorem ggX2_markOpen_X2_addHeight : GoodIn wsX2_markOpen wsX2_addHeight := goodIn_r _ [5, 6, 7, 8, 9, 10, 11, 12, 13, 14, 15, 16, 17, 4, 18, 19, 26, 27, 28] (by decide +kernel) (by decide +kernel)
set_option maxRecDepth 20000 in
theorem gX2_markOpen_X2_addHeight : GoodIn wsX2_markOpen (wsV RX2 22 RX2 yX2_addHeight wsX2_addHeight) := goodIn_app (goodIn_of _ (by decide +kernel)) ggX2_markOpen_X2_addHeight
set_option maxRecDepth 20000 in
theorem ggX2_markOpen_X2_spread : GoodIn wsX2_markOpen wsX2_spread := goodIn_r _ [23, 7, 19, 6, 24, 13, 25, 12, 14, 15, 16, 17, 4, 18, 26, 27, 28] (by decide +kernel) (by decide +kernel)
set_option maxRecDepth 20000 in
theorem gX2_markOpen_X2_spread : GoodIn wsX2_markOpen (wsV RX2 26 RX2 yX2_spread wsX2_spread) := goodIn_app (goodIn_of _ (by decide +kernel)) ggX2_markOpen_X2_spread
theorem dX2_markOpen_0 : decode cX2_markOpen 0 = .ok (.aload_n 0, 1) := by decide +kernel
theorem dX2_markOpen_1 : decode cX2_markOpen 1 = .ok (.aload_n 1, 1) := by decide +kernel
theorem dX2_markOpen_2 : decode cX2_markOpen 2 = .ok (.iconst 1, 1) := by decide +kernel
theorem dX2_markOpen_3 : decode cX2_markOpen 3 = .ok (.bipush 19, 2) := by decide +kernel
theorem dX2_markOpen_5 : decode cX2_markOpen 5 = .ok (.invokevirtual 22, 3) := by decide +kernel
theorem dX2_markOpen_8 : decode cX2_markOpen 8 = .ok (.aload_n 0, 1) := by decide +kernel
theorem dX2_markOpen_9 : decode cX2_markOpen 9 = .ok (.aload_n 1, 1) := by decide +kernel
theorem dX2_markOpen_10 : decode cX2_markOpen 10 = .ok (.iconst 1, 1) := by decide +kernel
theorem dX2_markOpen_11 : decode cX2_markOpen 11 = .ok (.iconst 1, 1) := by decide +kernel
theorem dX2_markOpen_12 : decode cX2_markOpen 12 = .ok (.invokevirtual 26, 3) := by decide +kernel
theorem dX2_markOpen_15 : decode cX2_markOpen 15 = .ok (.return_, 1) := by decide +kernel
set_option maxRecDepth 20000 in
theorem ggX2_markStanding_X2_addHeight : GoodIn wsX2_markStanding wsX2_addHeight := goodIn_r _ [5, 6, 7, 8, 9, 10, 11, 12, 13, 14, 15, 16, 17, 4, 18, 19, 26, 27, 28] (by decide +kernel) (by decide +kernel)
set_option maxRecDepth 20000 in
theorem gX2_markStanding_X2_addHeight : GoodIn wsX2_markStanding (wsV RX2 22 RX2 yX2_addHeight wsX2_addHeight) := goodIn_app (goodIn_of _ (by decide +kernel)) ggX2_markStanding_X2_addHeight
set_option maxRecDepth 20000 in
theorem ggX2_markStanding_X2_spread : GoodIn wsX2_markStanding wsX2_spread := goodIn_r _ [23, 7, 19, 6, 24, 13, 25, 12, 14, 15, 16, 17, 4, 18, 26, 27, 28] (by decide +kernel) (by decide +kernel)
set_option maxRecDepth 20000 in
theorem gX2_markStanding_X2_spread : GoodIn wsX2_markStanding (wsV RX2 26 RX2 yX2_spread wsX2_spread) := goodIn_app (goodIn_of _ (by decide +kernel)) ggX2_markStanding_X2_spread
theorem dX2_markStanding_0 : decode cX2_markStanding 0 = .ok (.aload_n 0, 1) := by decide +kernel
theorem dX2_markStanding_1 : decode cX2_markStanding 1 = .ok (.aload_n 1, 1) := by decide +kernel
theorem dX2_markStanding_2 : decode cX2_markStanding 2 = .ok (.sipush 254, 3) := by decide +kernel
theorem dX2_markStanding_5 : decode cX2_markStanding 5 = .ok (.iconst 0, 1) := by decide +kernel
theorem dX2_markStanding_6 : decode cX2_markStanding 6 = .ok (.invokevirtual 22, 3) := by decide +kernel
theorem dX2_markStanding_9 : decode cX2_markStanding 9 = .ok (.aload_n 0, 1) := by decide +kernel
theorem dX2_markStanding_10 : decode cX2_markStanding 10 = .ok (.aload_n 1, 1) := by decide +kernel
theorem dX2_markStanding_11 : decode cX2_markStanding 11 = .ok (.sipush 254, 3) := by decide +kernel
theorem dX2_markStanding_14 : decode cX2_markStanding 14 = .ok (.iconst 1, 1) := by decide +kernel
theorem dX2_markStanding_15 : decode cX2_markStanding 15 = .ok (.invokevirtual 26, 3) := by decide +kernel
theorem dX2_markStanding_18 : decode cX2_markStanding 18 = .ok (.return_, 1) := by decide +kernel
set_option maxRecDepth 20000 in
theorem ggX2_markNets_J7_fill_53178 : GoodIn wsX2_markNets wsJ7_fill_53178 := goodIn_r _ [6] (by decide +kernel) (by decide +kernel)
set_option maxRecDepth 20000 in
theorem gX2_markNets_J7_fill_53178 : GoodIn wsX2_markNets (va_wsS RX2 29 yJ7_fill_53178 wsJ7_fill_53178) := goodIn_app (goodIn_of _ (by decide +kernel)) ggX2_markNets_J7_fill_53178
set_option maxRecDepth 20000 in
theorem ggX2_markNets_X11_hasKind : GoodIn wsX2_markNets wsX11_hasKind := goodIn_r _ [9] (by decide +kernel) (by decide +kernel)
set_option maxRecDepth 20000 in
theorem gX2_markNets_X11_hasKind_n35 : GoodIn wsX2_markNets (wsX11_hasKind) := ggX2_markNets_X11_hasKind
set_option maxRecDepth 20000 in
theorem ggX2_markNets_X2_add : GoodIn wsX2_markNets wsX2_add := goodIn_r _ [14, 2, 1, 15, 22, 23, 24] (by decide +kernel) (by decide +kernel)
set_option maxRecDepth 20000 in
theorem gX2_markNets_X2_add : GoodIn wsX2_markNets (wsV RX2 39 RX2 yX2_add wsX2_add) := goodIn_app (goodIn_of _ (by decide +kernel)) ggX2_markNets_X2_add
set_option maxRecDepth 20000 in
theorem ggX2_markNets_X2_spread : GoodIn wsX2_markNets wsX2_spread := goodIn_r _ [19, 2, 15, 1, 20, 8, 21, 7, 9, 10, 11, 12, 13, 14, 22, 23, 24] (by decide +kernel) (by decide +kernel)
set_option maxRecDepth 20000 in
theorem gX2_markNets_X2_spread : GoodIn wsX2_markNets (wsV RX2 26 RX2 yX2_spread wsX2_spread) := goodIn_app (goodIn_of _ (by decide +kernel)) ggX2_markNets_X2_spread
theorem dX2_markNets_0 : decode cX2_markNets 0 = .ok (.aload_n 0, 1) := by decide +kernel
theorem dX2_markNets_1 : decode cX2_markNets 1 = .ok (.getfield 9, 3) := by decide +kernel
theorem dX2_markNets_4 : decode cX2_markNets 4 = .ok (.iconst 0, 1) := by decide +kernel
theorem dX2_markNets_5 : decode cX2_markNets 5 = .ok (.invokestatic 29, 3) := by decide +kernel
theorem dX2_markNets_8 : decode cX2_markNets 8 = .ok (.iconst 0, 1) := by decide +kernel
theorem dX2_markNets_9 : decode cX2_markNets 9 = .ok (.istore_n 3, 1) := by decide +kernel
theorem dX2_markNets_10 : decode cX2_markNets 10 = .ok (.iconst 0, 1) := by decide +kernel
theorem dX2_markNets_11 : decode cX2_markNets 11 = .ok (.istore 4, 2) := by decide +kernel
theorem dX2_markNets_13 : decode cX2_markNets 13 = .ok (.iload 4, 2) := by decide +kernel
theorem dX2_markNets_15 : decode cX2_markNets 15 = .ok (.sipush 2880, 3) := by decide +kernel
theorem dX2_markNets_18 : decode cX2_markNets 18 = .ok (.if_icmp .ge 52, 3) := by decide +kernel
theorem dX2_markNets_21 : decode cX2_markNets 21 = .ok (.aload_n 0, 1) := by decide +kernel
theorem dX2_markNets_22 : decode cX2_markNets 22 = .ok (.getfield 9, 3) := by decide +kernel
theorem dX2_markNets_25 : decode cX2_markNets 25 = .ok (.iload 4, 2) := by decide +kernel
theorem dX2_markNets_27 : decode cX2_markNets 27 = .ok (.iaload, 1) := by decide +kernel
theorem dX2_markNets_28 : decode cX2_markNets 28 = .ok (.ifCond .ne 36, 3) := by decide +kernel
theorem dX2_markNets_31 : decode cX2_markNets 31 = .ok (.iload_n 2, 1) := by decide +kernel
theorem dX2_markNets_32 : decode cX2_markNets 32 = .ok (.aload_n 1, 1) := by decide +kernel
theorem dX2_markNets_33 : decode cX2_markNets 33 = .ok (.iload 4, 2) := by decide +kernel
theorem dX2_markNets_35 : decode cX2_markNets 35 = .ok (.iaload, 1) := by decide +kernel
theorem dX2_markNets_36 : decode cX2_markNets 36 = .ok (.invokestatic 35, 3) := by decide +kernel
theorem dX2_markNets_39 : decode cX2_markNets 39 = .ok (.ifCond .eq 25, 3) := by decide +kernel
theorem dX2_markNets_42 : decode cX2_markNets 42 = .ok (.iinc 3 1, 3) := by decide +kernel
theorem dX2_markNets_45 : decode cX2_markNets 45 = .ok (.aload_n 0, 1) := by decide +kernel
theorem dX2_markNets_46 : decode cX2_markNets 46 = .ok (.iconst 0, 1) := by decide +kernel
theorem dX2_markNets_47 : decode cX2_markNets 47 = .ok (.putfield 18, 3) := by decide +kernel
theorem dX2_markNets_50 : decode cX2_markNets 50 = .ok (.aload_n 0, 1) := by decide +kernel
theorem dX2_markNets_51 : decode cX2_markNets 51 = .ok (.iload 4, 2) := by decide +kernel
theorem dX2_markNets_53 : decode cX2_markNets 53 = .ok (.iload_n 3, 1) := by decide +kernel
theorem dX2_markNets_54 : decode cX2_markNets 54 = .ok (.invokevirtual 39, 3) := by decide +kernel
theorem dX2_markNets_57 : decode cX2_markNets 57 = .ok (.aload_n 0, 1) := by decide +kernel
theorem dX2_markNets_58 : decode cX2_markNets 58 = .ok (.aload_n 1, 1) := by decide +kernel
theorem dX2_markNets_59 : decode cX2_markNets 59 = .ok (.iload_n 2, 1) := by decide +kernel
theorem dX2_markNets_60 : decode cX2_markNets 60 = .ok (.iload_n 3, 1) := by decide +kernel
theorem dX2_markNets_61 : decode cX2_markNets 61 = .ok (.invokevirtual 26, 3) := by decide +kernel
theorem dX2_markNets_64 : decode cX2_markNets 64 = .ok (.iinc 4 1, 3) := by decide +kernel
theorem dX2_markNets_67 : decode cX2_markNets 67 = .ok (.goto (-54), 3) := by decide +kernel
theorem dX2_markNets_70 : decode cX2_markNets 70 = .ok (.iload_n 3, 1) := by decide +kernel
theorem dX2_markNets_71 : decode cX2_markNets 71 = .ok (.ireturn, 1) := by decide +kernel
theorem dX2_isMarked_0 : decode cX2_isMarked 0 = .ok (.aload_n 0, 1) := by decide +kernel
theorem dX2_isMarked_1 : decode cX2_isMarked 1 = .ok (.getfield 9, 3) := by decide +kernel
theorem dX2_isMarked_4 : decode cX2_isMarked 4 = .ok (.iload_n 1, 1) := by decide +kernel
theorem dX2_isMarked_5 : decode cX2_isMarked 5 = .ok (.iaload, 1) := by decide +kernel
theorem dX2_isMarked_6 : decode cX2_isMarked 6 = .ok (.ifCond .eq 7, 3) := by decide +kernel
theorem dX2_isMarked_9 : decode cX2_isMarked 9 = .ok (.iconst 1, 1) := by decide +kernel
theorem dX2_isMarked_10 : decode cX2_isMarked 10 = .ok (.goto 4, 3) := by decide +kernel
theorem dX2_isMarked_13 : decode cX2_isMarked 13 = .ok (.iconst 0, 1) := by decide +kernel
theorem dX2_isMarked_14 : decode cX2_isMarked 14 = .ok (.ireturn, 1) := by decide +kernel
theorem dX2_netAt_0 : decode cX2_netAt 0 = .ok (.aload_n 0, 1) := by decide +kernel
theorem dX2_netAt_1 : decode cX2_netAt 1 = .ok (.getfield 9, 3) := by decide +kernel
theorem dX2_netAt_4 : decode cX2_netAt 4 = .ok (.iload_n 1, 1) := by decide +kernel
theorem dX2_netAt_5 : decode cX2_netAt 5 = .ok (.iaload, 1) := by decide +kernel
theorem dX2_netAt_6 : decode cX2_netAt 6 = .ok (.ifCond .ne 7, 3) := by decide +kernel
theorem dX2_netAt_9 : decode cX2_netAt 9 = .ok (.iconst (-1), 1) := by decide +kernel
theorem dX2_netAt_10 : decode cX2_netAt 10 = .ok (.goto 11, 3) := by decide +kernel
theorem dX2_netAt_13 : decode cX2_netAt 13 = .ok (.aload_n 0, 1) := by decide +kernel
theorem dX2_netAt_14 : decode cX2_netAt 14 = .ok (.getfield 9, 3) := by decide +kernel
theorem dX2_netAt_17 : decode cX2_netAt 17 = .ok (.iload_n 1, 1) := by decide +kernel
theorem dX2_netAt_18 : decode cX2_netAt 18 = .ok (.iaload, 1) := by decide +kernel
theorem dX2_netAt_19 : decode cX2_netAt 19 = .ok (.iconst 1, 1) := by decide +kernel
theorem dX2_netAt_20 : decode cX2_netAt 20 = .ok (.isub, 1) := by decide +kernel
theorem dX2_netAt_21 : decode cX2_netAt 21 = .ok (.ireturn, 1) := by decide +kernel
theorem dX2_leastOfNet_0 : decode cX2_leastOfNet 0 = .ok (.iconst 0, 1) := by decide +kernel
theorem dX2_leastOfNet_1 : decode cX2_leastOfNet 1 = .ok (.istore_n 2, 1) := by decide +kernel
theorem dX2_leastOfNet_2 : decode cX2_leastOfNet 2 = .ok (.iload_n 2, 1) := by decide +kernel
theorem dX2_leastOfNet_3 : decode cX2_leastOfNet 3 = .ok (.sipush 2880, 3) := by decide +kernel
theorem dX2_leastOfNet_6 : decode cX2_leastOfNet 6 = .ok (.if_icmp .ge 23, 3) := by decide +kernel
theorem dX2_leastOfNet_9 : decode cX2_leastOfNet 9 = .ok (.aload_n 0, 1) := by decide +kernel
theorem dX2_leastOfNet_10 : decode cX2_leastOfNet 10 = .ok (.getfield 9, 3) := by decide +kernel
theorem dX2_leastOfNet_13 : decode cX2_leastOfNet 13 = .ok (.iload_n 2, 1) := by decide +kernel
theorem dX2_leastOfNet_14 : decode cX2_leastOfNet 14 = .ok (.iaload, 1) := by decide +kernel
theorem dX2_leastOfNet_15 : decode cX2_leastOfNet 15 = .ok (.iload_n 1, 1) := by decide +kernel
theorem dX2_leastOfNet_16 : decode cX2_leastOfNet 16 = .ok (.iconst 1, 1) := by decide +kernel
theorem dX2_leastOfNet_17 : decode cX2_leastOfNet 17 = .ok (.iadd, 1) := by decide +kernel
theorem dX2_leastOfNet_18 : decode cX2_leastOfNet 18 = .ok (.if_icmp .ne 5, 3) := by decide +kernel
theorem dX2_leastOfNet_21 : decode cX2_leastOfNet 21 = .ok (.iload_n 2, 1) := by decide +kernel
theorem dX2_leastOfNet_22 : decode cX2_leastOfNet 22 = .ok (.ireturn, 1) := by decide +kernel
theorem dX2_leastOfNet_23 : decode cX2_leastOfNet 23 = .ok (.iinc 2 1, 3) := by decide +kernel
theorem dX2_leastOfNet_26 : decode cX2_leastOfNet 26 = .ok (.goto (-24), 3) := by decide +kernel
theorem dX2_leastOfNet_29 : decode cX2_leastOfNet 29 = .ok (.iconst (-1), 1) := by decide +kernel
theorem dX2_leastOfNet_30 : decode cX2_leastOfNet 30 = .ok (.ireturn, 1) := by decide +kernel
theorem dX2_greatestOfNet_0 : decode cX2_greatestOfNet 0 = .ok (.sipush 2879, 3) := by decide +kernel
theorem dX2_greatestOfNet_3 : decode cX2_greatestOfNet 3 = .ok (.istore_n 2, 1) := by decide +kernel
theorem dX2_greatestOfNet_4 : decode cX2_greatestOfNet 4 = .ok (.iload_n 2, 1) := by decide +kernel
theorem dX2_greatestOfNet_5 : decode cX2_greatestOfNet 5 = .ok (.ifCond .lt 23, 3) := by decide +kernel
theorem dX2_greatestOfNet_8 : decode cX2_greatestOfNet 8 = .ok (.aload_n 0, 1) := by decide +kernel
theorem dX2_greatestOfNet_9 : decode cX2_greatestOfNet 9 = .ok (.getfield 9, 3) := by decide +kernel
theorem dX2_greatestOfNet_12 : decode cX2_greatestOfNet 12 = .ok (.iload_n 2, 1) := by decide +kernel
theorem dX2_greatestOfNet_13 : decode cX2_greatestOfNet 13 = .ok (.iaload, 1) := by decide +kernel
theorem dX2_greatestOfNet_14 : decode cX2_greatestOfNet 14 = .ok (.iload_n 1, 1) := by decide +kernel
theorem dX2_greatestOfNet_15 : decode cX2_greatestOfNet 15 = .ok (.iconst 1, 1) := by decide +kernel
theorem dX2_greatestOfNet_16 : decode cX2_greatestOfNet 16 = .ok (.iadd, 1) := by decide +kernel
theorem dX2_greatestOfNet_17 : decode cX2_greatestOfNet 17 = .ok (.if_icmp .ne 5, 3) := by decide +kernel
theorem dX2_greatestOfNet_20 : decode cX2_greatestOfNet 20 = .ok (.iload_n 2, 1) := by decide +kernel
theorem dX2_greatestOfNet_21 : decode cX2_greatestOfNet 21 = .ok (.ireturn, 1) := by decide +kernel
theorem dX2_greatestOfNet_22 : decode cX2_greatestOfNet 22 = .ok (.iinc 2 (-1), 3) := by decide +kernel
theorem dX2_greatestOfNet_25 : decode cX2_greatestOfNet 25 = .ok (.goto (-21), 3) := by decide +kernel
theorem dX2_greatestOfNet_28 : decode cX2_greatestOfNet 28 = .ok (.iconst (-1), 1) := by decide +kernel
theorem dX2_greatestOfNet_29 : decode cX2_greatestOfNet 29 = .ok (.ireturn, 1) := by decide +kernel
theorem dX2_sizeOfNet_0 : decode cX2_sizeOfNet 0 = .ok (.iconst 0, 1) := by decide +kernel
theorem dX2_sizeOfNet_1 : decode cX2_sizeOfNet 1 = .ok (.istore_n 2, 1) := by decide +kernel
theorem dX2_sizeOfNet_2 : decode cX2_sizeOfNet 2 = .ok (.iconst 0, 1) := by decide +kernel
theorem dX2_sizeOfNet_3 : decode cX2_sizeOfNet 3 = .ok (.istore_n 3, 1) := by decide +kernel
theorem dX2_sizeOfNet_4 : decode cX2_sizeOfNet 4 = .ok (.iload_n 3, 1) := by decide +kernel
theorem dX2_sizeOfNet_5 : decode cX2_sizeOfNet 5 = .ok (.sipush 2880, 3) := by decide +kernel
theorem dX2_sizeOfNet_8 : decode cX2_sizeOfNet 8 = .ok (.if_icmp .ge 24, 3) := by decide +kernel
theorem dX2_sizeOfNet_11 : decode cX2_sizeOfNet 11 = .ok (.aload_n 0, 1) := by decide +kernel
theorem dX2_sizeOfNet_12 : decode cX2_sizeOfNet 12 = .ok (.getfield 9, 3) := by decide +kernel
theorem dX2_sizeOfNet_15 : decode cX2_sizeOfNet 15 = .ok (.iload_n 3, 1) := by decide +kernel
theorem dX2_sizeOfNet_16 : decode cX2_sizeOfNet 16 = .ok (.iaload, 1) := by decide +kernel
theorem dX2_sizeOfNet_17 : decode cX2_sizeOfNet 17 = .ok (.iload_n 1, 1) := by decide +kernel
theorem dX2_sizeOfNet_18 : decode cX2_sizeOfNet 18 = .ok (.iconst 1, 1) := by decide +kernel
theorem dX2_sizeOfNet_19 : decode cX2_sizeOfNet 19 = .ok (.iadd, 1) := by decide +kernel
theorem dX2_sizeOfNet_20 : decode cX2_sizeOfNet 20 = .ok (.if_icmp .ne 6, 3) := by decide +kernel
theorem dX2_sizeOfNet_23 : decode cX2_sizeOfNet 23 = .ok (.iinc 2 1, 3) := by decide +kernel
theorem dX2_sizeOfNet_26 : decode cX2_sizeOfNet 26 = .ok (.iinc 3 1, 3) := by decide +kernel
theorem dX2_sizeOfNet_29 : decode cX2_sizeOfNet 29 = .ok (.goto (-25), 3) := by decide +kernel
theorem dX2_sizeOfNet_32 : decode cX2_sizeOfNet 32 = .ok (.iload_n 2, 1) := by decide +kernel
theorem dX2_sizeOfNet_33 : decode cX2_sizeOfNet 33 = .ok (.ireturn, 1) := by decide +kernel
set_option maxRecDepth 20000 in
theorem ggX2_placesOfNet_X2_isOver : GoodIn wsX2_placesOfNet wsX2_isOver := goodIn_r _ [5, 6, 7, 8, 9] (by decide +kernel) (by decide +kernel)
set_option maxRecDepth 20000 in
theorem gX2_placesOfNet_X2_isOver : GoodIn wsX2_placesOfNet (wsV RX2 43 RX2 yX2_isOver wsX2_isOver) := goodIn_app (goodIn_of _ (by decide +kernel)) ggX2_placesOfNet_X2_isOver
theorem dX2_placesOfNet_0 : decode cX2_placesOfNet 0 = .ok (.iconst 0, 1) := by decide +kernel
theorem dX2_placesOfNet_1 : decode cX2_placesOfNet 1 = .ok (.istore_n 2, 1) := by decide +kernel
theorem dX2_placesOfNet_2 : decode cX2_placesOfNet 2 = .ok (.iconst 0, 1) := by decide +kernel
theorem dX2_placesOfNet_3 : decode cX2_placesOfNet 3 = .ok (.istore_n 3, 1) := by decide +kernel
theorem dX2_placesOfNet_4 : decode cX2_placesOfNet 4 = .ok (.iload_n 3, 1) := by decide +kernel
theorem dX2_placesOfNet_5 : decode cX2_placesOfNet 5 = .ok (.sipush 144, 3) := by decide +kernel
theorem dX2_placesOfNet_8 : decode cX2_placesOfNet 8 = .ok (.if_icmp .ge 21, 3) := by decide +kernel
theorem dX2_placesOfNet_11 : decode cX2_placesOfNet 11 = .ok (.aload_n 0, 1) := by decide +kernel
theorem dX2_placesOfNet_12 : decode cX2_placesOfNet 12 = .ok (.iload_n 3, 1) := by decide +kernel
theorem dX2_placesOfNet_13 : decode cX2_placesOfNet 13 = .ok (.iload_n 1, 1) := by decide +kernel
theorem dX2_placesOfNet_14 : decode cX2_placesOfNet 14 = .ok (.invokevirtual 43, 3) := by decide +kernel
theorem dX2_placesOfNet_17 : decode cX2_placesOfNet 17 = .ok (.ifCond .eq 6, 3) := by decide +kernel
theorem dX2_placesOfNet_20 : decode cX2_placesOfNet 20 = .ok (.iinc 2 1, 3) := by decide +kernel
theorem dX2_placesOfNet_23 : decode cX2_placesOfNet 23 = .ok (.iinc 3 1, 3) := by decide +kernel
theorem dX2_placesOfNet_26 : decode cX2_placesOfNet 26 = .ok (.goto (-22), 3) := by decide +kernel
theorem dX2_placesOfNet_29 : decode cX2_placesOfNet 29 = .ok (.iload_n 2, 1) := by decide +kernel
theorem dX2_placesOfNet_30 : decode cX2_placesOfNet 30 = .ok (.ireturn, 1) := by decide +kernel
theorem dX2_isOver_0 : decode cX2_isOver 0 = .ok (.iload_n 1, 1) := by decide +kernel
theorem dX2_isOver_1 : decode cX2_isOver 1 = .ok (.istore_n 3, 1) := by decide +kernel
theorem dX2_isOver_2 : decode cX2_isOver 2 = .ok (.iload_n 3, 1) := by decide +kernel
theorem dX2_isOver_3 : decode cX2_isOver 3 = .ok (.sipush 2880, 3) := by decide +kernel
theorem dX2_isOver_6 : decode cX2_isOver 6 = .ok (.if_icmp .ge 26, 3) := by decide +kernel
theorem dX2_isOver_9 : decode cX2_isOver 9 = .ok (.aload_n 0, 1) := by decide +kernel
theorem dX2_isOver_10 : decode cX2_isOver 10 = .ok (.getfield 9, 3) := by decide +kernel
theorem dX2_isOver_13 : decode cX2_isOver 13 = .ok (.iload_n 3, 1) := by decide +kernel
theorem dX2_isOver_14 : decode cX2_isOver 14 = .ok (.iaload, 1) := by decide +kernel
theorem dX2_isOver_15 : decode cX2_isOver 15 = .ok (.iload_n 2, 1) := by decide +kernel
theorem dX2_isOver_16 : decode cX2_isOver 16 = .ok (.iconst 1, 1) := by decide +kernel
theorem dX2_isOver_17 : decode cX2_isOver 17 = .ok (.iadd, 1) := by decide +kernel
theorem dX2_isOver_18 : decode cX2_isOver 18 = .ok (.if_icmp .ne 5, 3) := by decide +kernel
theorem dX2_isOver_21 : decode cX2_isOver 21 = .ok (.iconst 1, 1) := by decide +kernel
theorem dX2_isOver_22 : decode cX2_isOver 22 = .ok (.ireturn, 1) := by decide +kernel
theorem dX2_isOver_23 : decode cX2_isOver 23 = .ok (.iinc 3 144, 6) := by decide +kernel
theorem dX2_isOver_29 : decode cX2_isOver 29 = .ok (.goto (-27), 3) := by decide +kernel
theorem dX2_isOver_32 : decode cX2_isOver 32 = .ok (.iconst 0, 1) := by decide +kernel
theorem dX2_isOver_33 : decode cX2_isOver 33 = .ok (.ireturn, 1) := by decide +kernel
set_option maxRecDepth 20000 in
theorem ggX2_addHeight_J7_fill_53178 : GoodIn wsX2_addHeight wsJ7_fill_53178 := goodIn_r _ [6] (by decide +kernel) (by decide +kernel)
set_option maxRecDepth 20000 in
theorem gX2_addHeight_J7_fill_53178 : GoodIn wsX2_addHeight (va_wsS RX2 29 yJ7_fill_53178 wsJ7_fill_53178) := goodIn_app (goodIn_of _ (by decide +kernel)) ggX2_addHeight_J7_fill_53178
set_option maxRecDepth 20000 in
theorem ggX2_addHeight_X11_hasKind : GoodIn wsX2_addHeight wsX11_hasKind := goodIn_r _ [9] (by decide +kernel) (by decide +kernel)
set_option maxRecDepth 20000 in
theorem gX2_addHeight_X11_hasKind_n35 : GoodIn wsX2_addHeight (wsX11_hasKind) := ggX2_addHeight_X11_hasKind
set_option maxRecDepth 20000 in
theorem ggX2_addHeight_X2_add : GoodIn wsX2_addHeight wsX2_add := goodIn_r _ [14, 2, 1, 15, 16, 17, 18] (by decide +kernel) (by decide +kernel)
set_option maxRecDepth 20000 in
theorem gX2_addHeight_X2_add : GoodIn wsX2_addHeight (wsV RX2 39 RX2 yX2_add wsX2_add) := goodIn_app (goodIn_of _ (by decide +kernel)) ggX2_addHeight_X2_add
theorem dX2_addHeight_0 : decode cX2_addHeight 0 = .ok (.aload_n 0, 1) := by decide +kernel
theorem dX2_addHeight_1 : decode cX2_addHeight 1 = .ok (.getfield 9, 3) := by decide +kernel
theorem dX2_addHeight_4 : decode cX2_addHeight 4 = .ok (.iconst 0, 1) := by decide +kernel
theorem dX2_addHeight_5 : decode cX2_addHeight 5 = .ok (.invokestatic 29, 3) := by decide +kernel
theorem dX2_addHeight_8 : decode cX2_addHeight 8 = .ok (.aload_n 0, 1) := by decide +kernel
theorem dX2_addHeight_9 : decode cX2_addHeight 9 = .ok (.iconst 0, 1) := by decide +kernel
theorem dX2_addHeight_10 : decode cX2_addHeight 10 = .ok (.putfield 18, 3) := by decide +kernel
theorem dX2_addHeight_13 : decode cX2_addHeight 13 = .ok (.iconst 0, 1) := by decide +kernel
theorem dX2_addHeight_14 : decode cX2_addHeight 14 = .ok (.istore 4, 2) := by decide +kernel
theorem dX2_addHeight_16 : decode cX2_addHeight 16 = .ok (.iload 4, 2) := by decide +kernel
theorem dX2_addHeight_18 : decode cX2_addHeight 18 = .ok (.sipush 144, 3) := by decide +kernel
theorem dX2_addHeight_21 : decode cX2_addHeight 21 = .ok (.if_icmp .ge 37, 3) := by decide +kernel
theorem dX2_addHeight_24 : decode cX2_addHeight 24 = .ok (.iload_n 3, 1) := by decide +kernel
theorem dX2_addHeight_25 : decode cX2_addHeight 25 = .ok (.sipush 144, 3) := by decide +kernel
theorem dX2_addHeight_28 : decode cX2_addHeight 28 = .ok (.imul, 1) := by decide +kernel
theorem dX2_addHeight_29 : decode cX2_addHeight 29 = .ok (.iload 4, 2) := by decide +kernel
theorem dX2_addHeight_31 : decode cX2_addHeight 31 = .ok (.iadd, 1) := by decide +kernel
theorem dX2_addHeight_32 : decode cX2_addHeight 32 = .ok (.istore 5, 2) := by decide +kernel
theorem dX2_addHeight_34 : decode cX2_addHeight 34 = .ok (.iload_n 2, 1) := by decide +kernel
theorem dX2_addHeight_35 : decode cX2_addHeight 35 = .ok (.aload_n 1, 1) := by decide +kernel
theorem dX2_addHeight_36 : decode cX2_addHeight 36 = .ok (.iload 5, 2) := by decide +kernel
theorem dX2_addHeight_38 : decode cX2_addHeight 38 = .ok (.iaload, 1) := by decide +kernel
theorem dX2_addHeight_39 : decode cX2_addHeight 39 = .ok (.invokestatic 35, 3) := by decide +kernel
theorem dX2_addHeight_42 : decode cX2_addHeight 42 = .ok (.ifCond .eq 10, 3) := by decide +kernel
theorem dX2_addHeight_45 : decode cX2_addHeight 45 = .ok (.aload_n 0, 1) := by decide +kernel
theorem dX2_addHeight_46 : decode cX2_addHeight 46 = .ok (.iload 5, 2) := by decide +kernel
theorem dX2_addHeight_48 : decode cX2_addHeight 48 = .ok (.iconst 1, 1) := by decide +kernel
theorem dX2_addHeight_49 : decode cX2_addHeight 49 = .ok (.invokevirtual 39, 3) := by decide +kernel
theorem dX2_addHeight_52 : decode cX2_addHeight 52 = .ok (.iinc 4 1, 3) := by decide +kernel
theorem dX2_addHeight_55 : decode cX2_addHeight 55 = .ok (.goto (-39), 3) := by decide +kernel
theorem dX2_addHeight_58 : decode cX2_addHeight 58 = .ok (.return_, 1) := by decide +kernel
theorem dX2_add_0 : decode cX2_add 0 = .ok (.aload_n 0, 1) := by decide +kernel
theorem dX2_add_1 : decode cX2_add 1 = .ok (.getfield 18, 3) := by decide +kernel
theorem dX2_add_4 : decode cX2_add 4 = .ok (.sipush 2880, 3) := by decide +kernel
theorem dX2_add_7 : decode cX2_add 7 = .ok (.if_icmp .ge 30, 3) := by decide +kernel
theorem dX2_add_10 : decode cX2_add 10 = .ok (.aload_n 0, 1) := by decide +kernel
theorem dX2_add_11 : decode cX2_add 11 = .ok (.getfield 9, 3) := by decide +kernel
theorem dX2_add_14 : decode cX2_add 14 = .ok (.iload_n 1, 1) := by decide +kernel
theorem dX2_add_15 : decode cX2_add 15 = .ok (.iload_n 2, 1) := by decide +kernel
theorem dX2_add_16 : decode cX2_add 16 = .ok (.iastore, 1) := by decide +kernel
theorem dX2_add_17 : decode cX2_add 17 = .ok (.aload_n 0, 1) := by decide +kernel
theorem dX2_add_18 : decode cX2_add 18 = .ok (.getfield 15, 3) := by decide +kernel
theorem dX2_add_21 : decode cX2_add 21 = .ok (.aload_n 0, 1) := by decide +kernel
theorem dX2_add_22 : decode cX2_add 22 = .ok (.getfield 18, 3) := by decide +kernel
theorem dX2_add_25 : decode cX2_add 25 = .ok (.iload_n 1, 1) := by decide +kernel
theorem dX2_add_26 : decode cX2_add 26 = .ok (.iastore, 1) := by decide +kernel
theorem dX2_add_27 : decode cX2_add 27 = .ok (.aload_n 0, 1) := by decide +kernel
theorem dX2_add_28 : decode cX2_add 28 = .ok (.dup, 1) := by decide +kernel
theorem dX2_add_29 : decode cX2_add 29 = .ok (.getfield 18, 3) := by decide +kernel
theorem dX2_add_32 : decode cX2_add 32 = .ok (.iconst 1, 1) := by decide +kernel
theorem dX2_add_33 : decode cX2_add 33 = .ok (.iadd, 1) := by decide +kernel
theorem dX2_add_34 : decode cX2_add 34 = .ok (.putfield 18, 3) := by decide +kernel
theorem dX2_add_37 : decode cX2_add 37 = .ok (.return_, 1) := by decide +kernel
set_option maxRecDepth 20000 in
theorem ggX2_spread_X11_beside : GoodIn wsX2_spread wsX11_beside := goodIn_r _ [6] (by decide +kernel) (by decide +kernel)
set_option maxRecDepth 20000 in
theorem gX2_spread_X11_beside_n46 : GoodIn wsX2_spread (wsX11_beside) := ggX2_spread_X11_beside
set_option maxRecDepth 20000 in
theorem ggX2_spread_X11_hasKind : GoodIn wsX2_spread wsX11_hasKind := goodIn_r _ [8] (by decide +kernel) (by decide +kernel)
set_option maxRecDepth 20000 in
theorem gX2_spread_X11_hasKind_n35 : GoodIn wsX2_spread (wsX11_hasKind) := ggX2_spread_X11_hasKind
set_option maxRecDepth 20000 in
theorem ggX2_spread_X2_add : GoodIn wsX2_spread wsX2_add := goodIn_r _ [13, 1, 3, 2, 14, 15, 16] (by decide +kernel) (by decide +kernel)
set_option maxRecDepth 20000 in
theorem gX2_spread_X2_add : GoodIn wsX2_spread (wsV RX2 39 RX2 yX2_add wsX2_add) := goodIn_app (goodIn_of _ (by decide +kernel)) ggX2_spread_X2_add
theorem dX2_spread_0 : decode cX2_spread 0 = .ok (.iconst 0, 1) := by decide +kernel
theorem dX2_spread_1 : decode cX2_spread 1 = .ok (.istore 4, 2) := by decide +kernel
theorem dX2_spread_3 : decode cX2_spread 3 = .ok (.iload 4, 2) := by decide +kernel
theorem dX2_spread_5 : decode cX2_spread 5 = .ok (.aload_n 0, 1) := by decide +kernel
theorem dX2_spread_6 : decode cX2_spread 6 = .ok (.getfield 18, 3) := by decide +kernel
theorem dX2_spread_9 : decode cX2_spread 9 = .ok (.if_icmp .ge 81, 3) := by decide +kernel
theorem dX2_spread_12 : decode cX2_spread 12 = .ok (.iload 4, 2) := by decide +kernel
theorem dX2_spread_14 : decode cX2_spread 14 = .ok (.sipush 2880, 3) := by decide +kernel
theorem dX2_spread_17 : decode cX2_spread 17 = .ok (.if_icmp .ge 73, 3) := by decide +kernel
theorem dX2_spread_20 : decode cX2_spread 20 = .ok (.iconst 0, 1) := by decide +kernel
theorem dX2_spread_21 : decode cX2_spread 21 = .ok (.istore 5, 2) := by decide +kernel
theorem dX2_spread_23 : decode cX2_spread 23 = .ok (.iload 5, 2) := by decide +kernel
theorem dX2_spread_25 : decode cX2_spread 25 = .ok (.bipush 6, 2) := by decide +kernel
theorem dX2_spread_27 : decode cX2_spread 27 = .ok (.if_icmp .ge 57, 3) := by decide +kernel
theorem dX2_spread_30 : decode cX2_spread 30 = .ok (.aload_n 0, 1) := by decide +kernel
theorem dX2_spread_31 : decode cX2_spread 31 = .ok (.getfield 15, 3) := by decide +kernel
theorem dX2_spread_34 : decode cX2_spread 34 = .ok (.iload 4, 2) := by decide +kernel
theorem dX2_spread_36 : decode cX2_spread 36 = .ok (.iaload, 1) := by decide +kernel
theorem dX2_spread_37 : decode cX2_spread 37 = .ok (.iload 5, 2) := by decide +kernel
theorem dX2_spread_39 : decode cX2_spread 39 = .ok (.invokestatic 46, 3) := by decide +kernel
theorem dX2_spread_42 : decode cX2_spread 42 = .ok (.istore 6, 2) := by decide +kernel
theorem dX2_spread_44 : decode cX2_spread 44 = .ok (.iload 6, 2) := by decide +kernel
theorem dX2_spread_46 : decode cX2_spread 46 = .ok (.iconst (-1), 1) := by decide +kernel
theorem dX2_spread_47 : decode cX2_spread 47 = .ok (.if_icmp .eq 31, 3) := by decide +kernel
theorem dX2_spread_50 : decode cX2_spread 50 = .ok (.aload_n 0, 1) := by decide +kernel
theorem dX2_spread_51 : decode cX2_spread 51 = .ok (.getfield 9, 3) := by decide +kernel
theorem dX2_spread_54 : decode cX2_spread 54 = .ok (.iload 6, 2) := by decide +kernel
theorem dX2_spread_56 : decode cX2_spread 56 = .ok (.iaload, 1) := by decide +kernel
theorem dX2_spread_57 : decode cX2_spread 57 = .ok (.ifCond .ne 21, 3) := by decide +kernel
theorem dX2_spread_60 : decode cX2_spread 60 = .ok (.iload_n 2, 1) := by decide +kernel
theorem dX2_spread_61 : decode cX2_spread 61 = .ok (.aload_n 1, 1) := by decide +kernel
theorem dX2_spread_62 : decode cX2_spread 62 = .ok (.iload 6, 2) := by decide +kernel
theorem dX2_spread_64 : decode cX2_spread 64 = .ok (.iaload, 1) := by decide +kernel
theorem dX2_spread_65 : decode cX2_spread 65 = .ok (.invokestatic 35, 3) := by decide +kernel
theorem dX2_spread_68 : decode cX2_spread 68 = .ok (.ifCond .eq 10, 3) := by decide +kernel
theorem dX2_spread_71 : decode cX2_spread 71 = .ok (.aload_n 0, 1) := by decide +kernel
theorem dX2_spread_72 : decode cX2_spread 72 = .ok (.iload 6, 2) := by decide +kernel
theorem dX2_spread_74 : decode cX2_spread 74 = .ok (.iload_n 3, 1) := by decide +kernel
theorem dX2_spread_75 : decode cX2_spread 75 = .ok (.invokevirtual 39, 3) := by decide +kernel
theorem dX2_spread_78 : decode cX2_spread 78 = .ok (.iinc 5 1, 3) := by decide +kernel
theorem dX2_spread_81 : decode cX2_spread 81 = .ok (.goto (-58), 3) := by decide +kernel
theorem dX2_spread_84 : decode cX2_spread 84 = .ok (.iinc 4 1, 3) := by decide +kernel
theorem dX2_spread_87 : decode cX2_spread 87 = .ok (.goto (-84), 3) := by decide +kernel
theorem dX2_spread_90 : decode cX2_spread 90 = .ok (.return_, 1) := by decide +kernel
theorem dX3_init_0 : decode cX3_init 0 = .ok (.aload_n 0, 1) := by decide +kernel
theorem dX3_init_1 : decode cX3_init 1 = .ok (.invokespecial 3, 3) := by decide +kernel
theorem dX3_init_4 : decode cX3_init 4 = .ok (.aload_n 0, 1) := by decide +kernel
theorem dX3_init_5 : decode cX3_init 5 = .ok (.bipush 7, 2) := by decide +kernel
theorem dX3_init_7 : decode cX3_init 7 = .ok (.sipush 2880, 3) := by decide +kernel
theorem dX3_init_10 : decode cX3_init 10 = .ok (.multianewarray 11 2, 4) := by decide +kernel
theorem dX3_init_14 : decode cX3_init 14 = .ok (.putfield 13, 3) := by decide +kernel
theorem dX3_init_17 : decode cX3_init 17 = .ok (.aload_n 0, 1) := by decide +kernel
theorem dX3_init_18 : decode cX3_init 18 = .ok (.iconst 0, 1) := by decide +kernel
theorem dX3_init_19 : decode cX3_init 19 = .ok (.putfield 16, 3) := by decide +kernel
theorem dX3_init_22 : decode cX3_init 22 = .ok (.aload_n 0, 1) := by decide +kernel
theorem dX3_init_23 : decode cX3_init 23 = .ok (.iconst 0, 1) := by decide +kernel
theorem dX3_init_24 : decode cX3_init 24 = .ok (.putfield 20, 3) := by decide +kernel
theorem dX3_init_27 : decode cX3_init 27 = .ok (.return_, 1) := by decide +kernel
theorem dX3_note_0 : decode cX3_note 0 = .ok (.aload_n 1, 1) := by decide +kernel
theorem dX3_note_1 : decode cX3_note 1 = .ok (.iconst 0, 1) := by decide +kernel
theorem dX3_note_2 : decode cX3_note 2 = .ok (.aload_n 0, 1) := by decide +kernel
theorem dX3_note_3 : decode cX3_note 3 = .ok (.getfield 13, 3) := by decide +kernel
theorem dX3_note_6 : decode cX3_note 6 = .ok (.aload_n 0, 1) := by decide +kernel
theorem dX3_note_7 : decode cX3_note 7 = .ok (.getfield 16, 3) := by decide +kernel
theorem dX3_note_10 : decode cX3_note 10 = .ok (.aaload, 1) := by decide +kernel
theorem dX3_note_11 : decode cX3_note 11 = .ok (.iconst 0, 1) := by decide +kernel
theorem dX3_note_12 : decode cX3_note 12 = .ok (.sipush 2880, 3) := by decide +kernel
theorem dX3_note_15 : decode cX3_note 15 = .ok (.invokestatic 23, 3) := by decide +kernel
theorem dX3_note_18 : decode cX3_note 18 = .ok (.return_, 1) := by decide +kernel
theorem dX3_bringBack_0 : decode cX3_bringBack 0 = .ok (.aload_n 0, 1) := by decide +kernel
theorem dX3_bringBack_1 : decode cX3_bringBack 1 = .ok (.getfield 13, 3) := by decide +kernel
theorem dX3_bringBack_4 : decode cX3_bringBack 4 = .ok (.aload_n 0, 1) := by decide +kernel
theorem dX3_bringBack_5 : decode cX3_bringBack 5 = .ok (.getfield 16, 3) := by decide +kernel
theorem dX3_bringBack_8 : decode cX3_bringBack 8 = .ok (.aaload, 1) := by decide +kernel
theorem dX3_bringBack_9 : decode cX3_bringBack 9 = .ok (.iconst 0, 1) := by decide +kernel
theorem dX3_bringBack_10 : decode cX3_bringBack 10 = .ok (.aload_n 1, 1) := by decide +kernel
theorem dX3_bringBack_11 : decode cX3_bringBack 11 = .ok (.iconst 0, 1) := by decide +kernel
theorem dX3_bringBack_12 : decode cX3_bringBack 12 = .ok (.sipush 2880, 3) := by decide +kernel
theorem dX3_bringBack_15 : decode cX3_bringBack 15 = .ok (.invokestatic 23, 3) := by decide +kernel
theorem dX3_bringBack_18 : decode cX3_bringBack 18 = .ok (.return_, 1) := by decide +kernel
theorem dX3_keepNoted_0 : decode cX3_keepNoted 0 = .ok (.aload_n 0, 1) := by decide +kernel
theorem dX3_keepNoted_1 : decode cX3_keepNoted 1 = .ok (.aload_n 0, 1) := by decide +kernel
theorem dX3_keepNoted_2 : decode cX3_keepNoted 2 = .ok (.getfield 16, 3) := by decide +kernel
theorem dX3_keepNoted_5 : decode cX3_keepNoted 5 = .ok (.iconst 1, 1) := by decide +kernel
theorem dX3_keepNoted_6 : decode cX3_keepNoted 6 = .ok (.iadd, 1) := by decide +kernel
theorem dX3_keepNoted_7 : decode cX3_keepNoted 7 = .ok (.bipush 7, 2) := by decide +kernel
theorem dX3_keepNoted_9 : decode cX3_keepNoted 9 = .ok (.irem, 1) := by decide +kernel
theorem dX3_keepNoted_10 : decode cX3_keepNoted 10 = .ok (.putfield 16, 3) := by decide +kernel
theorem dX3_keepNoted_13 : decode cX3_keepNoted 13 = .ok (.aload_n 0, 1) := by decide +kernel
theorem dX3_keepNoted_14 : decode cX3_keepNoted 14 = .ok (.bipush 6, 2) := by decide +kernel
theorem dX3_keepNoted_16 : decode cX3_keepNoted 16 = .ok (.aload_n 0, 1) := by decide +kernel
theorem dX3_keepNoted_17 : decode cX3_keepNoted 17 = .ok (.getfield 20, 3) := by decide +kernel
theorem dX3_keepNoted_20 : decode cX3_keepNoted 20 = .ok (.iconst 1, 1) := by decide +kernel
theorem dX3_keepNoted_21 : decode cX3_keepNoted 21 = .ok (.iadd, 1) := by decide +kernel
theorem dX3_keepNoted_22 : decode cX3_keepNoted 22 = .ok (.invokestatic 29, 3) := by decide +kernel
theorem dX3_keepNoted_25 : decode cX3_keepNoted 25 = .ok (.putfield 20, 3) := by decide +kernel
theorem dX3_keepNoted_28 : decode cX3_keepNoted 28 = .ok (.return_, 1) := by decide +kernel
theorem dX3_stepBack_0 : decode cX3_stepBack 0 = .ok (.aload_n 0, 1) := by decide +kernel
theorem dX3_stepBack_1 : decode cX3_stepBack 1 = .ok (.getfield 20, 3) := by decide +kernel
theorem dX3_stepBack_4 : decode cX3_stepBack 4 = .ok (.ifCond .ne 5, 3) := by decide +kernel
theorem dX3_stepBack_7 : decode cX3_stepBack 7 = .ok (.iconst 0, 1) := by decide +kernel
theorem dX3_stepBack_8 : decode cX3_stepBack 8 = .ok (.ireturn, 1) := by decide +kernel
theorem dX3_stepBack_9 : decode cX3_stepBack 9 = .ok (.aload_n 0, 1) := by decide +kernel
theorem dX3_stepBack_10 : decode cX3_stepBack 10 = .ok (.dup, 1) := by decide +kernel
theorem dX3_stepBack_11 : decode cX3_stepBack 11 = .ok (.getfield 20, 3) := by decide +kernel
theorem dX3_stepBack_14 : decode cX3_stepBack 14 = .ok (.iconst 1, 1) := by decide +kernel
theorem dX3_stepBack_15 : decode cX3_stepBack 15 = .ok (.isub, 1) := by decide +kernel
theorem dX3_stepBack_16 : decode cX3_stepBack 16 = .ok (.putfield 20, 3) := by decide +kernel
theorem dX3_stepBack_19 : decode cX3_stepBack 19 = .ok (.aload_n 0, 1) := by decide +kernel
theorem dX3_stepBack_20 : decode cX3_stepBack 20 = .ok (.aload_n 0, 1) := by decide +kernel
theorem dX3_stepBack_21 : decode cX3_stepBack 21 = .ok (.getfield 16, 3) := by decide +kernel
theorem dX3_stepBack_24 : decode cX3_stepBack 24 = .ok (.bipush 7, 2) := by decide +kernel
theorem dX3_stepBack_26 : decode cX3_stepBack 26 = .ok (.iadd, 1) := by decide +kernel
theorem dX3_stepBack_27 : decode cX3_stepBack 27 = .ok (.iconst 1, 1) := by decide +kernel
theorem dX3_stepBack_28 : decode cX3_stepBack 28 = .ok (.isub, 1) := by decide +kernel
theorem dX3_stepBack_29 : decode cX3_stepBack 29 = .ok (.bipush 7, 2) := by decide +kernel
theorem dX3_stepBack_31 : decode cX3_stepBack 31 = .ok (.irem, 1) := by decide +kernel
theorem dX3_stepBack_32 : decode cX3_stepBack 32 = .ok (.putfield 16, 3) := by decide +kernel
theorem dX3_stepBack_35 : decode cX3_stepBack 35 = .ok (.iconst 1, 1) := by decide +kernel
theorem dX3_stepBack_36 : decode cX3_stepBack 36 = .ok (.ireturn, 1) := by decide +kernel
theorem dX4_init_0 : decode cX4_init 0 = .ok (.aload_n 0, 1) := by decide +kernel
theorem dX4_init_1 : decode cX4_init 1 = .ok (.invokespecial 3, 3) := by decide +kernel
theorem dX4_init_4 : decode cX4_init 4 = .ok (.aload_n 0, 1) := by decide +kernel
theorem dX4_init_5 : decode cX4_init 5 = .ok (.sipush 1152, 3) := by decide +kernel
theorem dX4_init_8 : decode cX4_init 8 = .ok (.newarray .boolean, 2) := by decide +kernel
theorem dX4_init_10 : decode cX4_init 10 = .ok (.putfield 9, 3) := by decide +kernel
theorem dX4_init_13 : decode cX4_init 13 = .ok (.return_, 1) := by decide +kernel
theorem dX4_has_0 : decode cX4_has 0 = .ok (.aload_n 0, 1) := by decide +kernel
theorem dX4_has_1 : decode cX4_has 1 = .ok (.getfield 9, 3) := by decide +kernel
theorem dX4_has_4 : decode cX4_has 4 = .ok (.iload_n 1, 1) := by decide +kernel
theorem dX4_has_5 : decode cX4_has 5 = .ok (.sipush 144, 3) := by decide +kernel
theorem dX4_has_8 : decode cX4_has 8 = .ok (.imul, 1) := by decide +kernel
theorem dX4_has_9 : decode cX4_has 9 = .ok (.iload_n 2, 1) := by decide +kernel
theorem dX4_has_10 : decode cX4_has 10 = .ok (.iadd, 1) := by decide +kernel
theorem dX4_has_11 : decode cX4_has 11 = .ok (.baload, 1) := by decide +kernel
theorem dX4_has_12 : decode cX4_has 12 = .ok (.ireturn, 1) := by decide +kernel
theorem dX4_put_0 : decode cX4_put 0 = .ok (.aload_n 0, 1) := by decide +kernel
theorem dX4_put_1 : decode cX4_put 1 = .ok (.getfield 9, 3) := by decide +kernel
theorem dX4_put_4 : decode cX4_put 4 = .ok (.iload_n 1, 1) := by decide +kernel
theorem dX4_put_5 : decode cX4_put 5 = .ok (.sipush 144, 3) := by decide +kernel
theorem dX4_put_8 : decode cX4_put 8 = .ok (.imul, 1) := by decide +kernel
theorem dX4_put_9 : decode cX4_put 9 = .ok (.iload_n 2, 1) := by decide +kernel
theorem dX4_put_10 : decode cX4_put 10 = .ok (.iadd, 1) := by decide +kernel
theorem dX4_put_11 : decode cX4_put 11 = .ok (.iload_n 3, 1) := by decide +kernel
theorem dX4_put_12 : decode cX4_put 12 = .ok (.bastore, 1) := by decide +kernel
theorem dX4_put_13 : decode cX4_put 13 = .ok (.return_, 1) := by decide +kernel
set_option maxRecDepth 20000 in
theorem ggX4_size_X4_has : GoodIn wsX4_size wsX4_has := goodIn_r _ [5, 6, 7] (by decide +kernel) (by decide +kernel)
set_option maxRecDepth 20000 in
theorem gX4_size_X4_has : GoodIn wsX4_size (wsV RX4 15 RX4 yX4_has wsX4_has) := goodIn_app (goodIn_of _ (by decide +kernel)) ggX4_size_X4_has
theorem dX4_size_0 : decode cX4_size 0 = .ok (.iconst 0, 1) := by decide +kernel
theorem dX4_size_1 : decode cX4_size 1 = .ok (.istore_n 2, 1) := by decide +kernel
theorem dX4_size_2 : decode cX4_size 2 = .ok (.iconst 0, 1) := by decide +kernel
theorem dX4_size_3 : decode cX4_size 3 = .ok (.istore_n 3, 1) := by decide +kernel
theorem dX4_size_4 : decode cX4_size 4 = .ok (.iload_n 3, 1) := by decide +kernel
theorem dX4_size_5 : decode cX4_size 5 = .ok (.sipush 144, 3) := by decide +kernel
theorem dX4_size_8 : decode cX4_size 8 = .ok (.if_icmp .ge 21, 3) := by decide +kernel
theorem dX4_size_11 : decode cX4_size 11 = .ok (.aload_n 0, 1) := by decide +kernel
theorem dX4_size_12 : decode cX4_size 12 = .ok (.iload_n 1, 1) := by decide +kernel
theorem dX4_size_13 : decode cX4_size 13 = .ok (.iload_n 3, 1) := by decide +kernel
theorem dX4_size_14 : decode cX4_size 14 = .ok (.invokevirtual 15, 3) := by decide +kernel
theorem dX4_size_17 : decode cX4_size 17 = .ok (.ifCond .eq 6, 3) := by decide +kernel
theorem dX4_size_20 : decode cX4_size 20 = .ok (.iinc 2 1, 3) := by decide +kernel
theorem dX4_size_23 : decode cX4_size 23 = .ok (.iinc 3 1, 3) := by decide +kernel
theorem dX4_size_26 : decode cX4_size 26 = .ok (.goto (-22), 3) := by decide +kernel
theorem dX4_size_29 : decode cX4_size 29 = .ok (.iload_n 2, 1) := by decide +kernel
theorem dX4_size_30 : decode cX4_size 30 = .ok (.ireturn, 1) := by decide +kernel
set_option maxRecDepth 20000 in
theorem ggX5_init_X7_init : GoodIn wsX5_init wsX7_init := goodIn_r _ [13, 14, 2, 3, 15, 16, 17, 18, 19, 20, 21, 22, 27, 28, 29, 30, 31, 32, 33, 34] (by decide +kernel) (by decide +kernel)
set_option maxRecDepth 20000 in
theorem gX5_init_X7_init_n28 : GoodIn wsX5_init (wsX7_init) := ggX5_init_X7_init
theorem dX5_init_0 : decode cX5_init 0 = .ok (.aload_n 0, 1) := by decide +kernel
theorem dX5_init_1 : decode cX5_init 1 = .ok (.invokespecial 3, 3) := by decide +kernel
theorem dX5_init_4 : decode cX5_init 4 = .ok (.aload_n 0, 1) := by decide +kernel
theorem dX5_init_5 : decode cX5_init 5 = .ok (.bipush 60, 2) := by decide +kernel
theorem dX5_init_7 : decode cX5_init 7 = .ok (.anewarray 9, 3) := by decide +kernel
theorem dX5_init_10 : decode cX5_init 10 = .ok (.putfield 11, 3) := by decide +kernel
theorem dX5_init_13 : decode cX5_init 13 = .ok (.aload_n 0, 1) := by decide +kernel
theorem dX5_init_14 : decode cX5_init 14 = .ok (.iconst 4, 1) := by decide +kernel
theorem dX5_init_15 : decode cX5_init 15 = .ok (.newarray .int, 2) := by decide +kernel
theorem dX5_init_17 : decode cX5_init 17 = .ok (.putfield 17, 3) := by decide +kernel
theorem dX5_init_20 : decode cX5_init 20 = .ok (.aload_n 0, 1) := by decide +kernel
theorem dX5_init_21 : decode cX5_init 21 = .ok (.iconst 0, 1) := by decide +kernel
theorem dX5_init_22 : decode cX5_init 22 = .ok (.putfield 21, 3) := by decide +kernel
theorem dX5_init_25 : decode cX5_init 25 = .ok (.aload_n 0, 1) := by decide +kernel
theorem dX5_init_26 : decode cX5_init 26 = .ok (.iconst 0, 1) := by decide +kernel
theorem dX5_init_27 : decode cX5_init 27 = .ok (.putfield 25, 3) := by decide +kernel
theorem dX5_init_30 : decode cX5_init 30 = .ok (.iconst 0, 1) := by decide +kernel
theorem dX5_init_31 : decode cX5_init 31 = .ok (.istore_n 1, 1) := by decide +kernel
theorem dX5_init_32 : decode cX5_init 32 = .ok (.iload_n 1, 1) := by decide +kernel
theorem dX5_init_33 : decode cX5_init 33 = .ok (.bipush 60, 2) := by decide +kernel
theorem dX5_init_35 : decode cX5_init 35 = .ok (.if_icmp .ge 22, 3) := by decide +kernel
theorem dX5_init_38 : decode cX5_init 38 = .ok (.aload_n 0, 1) := by decide +kernel
theorem dX5_init_39 : decode cX5_init 39 = .ok (.getfield 11, 3) := by decide +kernel
theorem dX5_init_42 : decode cX5_init 42 = .ok (.iload_n 1, 1) := by decide +kernel
theorem dX5_init_43 : decode cX5_init 43 = .ok (.new 9, 3) := by decide +kernel
theorem dX5_init_46 : decode cX5_init 46 = .ok (.dup, 1) := by decide +kernel
theorem dX5_init_47 : decode cX5_init 47 = .ok (.invokespecial 28, 3) := by decide +kernel
theorem dX5_init_50 : decode cX5_init 50 = .ok (.aastore, 1) := by decide +kernel
theorem dX5_init_51 : decode cX5_init 51 = .ok (.iinc 1 1, 3) := by decide +kernel
theorem dX5_init_54 : decode cX5_init 54 = .ok (.goto (-22), 3) := by decide +kernel
theorem dX5_init_57 : decode cX5_init 57 = .ok (.return_, 1) := by decide +kernel
set_option maxRecDepth 20000 in
theorem ggX5_read_X9_begin : GoodIn wsX5_read wsX9_begin := goodIn_r _ [7, 8, 9, 10, 11, 6, 12, 13, 14, 15, 16, 17, 18, 19, 20, 21, 22, 23, 24, 148, 149, 150, 151, 152, 153] (by decide +kernel) (by decide +kernel)
set_option maxRecDepth 20000 in
theorem gX5_read_X9_begin : GoodIn wsX5_read (wsV RX5 29 RX9 yX9_begin wsX9_begin) := goodIn_app (goodIn_of _ (by decide +kernel)) ggX5_read_X9_begin
set_option maxRecDepth 20000 in
theorem ggX5_read_X9_isAtEnd : GoodIn wsX5_read wsX9_isAtEnd := goodIn_r _ [28, 15, 148, 149, 150, 151] (by decide +kernel) (by decide +kernel)
set_option maxRecDepth 20000 in
theorem gX5_read_X9_isAtEnd : GoodIn wsX5_read (wsV RX5 34 RX9 yX9_isAtEnd wsX9_isAtEnd) := goodIn_app (goodIn_of _ (by decide +kernel)) ggX5_read_X9_isAtEnd
set_option maxRecDepth 20000 in
theorem ggX5_read_X9_isSign : GoodIn wsX5_read wsX9_isSign := goodIn_r _ [32, 15, 14, 13, 148, 149, 150, 151, 152, 153] (by decide +kernel) (by decide +kernel)
set_option maxRecDepth 20000 in
theorem gX5_read_X9_isSign : GoodIn wsX5_read (wsV RX5 38 RX9 yX9_isSign wsX9_isSign) := goodIn_app (goodIn_of _ (by decide +kernel)) ggX5_read_X9_isSign
set_option maxRecDepth 20000 in
theorem ggX5_read_X5_endRepeat : GoodIn wsX5_read wsX5_endRepeat := goodIn_r _ [37, 2, 38, 39, 1, 40, 10, 11, 6, 12, 8, 13, 14, 15, 16, 17, 18, 19, 20, 21, 22, 23, 24, 29, 30, 31, 32, 144, 145, 146, 147, 154, 155, 156, 157, 158, 159, 160, 161, 148, 149, 150, 151, 152, 153] (by decide +kernel) (by decide +kernel)
set_option maxRecDepth 20000 in
theorem gX5_read_X5_endRepeat : GoodIn wsX5_read (wsV RX5 42 RX5 yX5_endRepeat wsX5_endRepeat) := goodIn_app (goodIn_of _ (by decide +kernel)) ggX5_read_X5_endRepeat
set_option maxRecDepth 20000 in
theorem ggX5_read_X5_readStep : GoodIn wsX5_read wsX5_readStep := goodIn_r _ [44, 2, 1, 38, 39, 45, 46, 47, 6, 48, 49, 23, 50, 51, 52, 53, 54, 15, 8, 13, 14, 55, 56, 57, 58, 59, 60, 61, 62, 63, 64, 65, 66, 67, 68, 69, 70, 71, 72, 73, 74, 75, 76, 77, 78, 79, 80, 81, 82, 83, 84, 85, 86, 87, 88, 89, 90, 91, 92, 93, 94, 95, 96, 97, 98, 99, 100, 101, 102, 103, 40, 10, 11, 12, 16, 17, 18, 19, 20, 21, 22, 24, 104, 105, 106, 107, 36, 108, 109, 110, 111, 112, 113, 114, 115, 116, 117, 118, 119, 120, 121, 122, 123, 124, 125, 126, 127, 128, 129, 130, 131, 132, 29, 30, 31, 32, 133, 134, 135, 136, 137, 138, 139, 140, 141, 142, 143, 144, 145, 146, 147, 154, 155, 156, 157, 158, 159, 160, 161, 148, 149, 150, 151, 152, 153] (by decide +kernel) (by decide +kernel)
set_option maxRecDepth 20000 in
theorem gX5_read_X5_readStep : GoodIn wsX5_read (wsV RX5 46 RX5 yX5_readStep wsX5_readStep) := goodIn_app (goodIn_of _ (by decide +kernel)) ggX5_read_X5_readStep
theorem dX5_read_0 : decode cX5_read 0 = .ok (.aload_n 0, 1) := by decide +kernel
theorem dX5_read_1 : decode cX5_read 1 = .ok (.iconst 0, 1) := by decide +kernel
theorem dX5_read_2 : decode cX5_read 2 = .ok (.putfield 21, 3) := by decide +kernel
theorem dX5_read_5 : decode cX5_read 5 = .ok (.aload_n 0, 1) := by decide +kernel
theorem dX5_read_6 : decode cX5_read 6 = .ok (.iconst 0, 1) := by decide +kernel
theorem dX5_read_7 : decode cX5_read 7 = .ok (.putfield 25, 3) := by decide +kernel
theorem dX5_read_10 : decode cX5_read 10 = .ok (.aload_n 1, 1) := by decide +kernel
theorem dX5_read_11 : decode cX5_read 11 = .ok (.invokevirtual 29, 3) := by decide +kernel
theorem dX5_read_14 : decode cX5_read 14 = .ok (.iconst 0, 1) := by decide +kernel
theorem dX5_read_15 : decode cX5_read 15 = .ok (.istore_n 2, 1) := by decide +kernel
theorem dX5_read_16 : decode cX5_read 16 = .ok (.iconst 0, 1) := by decide +kernel
theorem dX5_read_17 : decode cX5_read 17 = .ok (.istore_n 3, 1) := by decide +kernel
theorem dX5_read_18 : decode cX5_read 18 = .ok (.iload_n 3, 1) := by decide +kernel
theorem dX5_read_19 : decode cX5_read 19 = .ok (.sipush 600, 3) := by decide +kernel
theorem dX5_read_22 : decode cX5_read 22 = .ok (.if_icmp .gt 50, 3) := by decide +kernel
theorem dX5_read_25 : decode cX5_read 25 = .ok (.iload_n 2, 1) := by decide +kernel
theorem dX5_read_26 : decode cX5_read 26 = .ok (.ifCond .ne 46, 3) := by decide +kernel
theorem dX5_read_29 : decode cX5_read 29 = .ok (.aload_n 1, 1) := by decide +kernel
theorem dX5_read_30 : decode cX5_read 30 = .ok (.invokevirtual 34, 3) := by decide +kernel
theorem dX5_read_33 : decode cX5_read 33 = .ok (.ifCond .ne 39, 3) := by decide +kernel
theorem dX5_read_36 : decode cX5_read 36 = .ok (.aload_n 0, 1) := by decide +kernel
theorem dX5_read_37 : decode cX5_read 37 = .ok (.getfield 25, 3) := by decide +kernel
theorem dX5_read_40 : decode cX5_read 40 = .ok (.ifCond .le 20, 3) := by decide +kernel
theorem dX5_read_43 : decode cX5_read 43 = .ok (.aload_n 1, 1) := by decide +kernel
theorem dX5_read_44 : decode cX5_read 44 = .ok (.bipush 125, 2) := by decide +kernel
theorem dX5_read_46 : decode cX5_read 46 = .ok (.invokevirtual 38, 3) := by decide +kernel
theorem dX5_read_49 : decode cX5_read 49 = .ok (.ifCond .eq 11, 3) := by decide +kernel
theorem dX5_read_52 : decode cX5_read 52 = .ok (.aload_n 0, 1) := by decide +kernel
theorem dX5_read_53 : decode cX5_read 53 = .ok (.aload_n 1, 1) := by decide +kernel
theorem dX5_read_54 : decode cX5_read 54 = .ok (.invokevirtual 42, 3) := by decide +kernel
theorem dX5_read_57 : decode cX5_read 57 = .ok (.goto 8, 3) := by decide +kernel
theorem dX5_read_60 : decode cX5_read 60 = .ok (.aload_n 0, 1) := by decide +kernel
theorem dX5_read_61 : decode cX5_read 61 = .ok (.aload_n 1, 1) := by decide +kernel
theorem dX5_read_62 : decode cX5_read 62 = .ok (.invokevirtual 46, 3) := by decide +kernel
theorem dX5_read_65 : decode cX5_read 65 = .ok (.istore_n 2, 1) := by decide +kernel
theorem dX5_read_66 : decode cX5_read 66 = .ok (.iinc 3 1, 3) := by decide +kernel
theorem dX5_read_69 : decode cX5_read 69 = .ok (.goto (-51), 3) := by decide +kernel
theorem dX5_read_72 : decode cX5_read 72 = .ok (.iload_n 2, 1) := by decide +kernel
theorem dX5_read_73 : decode cX5_read 73 = .ok (.ifCond .ne 14, 3) := by decide +kernel
theorem dX5_read_76 : decode cX5_read 76 = .ok (.aload_n 0, 1) := by decide +kernel
theorem dX5_read_77 : decode cX5_read 77 = .ok (.getfield 25, 3) := by decide +kernel
theorem dX5_read_80 : decode cX5_read 80 = .ok (.ifCond .le 7, 3) := by decide +kernel
theorem dX5_read_83 : decode cX5_read 83 = .ok (.iconst 1, 1) := by decide +kernel
theorem dX5_read_84 : decode cX5_read 84 = .ok (.goto 4, 3) := by decide +kernel
theorem dX5_read_87 : decode cX5_read 87 = .ok (.iload_n 2, 1) := by decide +kernel
theorem dX5_read_88 : decode cX5_read 88 = .ok (.ireturn, 1) := by decide +kernel
set_option maxRecDepth 20000 in
theorem ggX5_endRepeat_X9_next : GoodIn wsX5_endRepeat wsX9_next := goodIn_r _ [9, 10, 11, 12, 13, 14, 15, 8, 16, 17, 18, 19, 20, 21, 22, 39, 40, 41, 42, 43, 44] (by decide +kernel) (by decide +kernel)
set_option maxRecDepth 20000 in
theorem gX5_endRepeat_X9_next : GoodIn wsX5_endRepeat (wsV RX5 52 RX9 yX9_next wsX9_next) := goodIn_app (goodIn_of _ (by decide +kernel)) ggX5_endRepeat_X9_next
set_option maxRecDepth 20000 in
theorem ggX5_endRepeat_X9_isSign : GoodIn wsX5_endRepeat wsX9_isSign := goodIn_r _ [26, 13, 12, 11, 39, 40, 41, 42, 43, 44] (by decide +kernel) (by decide +kernel)
set_option maxRecDepth 20000 in
theorem gX5_endRepeat_X9_isSign : GoodIn wsX5_endRepeat (wsV RX5 38 RX9 yX9_isSign wsX9_isSign) := goodIn_app (goodIn_of _ (by decide +kernel)) ggX5_endRepeat_X9_isSign
theorem dX5_endRepeat_0 : decode cX5_endRepeat 0 = .ok (.aload_n 0, 1) := by decide +kernel
theorem dX5_endRepeat_1 : decode cX5_endRepeat 1 = .ok (.dup, 1) := by decide +kernel
theorem dX5_endRepeat_2 : decode cX5_endRepeat 2 = .ok (.getfield 25, 3) := by decide +kernel
theorem dX5_endRepeat_5 : decode cX5_endRepeat 5 = .ok (.iconst 1, 1) := by decide +kernel
theorem dX5_endRepeat_6 : decode cX5_endRepeat 6 = .ok (.isub, 1) := by decide +kernel
theorem dX5_endRepeat_7 : decode cX5_endRepeat 7 = .ok (.putfield 25, 3) := by decide +kernel
theorem dX5_endRepeat_10 : decode cX5_endRepeat 10 = .ok (.aload_n 0, 1) := by decide +kernel
theorem dX5_endRepeat_11 : decode cX5_endRepeat 11 = .ok (.getfield 11, 3) := by decide +kernel
theorem dX5_endRepeat_14 : decode cX5_endRepeat 14 = .ok (.aload_n 0, 1) := by decide +kernel
theorem dX5_endRepeat_15 : decode cX5_endRepeat 15 = .ok (.getfield 17, 3) := by decide +kernel
theorem dX5_endRepeat_18 : decode cX5_endRepeat 18 = .ok (.aload_n 0, 1) := by decide +kernel
theorem dX5_endRepeat_19 : decode cX5_endRepeat 19 = .ok (.getfield 25, 3) := by decide +kernel
theorem dX5_endRepeat_22 : decode cX5_endRepeat 22 = .ok (.iaload, 1) := by decide +kernel
theorem dX5_endRepeat_23 : decode cX5_endRepeat 23 = .ok (.aaload, 1) := by decide +kernel
theorem dX5_endRepeat_24 : decode cX5_endRepeat 24 = .ok (.aload_n 0, 1) := by decide +kernel
theorem dX5_endRepeat_25 : decode cX5_endRepeat 25 = .ok (.getfield 21, 3) := by decide +kernel
theorem dX5_endRepeat_28 : decode cX5_endRepeat 28 = .ok (.putfield 49, 3) := by decide +kernel
theorem dX5_endRepeat_31 : decode cX5_endRepeat 31 = .ok (.aload_n 1, 1) := by decide +kernel
theorem dX5_endRepeat_32 : decode cX5_endRepeat 32 = .ok (.invokevirtual 52, 3) := by decide +kernel
theorem dX5_endRepeat_35 : decode cX5_endRepeat 35 = .ok (.aload_n 1, 1) := by decide +kernel
theorem dX5_endRepeat_36 : decode cX5_endRepeat 36 = .ok (.bipush 59, 2) := by decide +kernel
theorem dX5_endRepeat_38 : decode cX5_endRepeat 38 = .ok (.invokevirtual 38, 3) := by decide +kernel
theorem dX5_endRepeat_41 : decode cX5_endRepeat 41 = .ok (.ifCond .ne 5, 3) := by decide +kernel
theorem dX5_endRepeat_44 : decode cX5_endRepeat 44 = .ok (.iconst 1, 1) := by decide +kernel
theorem dX5_endRepeat_45 : decode cX5_endRepeat 45 = .ok (.ireturn, 1) := by decide +kernel
theorem dX5_endRepeat_46 : decode cX5_endRepeat 46 = .ok (.aload_n 1, 1) := by decide +kernel
theorem dX5_endRepeat_47 : decode cX5_endRepeat 47 = .ok (.invokevirtual 52, 3) := by decide +kernel
theorem dX5_endRepeat_50 : decode cX5_endRepeat 50 = .ok (.iconst 0, 1) := by decide +kernel
theorem dX5_endRepeat_51 : decode cX5_endRepeat 51 = .ok (.ireturn, 1) := by decide +kernel
set_option maxRecDepth 20000 in
theorem ggX5_readStep_X9_stepWord : GoodIn wsX5_readStep wsX9_stepWord := goodIn_r _ [9, 10, 11, 12, 13, 14, 15, 8, 16, 17, 18, 19, 20, 21, 22, 23, 24, 25, 26, 27, 28, 29, 30, 31, 32, 33, 34, 35, 36, 37, 38, 39, 40, 41, 42, 43, 44, 45, 46, 47, 48, 49, 50, 51, 52, 53, 54, 55, 56, 57, 58, 59, 60, 61, 62, 63, 64, 65, 66, 67, 68, 69, 139, 140, 141, 142, 143, 144] (by decide +kernel) (by decide +kernel)
set_option maxRecDepth 20000 in
theorem gX5_readStep_X9_stepWord : GoodIn wsX5_readStep (wsV RX5 55 RX9 yX9_stepWord wsX9_stepWord) := goodIn_app (goodIn_of _ (by decide +kernel)) ggX5_readStep_X9_stepWord
set_option maxRecDepth 20000 in
theorem ggX5_readStep_X9_next : GoodIn wsX5_readStep wsX9_next := goodIn_r _ [73, 18, 19, 20, 17, 74, 75, 8, 76, 77, 78, 79, 80, 11, 81, 139, 140, 141, 142, 143, 144] (by decide +kernel) (by decide +kernel)
set_option maxRecDepth 20000 in
theorem gX5_readStep_X9_next : GoodIn wsX5_readStep (wsV RX5 52 RX9 yX9_next wsX9_next) := goodIn_app (goodIn_of _ (by decide +kernel)) ggX5_readStep_X9_next
set_option maxRecDepth 20000 in
theorem ggX5_readStep_X11_formOf : GoodIn wsX5_readStep wsX11_formOf := goodIn_r _ [83] (by decide +kernel) (by decide +kernel)
set_option maxRecDepth 20000 in
theorem gX5_readStep_X11_formOf_n68 : GoodIn wsX5_readStep (wsX11_formOf) := ggX5_readStep_X11_formOf
set_option maxRecDepth 20000 in
theorem ggX5_readStep_X5_readForm : GoodIn wsX5_readStep wsX5_readForm := goodIn_r _ [87, 88, 22, 23, 24, 25, 26, 27, 28, 29, 30, 31, 32, 89, 34, 35, 36, 37, 38, 39, 40, 41, 42, 43, 44, 45, 46, 47, 48, 49, 50, 51, 52, 53, 54, 55, 56, 57, 58, 59, 60, 61, 62, 63, 64, 65, 66, 67, 68, 69, 90, 91, 86, 92, 93, 94, 95, 8, 96, 17, 18, 19, 20, 97, 98, 99, 100, 101, 102, 103, 104, 105, 106, 107, 11, 108, 109, 110, 111, 112, 113, 114, 115, 116, 117, 118, 119, 120, 121, 122, 123, 124, 125, 126, 80, 81, 70, 71, 72, 73, 74, 75, 76, 77, 78, 79, 131, 132, 133, 134, 135, 136, 137, 138, 139, 140, 141, 142, 143, 144] (by decide +kernel) (by decide +kernel)
set_option maxRecDepth 20000 in
theorem gX5_readStep_X5_readForm : GoodIn wsX5_readStep (va_wsS RX5 72 yX5_readForm wsX5_readForm) := goodIn_app (goodIn_of _ (by decide +kernel)) ggX5_readStep_X5_readForm
theorem dX5_readStep_0 : decode cX5_readStep 0 = .ok (.aload_n 1, 1) := by decide +kernel
theorem dX5_readStep_1 : decode cX5_readStep 1 = .ok (.invokevirtual 55, 3) := by decide +kernel
theorem dX5_readStep_4 : decode cX5_readStep 4 = .ok (.istore_n 2, 1) := by decide +kernel
theorem dX5_readStep_5 : decode cX5_readStep 5 = .ok (.iload_n 2, 1) := by decide +kernel
theorem dX5_readStep_6 : decode cX5_readStep 6 = .ok (.iconst (-1), 1) := by decide +kernel
theorem dX5_readStep_7 : decode cX5_readStep 7 = .ok (.if_icmp .ne 5, 3) := by decide +kernel
theorem dX5_readStep_10 : decode cX5_readStep 10 = .ok (.iconst 1, 1) := by decide +kernel
theorem dX5_readStep_11 : decode cX5_readStep 11 = .ok (.ireturn, 1) := by decide +kernel
theorem dX5_readStep_12 : decode cX5_readStep 12 = .ok (.iload_n 2, 1) := by decide +kernel
theorem dX5_readStep_13 : decode cX5_readStep 13 = .ok (.bipush 13, 2) := by decide +kernel
theorem dX5_readStep_15 : decode cX5_readStep 15 = .ok (.if_icmp .ne 13, 3) := by decide +kernel
theorem dX5_readStep_18 : decode cX5_readStep 18 = .ok (.aload_n 0, 1) := by decide +kernel
theorem dX5_readStep_19 : decode cX5_readStep 19 = .ok (.getfield 25, 3) := by decide +kernel
theorem dX5_readStep_22 : decode cX5_readStep 22 = .ok (.iconst 4, 1) := by decide +kernel
theorem dX5_readStep_23 : decode cX5_readStep 23 = .ok (.if_icmp .lt 5, 3) := by decide +kernel
theorem dX5_readStep_26 : decode cX5_readStep 26 = .ok (.iconst 3, 1) := by decide +kernel
theorem dX5_readStep_27 : decode cX5_readStep 27 = .ok (.ireturn, 1) := by decide +kernel
theorem dX5_readStep_28 : decode cX5_readStep 28 = .ok (.aload_n 0, 1) := by decide +kernel
theorem dX5_readStep_29 : decode cX5_readStep 29 = .ok (.getfield 21, 3) := by decide +kernel
theorem dX5_readStep_32 : decode cX5_readStep 32 = .ok (.bipush 60, 2) := by decide +kernel
theorem dX5_readStep_34 : decode cX5_readStep 34 = .ok (.if_icmp .lt 5, 3) := by decide +kernel
theorem dX5_readStep_37 : decode cX5_readStep 37 = .ok (.iconst 4, 1) := by decide +kernel
theorem dX5_readStep_38 : decode cX5_readStep 38 = .ok (.ireturn, 1) := by decide +kernel
theorem dX5_readStep_39 : decode cX5_readStep 39 = .ok (.aload_n 0, 1) := by decide +kernel
theorem dX5_readStep_40 : decode cX5_readStep 40 = .ok (.getfield 11, 3) := by decide +kernel
theorem dX5_readStep_43 : decode cX5_readStep 43 = .ok (.aload_n 0, 1) := by decide +kernel
theorem dX5_readStep_44 : decode cX5_readStep 44 = .ok (.getfield 21, 3) := by decide +kernel
theorem dX5_readStep_47 : decode cX5_readStep 47 = .ok (.aaload, 1) := by decide +kernel
theorem dX5_readStep_48 : decode cX5_readStep 48 = .ok (.astore_n 3, 1) := by decide +kernel
theorem dX5_readStep_49 : decode cX5_readStep 49 = .ok (.aload_n 3, 1) := by decide +kernel
theorem dX5_readStep_50 : decode cX5_readStep 50 = .ok (.iload_n 2, 1) := by decide +kernel
theorem dX5_readStep_51 : decode cX5_readStep 51 = .ok (.putfield 59, 3) := by decide +kernel
theorem dX5_readStep_54 : decode cX5_readStep 54 = .ok (.aload_n 3, 1) := by decide +kernel
theorem dX5_readStep_55 : decode cX5_readStep 55 = .ok (.aload_n 1, 1) := by decide +kernel
theorem dX5_readStep_56 : decode cX5_readStep 56 = .ok (.getfield 62, 3) := by decide +kernel
theorem dX5_readStep_59 : decode cX5_readStep 59 = .ok (.putfield 65, 3) := by decide +kernel
theorem dX5_readStep_62 : decode cX5_readStep 62 = .ok (.iload_n 2, 1) := by decide +kernel
theorem dX5_readStep_63 : decode cX5_readStep 63 = .ok (.bipush 13, 2) := by decide +kernel
theorem dX5_readStep_65 : decode cX5_readStep 65 = .ok (.if_icmp .ne 26, 3) := by decide +kernel
theorem dX5_readStep_68 : decode cX5_readStep 68 = .ok (.aload_n 0, 1) := by decide +kernel
theorem dX5_readStep_69 : decode cX5_readStep 69 = .ok (.getfield 17, 3) := by decide +kernel
theorem dX5_readStep_72 : decode cX5_readStep 72 = .ok (.aload_n 0, 1) := by decide +kernel
theorem dX5_readStep_73 : decode cX5_readStep 73 = .ok (.getfield 25, 3) := by decide +kernel
theorem dX5_readStep_76 : decode cX5_readStep 76 = .ok (.aload_n 0, 1) := by decide +kernel
theorem dX5_readStep_77 : decode cX5_readStep 77 = .ok (.getfield 21, 3) := by decide +kernel
theorem dX5_readStep_80 : decode cX5_readStep 80 = .ok (.iastore, 1) := by decide +kernel
theorem dX5_readStep_81 : decode cX5_readStep 81 = .ok (.aload_n 0, 1) := by decide +kernel
theorem dX5_readStep_82 : decode cX5_readStep 82 = .ok (.dup, 1) := by decide +kernel
theorem dX5_readStep_83 : decode cX5_readStep 83 = .ok (.getfield 25, 3) := by decide +kernel
theorem dX5_readStep_86 : decode cX5_readStep 86 = .ok (.iconst 1, 1) := by decide +kernel
theorem dX5_readStep_87 : decode cX5_readStep 87 = .ok (.iadd, 1) := by decide +kernel
theorem dX5_readStep_88 : decode cX5_readStep 88 = .ok (.putfield 25, 3) := by decide +kernel
theorem dX5_readStep_91 : decode cX5_readStep 91 = .ok (.aload_n 0, 1) := by decide +kernel
theorem dX5_readStep_92 : decode cX5_readStep 92 = .ok (.dup, 1) := by decide +kernel
theorem dX5_readStep_93 : decode cX5_readStep 93 = .ok (.getfield 21, 3) := by decide +kernel
theorem dX5_readStep_96 : decode cX5_readStep 96 = .ok (.iconst 1, 1) := by decide +kernel
theorem dX5_readStep_97 : decode cX5_readStep 97 = .ok (.iadd, 1) := by decide +kernel
theorem dX5_readStep_98 : decode cX5_readStep 98 = .ok (.putfield 21, 3) := by decide +kernel
theorem dX5_readStep_101 : decode cX5_readStep 101 = .ok (.aload_n 1, 1) := by decide +kernel
theorem dX5_readStep_102 : decode cX5_readStep 102 = .ok (.invokevirtual 52, 3) := by decide +kernel
theorem dX5_readStep_105 : decode cX5_readStep 105 = .ok (.aload_n 3, 1) := by decide +kernel
theorem dX5_readStep_106 : decode cX5_readStep 106 = .ok (.iload_n 2, 1) := by decide +kernel
theorem dX5_readStep_107 : decode cX5_readStep 107 = .ok (.invokestatic 68, 3) := by decide +kernel
theorem dX5_readStep_110 : decode cX5_readStep 110 = .ok (.aload_n 1, 1) := by decide +kernel
theorem dX5_readStep_111 : decode cX5_readStep 111 = .ok (.invokestatic 72, 3) := by decide +kernel
theorem dX5_readStep_114 : decode cX5_readStep 114 = .ok (.ireturn, 1) := by decide +kernel
set_option maxRecDepth 20000 in
theorem ggX5_readForm_J0_length_8abf5 : GoodIn wsX5_readForm wsJ0_length_8abf5 := goodIn_r _ [5, 6, 7, 8, 9, 4, 10, 11, 12] (by decide +kernel) (by decide +kernel)
set_option maxRecDepth 20000 in
theorem gX5_readForm_J0_length_8abf5 : GoodIn wsX5_readForm (wsV RX5 76 RJ0 yJ0_length_8abf5 wsJ0_length_8abf5) := goodIn_app (goodIn_of _ (by decide +kernel)) ggX5_readForm_J0_length_8abf5
set_option maxRecDepth 20000 in
theorem ggX5_readForm_J0_charAt_5068e : GoodIn wsX5_readForm wsJ0_charAt_5068e := goodIn_r _ [16, 6, 17, 18, 19, 4, 20, 11, 12, 21, 22, 23, 24, 25, 26, 27, 28, 29, 30, 31, 32, 33, 34, 35, 36, 37, 38, 39, 40, 41, 42, 43, 44, 45, 46, 47, 48, 49] (by decide +kernel) (by decide +kernel)
set_option maxRecDepth 20000 in
theorem gX5_readForm_J0_charAt_5068e : GoodIn wsX5_readForm (wsV RX5 81 RJ0 yJ0_charAt_5068e wsJ0_charAt_5068e) := goodIn_app (goodIn_of _ (by decide +kernel)) ggX5_readForm_J0_charAt_5068e
set_option maxRecDepth 20000 in
theorem ggX5_readForm_X5_readPart : GoodIn wsX5_readForm wsX5_readPart := goodIn_r _ [53, 54, 55, 56, 57, 58, 59, 60, 61, 62, 63, 64, 65, 66, 67, 52, 68, 69, 70, 71, 72, 73, 74, 75, 76, 77, 78, 79, 80, 81, 82, 83, 84, 85, 86, 87, 88, 89, 90, 91, 92, 93, 94, 95, 106, 107, 108, 109, 110, 111, 112, 113, 114, 115, 116, 117, 118, 119] (by decide +kernel) (by decide +kernel)
set_option maxRecDepth 20000 in
theorem gX5_readForm_X5_readPart : GoodIn wsX5_readForm (va_wsS RX5 85 yX5_readPart wsX5_readPart) := goodIn_app (goodIn_of _ (by decide +kernel)) ggX5_readForm_X5_readPart
set_option maxRecDepth 20000 in
theorem ggX5_readForm_X9_next : GoodIn wsX5_readForm wsX9_next := goodIn_r _ [99, 60, 61, 62, 59, 100, 101, 57, 102, 103, 104, 105, 94, 74, 95, 114, 115, 116, 117, 118, 119] (by decide +kernel) (by decide +kernel)
set_option maxRecDepth 20000 in
theorem gX5_readForm_X9_next : GoodIn wsX5_readForm (wsV RX5 52 RX9 yX9_next wsX9_next) := goodIn_app (goodIn_of _ (by decide +kernel)) ggX5_readForm_X9_next
theorem dX5_readForm_0 : decode cX5_readForm 0 = .ok (.iconst 0, 1) := by decide +kernel
theorem dX5_readForm_1 : decode cX5_readForm 1 = .ok (.istore_n 3, 1) := by decide +kernel
theorem dX5_readForm_2 : decode cX5_readForm 2 = .ok (.iload_n 3, 1) := by decide +kernel
theorem dX5_readForm_3 : decode cX5_readForm 3 = .ok (.aload_n 1, 1) := by decide +kernel
theorem dX5_readForm_4 : decode cX5_readForm 4 = .ok (.invokevirtual 76, 3) := by decide +kernel
theorem dX5_readForm_7 : decode cX5_readForm 7 = .ok (.if_icmp .ge 33, 3) := by decide +kernel
theorem dX5_readForm_10 : decode cX5_readForm 10 = .ok (.aload_n 0, 1) := by decide +kernel
theorem dX5_readForm_11 : decode cX5_readForm 11 = .ok (.aload_n 1, 1) := by decide +kernel
theorem dX5_readForm_12 : decode cX5_readForm 12 = .ok (.iload_n 3, 1) := by decide +kernel
theorem dX5_readForm_13 : decode cX5_readForm 13 = .ok (.invokevirtual 81, 3) := by decide +kernel
theorem dX5_readForm_16 : decode cX5_readForm 16 = .ok (.aload_n 2, 1) := by decide +kernel
theorem dX5_readForm_17 : decode cX5_readForm 17 = .ok (.invokestatic 85, 3) := by decide +kernel
theorem dX5_readForm_20 : decode cX5_readForm 20 = .ok (.istore 4, 2) := by decide +kernel
theorem dX5_readForm_22 : decode cX5_readForm 22 = .ok (.iload 4, 2) := by decide +kernel
theorem dX5_readForm_24 : decode cX5_readForm 24 = .ok (.ifCond .eq 6, 3) := by decide +kernel
theorem dX5_readForm_27 : decode cX5_readForm 27 = .ok (.iload 4, 2) := by decide +kernel
theorem dX5_readForm_29 : decode cX5_readForm 29 = .ok (.ireturn, 1) := by decide +kernel
theorem dX5_readForm_30 : decode cX5_readForm 30 = .ok (.aload_n 2, 1) := by decide +kernel
theorem dX5_readForm_31 : decode cX5_readForm 31 = .ok (.invokevirtual 52, 3) := by decide +kernel
theorem dX5_readForm_34 : decode cX5_readForm 34 = .ok (.iinc 3 1, 3) := by decide +kernel
theorem dX5_readForm_37 : decode cX5_readForm 37 = .ok (.goto (-35), 3) := by decide +kernel
theorem dX5_readForm_40 : decode cX5_readForm 40 = .ok (.iconst 0, 1) := by decide +kernel
theorem dX5_readForm_41 : decode cX5_readForm 41 = .ok (.ireturn, 1) := by decide +kernel
set_option maxRecDepth 20000 in
theorem ggX5_readPart_X9_stuff : GoodIn wsX5_readPart wsX9_stuff := goodIn_r _ [5, 6, 7, 8, 9, 10, 11, 4, 12, 52, 53, 54, 55, 56, 57] (by decide +kernel) (by decide +kernel)
set_option maxRecDepth 20000 in
theorem gX5_readPart_X9_stuff : GoodIn wsX5_readPart (wsV RX5 89 RX9 yX9_stuff wsX9_stuff) := goodIn_app (goodIn_of _ (by decide +kernel)) ggX5_readPart_X9_stuff
set_option maxRecDepth 20000 in
theorem ggX5_readPart_X5_faultUnless : GoodIn wsX5_readPart wsX5_faultUnless := goodIn_r _ [16] (by decide +kernel) (by decide +kernel)
set_option maxRecDepth 20000 in
theorem gX5_readPart_X5_faultUnless : GoodIn wsX5_readPart (va_wsS RX5 94 yX5_faultUnless wsX5_faultUnless) := goodIn_app (goodIn_of _ (by decide +kernel)) ggX5_readPart_X5_faultUnless
set_option maxRecDepth 20000 in
theorem ggX5_readPart_X9_stuffs : GoodIn wsX5_readPart wsX9_stuffs := goodIn_r _ [20, 6, 8, 7, 9, 10, 11, 4, 12, 21, 22, 23, 52, 53, 54, 55, 56, 57] (by decide +kernel) (by decide +kernel)
set_option maxRecDepth 20000 in
theorem gX5_readPart_X9_stuffs : GoodIn wsX5_readPart (wsV RX5 101 RX9 yX9_stuffs wsX9_stuffs) := goodIn_app (goodIn_of _ (by decide +kernel)) ggX5_readPart_X9_stuffs
set_option maxRecDepth 20000 in
theorem ggX5_readPart_X5_relationAt : GoodIn wsX5_readPart wsX5_relationAt := goodIn_r _ [26, 27, 28, 29, 4, 30, 6, 9, 8, 52, 53, 54, 55, 56, 57] (by decide +kernel) (by decide +kernel)
set_option maxRecDepth 20000 in
theorem gX5_readPart_X5_relationAt : GoodIn wsX5_readPart (va_wsS RX5 107 yX5_relationAt wsX5_relationAt) := goodIn_app (goodIn_of _ (by decide +kernel)) ggX5_readPart_X5_relationAt
set_option maxRecDepth 20000 in
theorem ggX5_readPart_X5_readNumber : GoodIn wsX5_readPart wsX5_readNumber := goodIn_r _ [33, 34, 35, 36, 4, 37, 6, 38, 39, 40, 41, 7, 8, 9, 42, 22, 43, 44, 45, 46, 47, 48, 49, 50, 51, 52, 53, 54, 55, 56, 57] (by decide +kernel) (by decide +kernel)
set_option maxRecDepth 20000 in
theorem gX5_readPart_X5_readNumber : GoodIn wsX5_readPart (va_wsS RX5 113 yX5_readNumber wsX5_readNumber) := goodIn_app (goodIn_of _ (by decide +kernel)) ggX5_readPart_X5_readNumber
set_option maxRecDepth 20000 in
theorem ggX5_readPart_X9_isSign : GoodIn wsX5_readPart wsX9_isSign := goodIn_r _ [30, 6, 9, 8, 52, 53, 54, 55, 56, 57] (by decide +kernel) (by decide +kernel)
set_option maxRecDepth 20000 in
theorem gX5_readPart_X9_isSign : GoodIn wsX5_readPart (wsV RX5 38 RX9 yX9_isSign wsX9_isSign) := goodIn_app (goodIn_of _ (by decide +kernel)) ggX5_readPart_X9_isSign
theorem dX5_readPart_0 : decode cX5_readPart 0 = .ok (.iload_n 1, 1) := by decide +kernel
theorem dX5_readPart_1 : decode cX5_readPart 1 = .ok (.lookupswitch 228 #[(84, 133), (104, 192), (107, 201), (110, 183), (112, 219), (114, 158), (115, 83), (116, 108), (119, 210)], 83) := by decide +kernel
theorem dX5_readPart_84 : decode cX5_readPart 84 = .ok (.aload_n 0, 1) := by decide +kernel
theorem dX5_readPart_85 : decode cX5_readPart 85 = .ok (.aload_n 2, 1) := by decide +kernel
theorem dX5_readPart_86 : decode cX5_readPart 86 = .ok (.invokevirtual 89, 3) := by decide +kernel
theorem dX5_readPart_89 : decode cX5_readPart 89 = .ok (.putfield 92, 3) := by decide +kernel
theorem dX5_readPart_92 : decode cX5_readPart 92 = .ok (.aload_n 0, 1) := by decide +kernel
theorem dX5_readPart_93 : decode cX5_readPart 93 = .ok (.getfield 92, 3) := by decide +kernel
theorem dX5_readPart_96 : decode cX5_readPart 96 = .ok (.iconst (-1), 1) := by decide +kernel
theorem dX5_readPart_97 : decode cX5_readPart 97 = .ok (.if_icmp .eq 7, 3) := by decide +kernel
theorem dX5_readPart_100 : decode cX5_readPart 100 = .ok (.iconst 1, 1) := by decide +kernel
theorem dX5_readPart_101 : decode cX5_readPart 101 = .ok (.goto 4, 3) := by decide +kernel
theorem dX5_readPart_104 : decode cX5_readPart 104 = .ok (.iconst 0, 1) := by decide +kernel
theorem dX5_readPart_105 : decode cX5_readPart 105 = .ok (.invokestatic 94, 3) := by decide +kernel
theorem dX5_readPart_108 : decode cX5_readPart 108 = .ok (.ireturn, 1) := by decide +kernel
theorem dX5_readPart_109 : decode cX5_readPart 109 = .ok (.aload_n 0, 1) := by decide +kernel
theorem dX5_readPart_110 : decode cX5_readPart 110 = .ok (.aload_n 2, 1) := by decide +kernel
theorem dX5_readPart_111 : decode cX5_readPart 111 = .ok (.invokevirtual 89, 3) := by decide +kernel
theorem dX5_readPart_114 : decode cX5_readPart 114 = .ok (.putfield 98, 3) := by decide +kernel
theorem dX5_readPart_117 : decode cX5_readPart 117 = .ok (.aload_n 0, 1) := by decide +kernel
theorem dX5_readPart_118 : decode cX5_readPart 118 = .ok (.getfield 98, 3) := by decide +kernel
theorem dX5_readPart_121 : decode cX5_readPart 121 = .ok (.iconst (-1), 1) := by decide +kernel
theorem dX5_readPart_122 : decode cX5_readPart 122 = .ok (.if_icmp .eq 7, 3) := by decide +kernel
theorem dX5_readPart_125 : decode cX5_readPart 125 = .ok (.iconst 1, 1) := by decide +kernel
theorem dX5_readPart_126 : decode cX5_readPart 126 = .ok (.goto 4, 3) := by decide +kernel
theorem dX5_readPart_129 : decode cX5_readPart 129 = .ok (.iconst 0, 1) := by decide +kernel
theorem dX5_readPart_130 : decode cX5_readPart 130 = .ok (.invokestatic 94, 3) := by decide +kernel
theorem dX5_readPart_133 : decode cX5_readPart 133 = .ok (.ireturn, 1) := by decide +kernel
theorem dX5_readPart_134 : decode cX5_readPart 134 = .ok (.aload_n 0, 1) := by decide +kernel
theorem dX5_readPart_135 : decode cX5_readPart 135 = .ok (.aload_n 2, 1) := by decide +kernel
theorem dX5_readPart_136 : decode cX5_readPart 136 = .ok (.invokevirtual 101, 3) := by decide +kernel
theorem dX5_readPart_139 : decode cX5_readPart 139 = .ok (.putfield 104, 3) := by decide +kernel
theorem dX5_readPart_142 : decode cX5_readPart 142 = .ok (.aload_n 0, 1) := by decide +kernel
theorem dX5_readPart_143 : decode cX5_readPart 143 = .ok (.getfield 104, 3) := by decide +kernel
theorem dX5_readPart_146 : decode cX5_readPart 146 = .ok (.iconst (-1), 1) := by decide +kernel
theorem dX5_readPart_147 : decode cX5_readPart 147 = .ok (.if_icmp .eq 7, 3) := by decide +kernel
theorem dX5_readPart_150 : decode cX5_readPart 150 = .ok (.iconst 1, 1) := by decide +kernel
theorem dX5_readPart_151 : decode cX5_readPart 151 = .ok (.goto 4, 3) := by decide +kernel
theorem dX5_readPart_154 : decode cX5_readPart 154 = .ok (.iconst 0, 1) := by decide +kernel
theorem dX5_readPart_155 : decode cX5_readPart 155 = .ok (.invokestatic 94, 3) := by decide +kernel
theorem dX5_readPart_158 : decode cX5_readPart 158 = .ok (.ireturn, 1) := by decide +kernel
theorem dX5_readPart_159 : decode cX5_readPart 159 = .ok (.aload_n 0, 1) := by decide +kernel
theorem dX5_readPart_160 : decode cX5_readPart 160 = .ok (.aload_n 2, 1) := by decide +kernel
theorem dX5_readPart_161 : decode cX5_readPart 161 = .ok (.invokestatic 107, 3) := by decide +kernel
theorem dX5_readPart_164 : decode cX5_readPart 164 = .ok (.putfield 110, 3) := by decide +kernel
theorem dX5_readPart_167 : decode cX5_readPart 167 = .ok (.aload_n 0, 1) := by decide +kernel
theorem dX5_readPart_168 : decode cX5_readPart 168 = .ok (.getfield 110, 3) := by decide +kernel
theorem dX5_readPart_171 : decode cX5_readPart 171 = .ok (.iconst (-1), 1) := by decide +kernel
theorem dX5_readPart_172 : decode cX5_readPart 172 = .ok (.if_icmp .eq 7, 3) := by decide +kernel
theorem dX5_readPart_175 : decode cX5_readPart 175 = .ok (.iconst 1, 1) := by decide +kernel
theorem dX5_readPart_176 : decode cX5_readPart 176 = .ok (.goto 4, 3) := by decide +kernel
theorem dX5_readPart_179 : decode cX5_readPart 179 = .ok (.iconst 0, 1) := by decide +kernel
theorem dX5_readPart_180 : decode cX5_readPart 180 = .ok (.invokestatic 94, 3) := by decide +kernel
theorem dX5_readPart_183 : decode cX5_readPart 183 = .ok (.ireturn, 1) := by decide +kernel
theorem dX5_readPart_184 : decode cX5_readPart 184 = .ok (.aload_n 0, 1) := by decide +kernel
theorem dX5_readPart_185 : decode cX5_readPart 185 = .ok (.aload_n 2, 1) := by decide +kernel
theorem dX5_readPart_186 : decode cX5_readPart 186 = .ok (.iconst 1, 1) := by decide +kernel
theorem dX5_readPart_187 : decode cX5_readPart 187 = .ok (.bipush 20, 2) := by decide +kernel
theorem dX5_readPart_189 : decode cX5_readPart 189 = .ok (.invokestatic 113, 3) := by decide +kernel
theorem dX5_readPart_192 : decode cX5_readPart 192 = .ok (.ireturn, 1) := by decide +kernel
theorem dX5_readPart_193 : decode cX5_readPart 193 = .ok (.aload_n 0, 1) := by decide +kernel
theorem dX5_readPart_194 : decode cX5_readPart 194 = .ok (.aload_n 2, 1) := by decide +kernel
theorem dX5_readPart_195 : decode cX5_readPart 195 = .ok (.iconst 0, 1) := by decide +kernel
theorem dX5_readPart_196 : decode cX5_readPart 196 = .ok (.bipush 20, 2) := by decide +kernel
theorem dX5_readPart_198 : decode cX5_readPart 198 = .ok (.invokestatic 113, 3) := by decide +kernel
theorem dX5_readPart_201 : decode cX5_readPart 201 = .ok (.ireturn, 1) := by decide +kernel
theorem dX5_readPart_202 : decode cX5_readPart 202 = .ok (.aload_n 0, 1) := by decide +kernel
theorem dX5_readPart_203 : decode cX5_readPart 203 = .ok (.aload_n 2, 1) := by decide +kernel
theorem dX5_readPart_204 : decode cX5_readPart 204 = .ok (.iconst 0, 1) := by decide +kernel
theorem dX5_readPart_205 : decode cX5_readPart 205 = .ok (.bipush 7, 2) := by decide +kernel
theorem dX5_readPart_207 : decode cX5_readPart 207 = .ok (.invokestatic 113, 3) := by decide +kernel
theorem dX5_readPart_210 : decode cX5_readPart 210 = .ok (.ireturn, 1) := by decide +kernel
theorem dX5_readPart_211 : decode cX5_readPart 211 = .ok (.aload_n 0, 1) := by decide +kernel
theorem dX5_readPart_212 : decode cX5_readPart 212 = .ok (.aload_n 2, 1) := by decide +kernel
theorem dX5_readPart_213 : decode cX5_readPart 213 = .ok (.iconst 0, 1) := by decide +kernel
theorem dX5_readPart_214 : decode cX5_readPart 214 = .ok (.bipush 99, 2) := by decide +kernel
theorem dX5_readPart_216 : decode cX5_readPart 216 = .ok (.invokestatic 113, 3) := by decide +kernel
theorem dX5_readPart_219 : decode cX5_readPart 219 = .ok (.ireturn, 1) := by decide +kernel
theorem dX5_readPart_220 : decode cX5_readPart 220 = .ok (.aload_n 0, 1) := by decide +kernel
theorem dX5_readPart_221 : decode cX5_readPart 221 = .ok (.aload_n 2, 1) := by decide +kernel
theorem dX5_readPart_222 : decode cX5_readPart 222 = .ok (.iconst 0, 1) := by decide +kernel
theorem dX5_readPart_223 : decode cX5_readPart 223 = .ok (.bipush 9, 2) := by decide +kernel
theorem dX5_readPart_225 : decode cX5_readPart 225 = .ok (.invokestatic 113, 3) := by decide +kernel
theorem dX5_readPart_228 : decode cX5_readPart 228 = .ok (.ireturn, 1) := by decide +kernel
theorem dX5_readPart_229 : decode cX5_readPart 229 = .ok (.aload_n 2, 1) := by decide +kernel
theorem dX5_readPart_230 : decode cX5_readPart 230 = .ok (.iload_n 1, 1) := by decide +kernel
theorem dX5_readPart_231 : decode cX5_readPart 231 = .ok (.invokevirtual 38, 3) := by decide +kernel
theorem dX5_readPart_234 : decode cX5_readPart 234 = .ok (.invokestatic 94, 3) := by decide +kernel
theorem dX5_readPart_237 : decode cX5_readPart 237 = .ok (.ireturn, 1) := by decide +kernel
theorem dX5_faultUnless_0 : decode cX5_faultUnless 0 = .ok (.iload_n 0, 1) := by decide +kernel
theorem dX5_faultUnless_1 : decode cX5_faultUnless 1 = .ok (.ifCond .eq 7, 3) := by decide +kernel
theorem dX5_faultUnless_4 : decode cX5_faultUnless 4 = .ok (.iconst 0, 1) := by decide +kernel
theorem dX5_faultUnless_5 : decode cX5_faultUnless 5 = .ok (.goto 4, 3) := by decide +kernel
theorem dX5_faultUnless_8 : decode cX5_faultUnless 8 = .ok (.iconst 1, 1) := by decide +kernel
theorem dX5_faultUnless_9 : decode cX5_faultUnless 9 = .ok (.ireturn, 1) := by decide +kernel
set_option maxRecDepth 20000 in
theorem ggX5_relationAt_X9_isSign : GoodIn wsX5_relationAt wsX9_isSign := goodIn_r _ [5, 6, 7, 8, 9, 10, 11, 12, 13, 14] (by decide +kernel) (by decide +kernel)
set_option maxRecDepth 20000 in
theorem gX5_relationAt_X9_isSign : GoodIn wsX5_relationAt (wsV RX5 38 RX9 yX9_isSign wsX9_isSign) := goodIn_app (goodIn_of _ (by decide +kernel)) ggX5_relationAt_X9_isSign
theorem dX5_relationAt_0 : decode cX5_relationAt 0 = .ok (.aload_n 0, 1) := by decide +kernel
theorem dX5_relationAt_1 : decode cX5_relationAt 1 = .ok (.bipush 61, 2) := by decide +kernel
theorem dX5_relationAt_3 : decode cX5_relationAt 3 = .ok (.invokevirtual 38, 3) := by decide +kernel
theorem dX5_relationAt_6 : decode cX5_relationAt 6 = .ok (.ifCond .eq 6, 3) := by decide +kernel
theorem dX5_relationAt_9 : decode cX5_relationAt 9 = .ok (.bipush 61, 2) := by decide +kernel
theorem dX5_relationAt_11 : decode cX5_relationAt 11 = .ok (.ireturn, 1) := by decide +kernel
theorem dX5_relationAt_12 : decode cX5_relationAt 12 = .ok (.aload_n 0, 1) := by decide +kernel
theorem dX5_relationAt_13 : decode cX5_relationAt 13 = .ok (.bipush 60, 2) := by decide +kernel
theorem dX5_relationAt_15 : decode cX5_relationAt 15 = .ok (.invokevirtual 38, 3) := by decide +kernel
theorem dX5_relationAt_18 : decode cX5_relationAt 18 = .ok (.ifCond .eq 6, 3) := by decide +kernel
theorem dX5_relationAt_21 : decode cX5_relationAt 21 = .ok (.bipush 60, 2) := by decide +kernel
theorem dX5_relationAt_23 : decode cX5_relationAt 23 = .ok (.ireturn, 1) := by decide +kernel
theorem dX5_relationAt_24 : decode cX5_relationAt 24 = .ok (.aload_n 0, 1) := by decide +kernel
theorem dX5_relationAt_25 : decode cX5_relationAt 25 = .ok (.bipush 62, 2) := by decide +kernel
theorem dX5_relationAt_27 : decode cX5_relationAt 27 = .ok (.invokevirtual 38, 3) := by decide +kernel
theorem dX5_relationAt_30 : decode cX5_relationAt 30 = .ok (.ifCond .eq 8, 3) := by decide +kernel
theorem dX5_relationAt_33 : decode cX5_relationAt 33 = .ok (.bipush 62, 2) := by decide +kernel
theorem dX5_relationAt_35 : decode cX5_relationAt 35 = .ok (.goto 4, 3) := by decide +kernel
theorem dX5_relationAt_38 : decode cX5_relationAt 38 = .ok (.iconst (-1), 1) := by decide +kernel
theorem dX5_relationAt_39 : decode cX5_relationAt 39 = .ok (.ireturn, 1) := by decide +kernel
set_option maxRecDepth 20000 in
theorem ggX5_readNumber_X9_isNumber : GoodIn wsX5_readNumber wsX9_isNumber := goodIn_r _ [5, 6, 25, 26, 27, 28] (by decide +kernel) (by decide +kernel)
set_option maxRecDepth 20000 in
theorem gX5_readNumber_X9_isNumber : GoodIn wsX5_readNumber (wsV RX5 117 RX9 yX9_isNumber wsX9_isNumber) := goodIn_app (goodIn_of _ (by decide +kernel)) ggX5_readNumber_X9_isNumber
set_option maxRecDepth 20000 in
theorem ggX5_readNumber_X9_value : GoodIn wsX5_readNumber wsX9_value := goodIn_r _ [10, 6, 11, 12, 13, 25, 26, 27, 28, 29, 30] (by decide +kernel) (by decide +kernel)
set_option maxRecDepth 20000 in
theorem gX5_readNumber_X9_value : GoodIn wsX5_readNumber (wsV RX5 120 RX9 yX9_value wsX9_value) := goodIn_app (goodIn_of _ (by decide +kernel)) ggX5_readNumber_X9_value
set_option maxRecDepth 20000 in
theorem ggX5_readNumber_X11_within : GoodIn wsX5_readNumber wsX11_within := goodIn_r _ [16] (by decide +kernel) (by decide +kernel)
set_option maxRecDepth 20000 in
theorem gX5_readNumber_X11_within_n126 : GoodIn wsX5_readNumber (wsX11_within) := ggX5_readNumber_X11_within
theorem dX5_readNumber_0 : decode cX5_readNumber 0 = .ok (.aload_n 1, 1) := by decide +kernel
theorem dX5_readNumber_1 : decode cX5_readNumber 1 = .ok (.invokevirtual 117, 3) := by decide +kernel
theorem dX5_readNumber_4 : decode cX5_readNumber 4 = .ok (.ifCond .ne 5, 3) := by decide +kernel
theorem dX5_readNumber_7 : decode cX5_readNumber 7 = .ok (.iconst 1, 1) := by decide +kernel
theorem dX5_readNumber_8 : decode cX5_readNumber 8 = .ok (.ireturn, 1) := by decide +kernel
theorem dX5_readNumber_9 : decode cX5_readNumber 9 = .ok (.aload_n 0, 1) := by decide +kernel
theorem dX5_readNumber_10 : decode cX5_readNumber 10 = .ok (.aload_n 1, 1) := by decide +kernel
theorem dX5_readNumber_11 : decode cX5_readNumber 11 = .ok (.invokevirtual 120, 3) := by decide +kernel
theorem dX5_readNumber_14 : decode cX5_readNumber 14 = .ok (.putfield 123, 3) := by decide +kernel
theorem dX5_readNumber_17 : decode cX5_readNumber 17 = .ok (.aload_n 0, 1) := by decide +kernel
theorem dX5_readNumber_18 : decode cX5_readNumber 18 = .ok (.getfield 123, 3) := by decide +kernel
theorem dX5_readNumber_21 : decode cX5_readNumber 21 = .ok (.iload_n 2, 1) := by decide +kernel
theorem dX5_readNumber_22 : decode cX5_readNumber 22 = .ok (.iload_n 3, 1) := by decide +kernel
theorem dX5_readNumber_23 : decode cX5_readNumber 23 = .ok (.invokestatic 126, 3) := by decide +kernel
theorem dX5_readNumber_26 : decode cX5_readNumber 26 = .ok (.ifCond .eq 7, 3) := by decide +kernel
theorem dX5_readNumber_29 : decode cX5_readNumber 29 = .ok (.iconst 0, 1) := by decide +kernel
theorem dX5_readNumber_30 : decode cX5_readNumber 30 = .ok (.goto 4, 3) := by decide +kernel
theorem dX5_readNumber_33 : decode cX5_readNumber 33 = .ok (.iconst 2, 1) := by decide +kernel
theorem dX5_readNumber_34 : decode cX5_readNumber 34 = .ok (.ireturn, 1) := by decide +kernel
theorem dX6_init_0 : decode cX6_init 0 = .ok (.aload_n 0, 1) := by decide +kernel
theorem dX6_init_1 : decode cX6_init 1 = .ok (.invokespecial 3, 3) := by decide +kernel
theorem dX6_init_4 : decode cX6_init 4 = .ok (.aload_n 0, 1) := by decide +kernel
theorem dX6_init_5 : decode cX6_init 5 = .ok (.iconst 4, 1) := by decide +kernel
theorem dX6_init_6 : decode cX6_init 6 = .ok (.newarray .int, 2) := by decide +kernel
theorem dX6_init_8 : decode cX6_init 8 = .ok (.putfield 9, 3) := by decide +kernel
theorem dX6_init_11 : decode cX6_init 11 = .ok (.aload_n 0, 1) := by decide +kernel
theorem dX6_init_12 : decode cX6_init 12 = .ok (.iconst 4, 1) := by decide +kernel
theorem dX6_init_13 : decode cX6_init 13 = .ok (.newarray .int, 2) := by decide +kernel
theorem dX6_init_15 : decode cX6_init 15 = .ok (.putfield 15, 3) := by decide +kernel
theorem dX6_init_18 : decode cX6_init 18 = .ok (.aload_n 0, 1) := by decide +kernel
theorem dX6_init_19 : decode cX6_init 19 = .ok (.iconst 4, 1) := by decide +kernel
theorem dX6_init_20 : decode cX6_init 20 = .ok (.newarray .int, 2) := by decide +kernel
theorem dX6_init_22 : decode cX6_init 22 = .ok (.putfield 18, 3) := by decide +kernel
theorem dX6_init_25 : decode cX6_init 25 = .ok (.aload_n 0, 1) := by decide +kernel
theorem dX6_init_26 : decode cX6_init 26 = .ok (.iconst 0, 1) := by decide +kernel
theorem dX6_init_27 : decode cX6_init 27 = .ok (.putfield 21, 3) := by decide +kernel
theorem dX6_init_30 : decode cX6_init 30 = .ok (.aload_n 0, 1) := by decide +kernel
theorem dX6_init_31 : decode cX6_init 31 = .ok (.iconst 0, 1) := by decide +kernel
theorem dX6_init_32 : decode cX6_init 32 = .ok (.putfield 25, 3) := by decide +kernel
theorem dX6_init_35 : decode cX6_init 35 = .ok (.aload_n 0, 1) := by decide +kernel
theorem dX6_init_36 : decode cX6_init 36 = .ok (.iconst (-1), 1) := by decide +kernel
theorem dX6_init_37 : decode cX6_init 37 = .ok (.putfield 28, 3) := by decide +kernel
theorem dX6_init_40 : decode cX6_init 40 = .ok (.aload_n 0, 1) := by decide +kernel
theorem dX6_init_41 : decode cX6_init 41 = .ok (.iconst 0, 1) := by decide +kernel
theorem dX6_init_42 : decode cX6_init 42 = .ok (.putfield 31, 3) := by decide +kernel
theorem dX6_init_45 : decode cX6_init 45 = .ok (.aload_n 0, 1) := by decide +kernel
theorem dX6_init_46 : decode cX6_init 46 = .ok (.iconst 0, 1) := by decide +kernel
theorem dX6_init_47 : decode cX6_init 47 = .ok (.putfield 34, 3) := by decide +kernel
theorem dX6_init_50 : decode cX6_init 50 = .ok (.aload_n 0, 1) := by decide +kernel
theorem dX6_init_51 : decode cX6_init 51 = .ok (.aload_n 1, 1) := by decide +kernel
theorem dX6_init_52 : decode cX6_init 52 = .ok (.putfield 37, 3) := by decide +kernel
theorem dX6_init_55 : decode cX6_init 55 = .ok (.aload_n 0, 1) := by decide +kernel
theorem dX6_init_56 : decode cX6_init 56 = .ok (.aload_n 2, 1) := by decide +kernel
theorem dX6_init_57 : decode cX6_init 57 = .ok (.putfield 41, 3) := by decide +kernel
theorem dX6_init_60 : decode cX6_init 60 = .ok (.aload_n 0, 1) := by decide +kernel
theorem dX6_init_61 : decode cX6_init 61 = .ok (.aload_n 3, 1) := by decide +kernel
theorem dX6_init_62 : decode cX6_init 62 = .ok (.putfield 45, 3) := by decide +kernel
theorem dX6_init_65 : decode cX6_init 65 = .ok (.return_, 1) := by decide +kernel
set_option maxRecDepth 20000 in
theorem ggX6_perform_X6_endRound : GoodIn wsX6_perform wsX6_endRound := goodIn_r _ [10, 11, 1, 12, 2, 171, 172, 173, 174, 175, 176, 177, 178, 179, 180, 181] (by decide +kernel) (by decide +kernel)
set_option maxRecDepth 20000 in
theorem gX6_perform_X6_endRound : GoodIn wsX6_perform (wsV RX6 49 RX6 yX6_endRound wsX6_endRound) := goodIn_app (goodIn_of _ (by decide +kernel)) ggX6_perform_X6_endRound
set_option maxRecDepth 20000 in
theorem ggX6_perform_X6_take : GoodIn wsX6_perform wsX6_take := goodIn_r _ [16, 17, 4, 2, 18, 3, 19, 20, 21, 9, 22, 1, 12, 5, 11, 23, 24, 25, 26, 27, 28, 29, 30, 31, 32, 33, 34, 35, 36, 37, 38, 39, 40, 41, 42, 43, 44, 45, 46, 47, 48, 49, 50, 51, 52, 53, 54, 55, 56, 57, 58, 59, 60, 61, 62, 63, 64, 65, 66, 67, 68, 69, 70, 71, 72, 73, 74, 75, 76, 77, 78, 79, 80, 81, 82, 83, 84, 85, 86, 87, 88, 89, 90, 91, 92, 93, 94, 95, 96, 97, 98, 99, 100, 101, 102, 103, 104, 105, 106, 107, 108, 109, 110, 111, 112, 113, 114, 115, 116, 117, 118, 119, 120, 121, 122, 123, 124, 125, 126, 127, 128, 129, 130, 131, 132, 133, 134, 135, 136, 137, 138, 139, 140, 141, 142, 143, 144, 145, 146, 147, 148, 149, 150, 151, 152, 153, 154, 155, 156, 157, 158, 159, 160, 161, 162, 163, 164, 165, 166, 167, 168, 169, 170, 186, 187, 188, 189, 190, 191, 192, 193, 171, 172, 173, 174, 175, 176, 177, 178, 179, 180, 181, 194, 195, 196, 197, 198, 199, 200, 201, 202] (by decide +kernel) (by decide +kernel)
set_option maxRecDepth 20000 in
theorem gX6_perform_X6_take : GoodIn wsX6_perform (wsV RX6 61 RX6 yX6_take wsX6_take) := goodIn_app (goodIn_of _ (by decide +kernel)) ggX6_perform_X6_take
theorem dX6_perform_0 : decode cX6_perform 0 = .ok (.aload_n 0, 1) := by decide +kernel
theorem dX6_perform_1 : decode cX6_perform 1 = .ok (.iconst 0, 1) := by decide +kernel
theorem dX6_perform_2 : decode cX6_perform 2 = .ok (.putfield 21, 3) := by decide +kernel
theorem dX6_perform_5 : decode cX6_perform 5 = .ok (.aload_n 0, 1) := by decide +kernel
theorem dX6_perform_6 : decode cX6_perform 6 = .ok (.iconst 0, 1) := by decide +kernel
theorem dX6_perform_7 : decode cX6_perform 7 = .ok (.putfield 25, 3) := by decide +kernel
theorem dX6_perform_10 : decode cX6_perform 10 = .ok (.aload_n 0, 1) := by decide +kernel
theorem dX6_perform_11 : decode cX6_perform 11 = .ok (.iconst (-1), 1) := by decide +kernel
theorem dX6_perform_12 : decode cX6_perform 12 = .ok (.putfield 28, 3) := by decide +kernel
theorem dX6_perform_15 : decode cX6_perform 15 = .ok (.aload_n 0, 1) := by decide +kernel
theorem dX6_perform_16 : decode cX6_perform 16 = .ok (.iconst 0, 1) := by decide +kernel
theorem dX6_perform_17 : decode cX6_perform 17 = .ok (.putfield 31, 3) := by decide +kernel
theorem dX6_perform_20 : decode cX6_perform 20 = .ok (.iconst 0, 1) := by decide +kernel
theorem dX6_perform_21 : decode cX6_perform 21 = .ok (.istore_n 2, 1) := by decide +kernel
theorem dX6_perform_22 : decode cX6_perform 22 = .ok (.iconst 0, 1) := by decide +kernel
theorem dX6_perform_23 : decode cX6_perform 23 = .ok (.istore_n 3, 1) := by decide +kernel
theorem dX6_perform_24 : decode cX6_perform 24 = .ok (.iload_n 3, 1) := by decide +kernel
theorem dX6_perform_25 : decode cX6_perform 25 = .ok (.sipush 6000, 3) := by decide +kernel
theorem dX6_perform_28 : decode cX6_perform 28 = .ok (.if_icmp .ge 84, 3) := by decide +kernel
theorem dX6_perform_31 : decode cX6_perform 31 = .ok (.iload_n 2, 1) := by decide +kernel
theorem dX6_perform_32 : decode cX6_perform 32 = .ok (.ifCond .ne 80, 3) := by decide +kernel
theorem dX6_perform_35 : decode cX6_perform 35 = .ok (.aload_n 0, 1) := by decide +kernel
theorem dX6_perform_36 : decode cX6_perform 36 = .ok (.getfield 21, 3) := by decide +kernel
theorem dX6_perform_39 : decode cX6_perform 39 = .ok (.ifCond .le 28, 3) := by decide +kernel
theorem dX6_perform_42 : decode cX6_perform 42 = .ok (.aload_n 0, 1) := by decide +kernel
theorem dX6_perform_43 : decode cX6_perform 43 = .ok (.getfield 25, 3) := by decide +kernel
theorem dX6_perform_46 : decode cX6_perform 46 = .ok (.aload_n 0, 1) := by decide +kernel
theorem dX6_perform_47 : decode cX6_perform 47 = .ok (.getfield 15, 3) := by decide +kernel
theorem dX6_perform_50 : decode cX6_perform 50 = .ok (.aload_n 0, 1) := by decide +kernel
theorem dX6_perform_51 : decode cX6_perform 51 = .ok (.getfield 21, 3) := by decide +kernel
theorem dX6_perform_54 : decode cX6_perform 54 = .ok (.iconst 1, 1) := by decide +kernel
theorem dX6_perform_55 : decode cX6_perform 55 = .ok (.isub, 1) := by decide +kernel
theorem dX6_perform_56 : decode cX6_perform 56 = .ok (.iaload, 1) := by decide +kernel
theorem dX6_perform_57 : decode cX6_perform 57 = .ok (.if_icmp .ne 10, 3) := by decide +kernel
theorem dX6_perform_60 : decode cX6_perform 60 = .ok (.aload_n 0, 1) := by decide +kernel
theorem dX6_perform_61 : decode cX6_perform 61 = .ok (.invokevirtual 49, 3) := by decide +kernel
theorem dX6_perform_64 : decode cX6_perform 64 = .ok (.goto 42, 3) := by decide +kernel
theorem dX6_perform_67 : decode cX6_perform 67 = .ok (.aload_n 0, 1) := by decide +kernel
theorem dX6_perform_68 : decode cX6_perform 68 = .ok (.getfield 25, 3) := by decide +kernel
theorem dX6_perform_71 : decode cX6_perform 71 = .ok (.aload_n 1, 1) := by decide +kernel
theorem dX6_perform_72 : decode cX6_perform 72 = .ok (.getfield 52, 3) := by decide +kernel
theorem dX6_perform_75 : decode cX6_perform 75 = .ok (.if_icmp .ge 29, 3) := by decide +kernel
theorem dX6_perform_78 : decode cX6_perform 78 = .ok (.aload_n 0, 1) := by decide +kernel
theorem dX6_perform_79 : decode cX6_perform 79 = .ok (.getfield 25, 3) := by decide +kernel
theorem dX6_perform_82 : decode cX6_perform 82 = .ok (.bipush 60, 2) := by decide +kernel
theorem dX6_perform_84 : decode cX6_perform 84 = .ok (.if_icmp .ge 20, 3) := by decide +kernel
theorem dX6_perform_87 : decode cX6_perform 87 = .ok (.aload_n 0, 1) := by decide +kernel
theorem dX6_perform_88 : decode cX6_perform 88 = .ok (.aload_n 1, 1) := by decide +kernel
theorem dX6_perform_89 : decode cX6_perform 89 = .ok (.getfield 57, 3) := by decide +kernel
theorem dX6_perform_92 : decode cX6_perform 92 = .ok (.aload_n 0, 1) := by decide +kernel
theorem dX6_perform_93 : decode cX6_perform 93 = .ok (.getfield 25, 3) := by decide +kernel
theorem dX6_perform_96 : decode cX6_perform 96 = .ok (.aaload, 1) := by decide +kernel
theorem dX6_perform_97 : decode cX6_perform 97 = .ok (.invokevirtual 61, 3) := by decide +kernel
theorem dX6_perform_100 : decode cX6_perform 100 = .ok (.istore_n 2, 1) := by decide +kernel
theorem dX6_perform_101 : decode cX6_perform 101 = .ok (.goto 5, 3) := by decide +kernel
theorem dX6_perform_104 : decode cX6_perform 104 = .ok (.iconst 0, 1) := by decide +kernel
theorem dX6_perform_105 : decode cX6_perform 105 = .ok (.ireturn, 1) := by decide +kernel
theorem dX6_perform_106 : decode cX6_perform 106 = .ok (.iinc 3 1, 3) := by decide +kernel
theorem dX6_perform_109 : decode cX6_perform 109 = .ok (.goto (-85), 3) := by decide +kernel
theorem dX6_perform_112 : decode cX6_perform 112 = .ok (.iload_n 2, 1) := by decide +kernel
theorem dX6_perform_113 : decode cX6_perform 113 = .ok (.ireturn, 1) := by decide +kernel
theorem dX6_endRound_0 : decode cX6_endRound 0 = .ok (.aload_n 0, 1) := by decide +kernel
theorem dX6_endRound_1 : decode cX6_endRound 1 = .ok (.getfield 18, 3) := by decide +kernel
theorem dX6_endRound_4 : decode cX6_endRound 4 = .ok (.aload_n 0, 1) := by decide +kernel
theorem dX6_endRound_5 : decode cX6_endRound 5 = .ok (.getfield 21, 3) := by decide +kernel
theorem dX6_endRound_8 : decode cX6_endRound 8 = .ok (.iconst 1, 1) := by decide +kernel
theorem dX6_endRound_9 : decode cX6_endRound 9 = .ok (.isub, 1) := by decide +kernel
theorem dX6_endRound_10 : decode cX6_endRound 10 = .ok (.dup2, 1) := by decide +kernel
theorem dX6_endRound_11 : decode cX6_endRound 11 = .ok (.iaload, 1) := by decide +kernel
theorem dX6_endRound_12 : decode cX6_endRound 12 = .ok (.iconst 1, 1) := by decide +kernel
theorem dX6_endRound_13 : decode cX6_endRound 13 = .ok (.isub, 1) := by decide +kernel
theorem dX6_endRound_14 : decode cX6_endRound 14 = .ok (.iastore, 1) := by decide +kernel
theorem dX6_endRound_15 : decode cX6_endRound 15 = .ok (.aload_n 0, 1) := by decide +kernel
theorem dX6_endRound_16 : decode cX6_endRound 16 = .ok (.getfield 18, 3) := by decide +kernel
theorem dX6_endRound_19 : decode cX6_endRound 19 = .ok (.aload_n 0, 1) := by decide +kernel
theorem dX6_endRound_20 : decode cX6_endRound 20 = .ok (.getfield 21, 3) := by decide +kernel
theorem dX6_endRound_23 : decode cX6_endRound 23 = .ok (.iconst 1, 1) := by decide +kernel
theorem dX6_endRound_24 : decode cX6_endRound 24 = .ok (.isub, 1) := by decide +kernel
theorem dX6_endRound_25 : decode cX6_endRound 25 = .ok (.iaload, 1) := by decide +kernel
theorem dX6_endRound_26 : decode cX6_endRound 26 = .ok (.ifCond .le 21, 3) := by decide +kernel
theorem dX6_endRound_29 : decode cX6_endRound 29 = .ok (.aload_n 0, 1) := by decide +kernel
theorem dX6_endRound_30 : decode cX6_endRound 30 = .ok (.aload_n 0, 1) := by decide +kernel
theorem dX6_endRound_31 : decode cX6_endRound 31 = .ok (.getfield 9, 3) := by decide +kernel
theorem dX6_endRound_34 : decode cX6_endRound 34 = .ok (.aload_n 0, 1) := by decide +kernel
theorem dX6_endRound_35 : decode cX6_endRound 35 = .ok (.getfield 21, 3) := by decide +kernel
theorem dX6_endRound_38 : decode cX6_endRound 38 = .ok (.iconst 1, 1) := by decide +kernel
theorem dX6_endRound_39 : decode cX6_endRound 39 = .ok (.isub, 1) := by decide +kernel
theorem dX6_endRound_40 : decode cX6_endRound 40 = .ok (.iaload, 1) := by decide +kernel
theorem dX6_endRound_41 : decode cX6_endRound 41 = .ok (.putfield 25, 3) := by decide +kernel
theorem dX6_endRound_44 : decode cX6_endRound 44 = .ok (.goto 13, 3) := by decide +kernel
theorem dX6_endRound_47 : decode cX6_endRound 47 = .ok (.aload_n 0, 1) := by decide +kernel
theorem dX6_endRound_48 : decode cX6_endRound 48 = .ok (.dup, 1) := by decide +kernel
theorem dX6_endRound_49 : decode cX6_endRound 49 = .ok (.getfield 21, 3) := by decide +kernel
theorem dX6_endRound_52 : decode cX6_endRound 52 = .ok (.iconst 1, 1) := by decide +kernel
theorem dX6_endRound_53 : decode cX6_endRound 53 = .ok (.isub, 1) := by decide +kernel
theorem dX6_endRound_54 : decode cX6_endRound 54 = .ok (.putfield 21, 3) := by decide +kernel
theorem dX6_endRound_57 : decode cX6_endRound 57 = .ok (.return_, 1) := by decide +kernel
set_option maxRecDepth 20000 in
theorem ggX6_take_X6_beginRepeat : GoodIn wsX6_take wsX6_beginRepeat := goodIn_r _ [10, 3, 11, 12, 13, 14, 163, 164, 165, 166, 167, 168, 169, 170, 171, 172, 173, 174, 175, 176, 177, 178, 179, 180, 181] (by decide +kernel) (by decide +kernel)
set_option maxRecDepth 20000 in
theorem gX6_take_X6_beginRepeat : GoodIn wsX6_take (wsV RX6 73 RX6 yX6_beginRepeat wsX6_beginRepeat) := goodIn_app (goodIn_of _ (by decide +kernel)) ggX6_take_X6_beginRepeat
set_option maxRecDepth 20000 in
theorem ggX6_take_X6_isMet : GoodIn wsX6_take wsX6_isMet := goodIn_r _ [18, 19, 20, 21, 22, 23, 24, 25, 26, 27, 28, 171, 172, 173, 174, 175, 176, 177, 178, 179, 180, 181, 163, 164, 165, 166, 167, 168, 169, 170, 182] (by decide +kernel) (by decide +kernel)
set_option maxRecDepth 20000 in
theorem gX6_take_X6_isMet : GoodIn wsX6_take (wsV RX6 77 RX6 yX6_isMet wsX6_isMet) := goodIn_app (goodIn_of _ (by decide +kernel)) ggX6_take_X6_isMet
set_option maxRecDepth 20000 in
theorem ggX6_take_X10_countFloating : GoodIn wsX6_take wsX10_countFloating := goodIn_r _ [33, 34, 35, 36, 37, 38, 39, 40, 41, 42, 43, 44, 45, 46, 47, 48, 49, 50, 26, 27, 28, 51, 52, 53, 54, 55, 56, 57, 58, 59, 60, 61, 62, 63, 64, 32, 65, 66, 67, 68, 69, 183, 184, 185, 186, 187, 188, 189] (by decide +kernel) (by decide +kernel)
set_option maxRecDepth 20000 in
theorem gX6_take_X10_countFloating : GoodIn wsX6_take (wsV RX6 81 RX10 yX10_countFloating wsX10_countFloating) := goodIn_app (goodIn_of _ (by decide +kernel)) ggX6_take_X10_countFloating
set_option maxRecDepth 20000 in
theorem ggX6_take_X10_coat : GoodIn wsX6_take wsX10_coat := goodIn_r _ [73, 34, 35, 74, 75, 76, 77, 39, 78, 41, 42, 43, 44, 45, 46, 47, 48, 49, 50, 26, 27, 28, 51, 52, 53, 54, 55, 56, 57, 58, 59, 60, 61, 79, 80, 81, 32, 82, 66, 67, 68, 69, 83, 84, 85, 86, 87, 88, 89, 90, 91, 92, 93, 94, 95, 183, 184, 185, 186, 187, 188, 189] (by decide +kernel) (by decide +kernel)
set_option maxRecDepth 20000 in
theorem gX6_take_X10_coat : GoodIn wsX6_take (wsV RX6 93 RX10 yX10_coat wsX10_coat) := goodIn_app (goodIn_of _ (by decide +kernel)) ggX6_take_X10_coat
set_option maxRecDepth 20000 in
theorem ggX6_take_X10_etch : GoodIn wsX6_take wsX10_etch := goodIn_r _ [99, 34, 35, 74, 75, 76, 77, 39, 78, 41, 42, 43, 44, 45, 46, 47, 48, 49, 50, 26, 27, 28, 51, 52, 53, 54, 55, 56, 57, 58, 59, 60, 61, 100, 101, 102, 32, 103, 104, 105, 106, 107, 66, 67, 68, 69, 87, 88, 89, 90, 91, 92, 93, 94, 95, 183, 184, 185, 186, 187, 188, 189] (by decide +kernel) (by decide +kernel)
set_option maxRecDepth 20000 in
theorem gX6_take_X10_etch : GoodIn wsX6_take (wsV RX6 100 RX10 yX10_etch wsX10_etch) := goodIn_app (goodIn_of _ (by decide +kernel)) ggX6_take_X10_etch
set_option maxRecDepth 20000 in
theorem ggX6_take_X10_turn : GoodIn wsX6_take wsX10_turn := goodIn_r _ [111, 34, 35, 74, 75, 76, 77, 39, 78, 41, 42, 43, 44, 45, 46, 47, 48, 49, 50, 26, 27, 28, 51, 52, 53, 54, 55, 56, 57, 58, 59, 60, 61, 100, 101, 102, 32, 103, 104, 105, 106, 107, 66, 67, 68, 69, 87, 88, 89, 90, 91, 92, 93, 94, 95, 112, 113, 114, 115, 183, 184, 185, 186, 187, 188, 189] (by decide +kernel) (by decide +kernel)
set_option maxRecDepth 20000 in
theorem gX6_take_X10_turn : GoodIn wsX6_take (wsV RX6 106 RX10 yX10_turn wsX10_turn) := goodIn_app (goodIn_of _ (by decide +kernel)) ggX6_take_X10_turn
set_option maxRecDepth 20000 in
theorem ggX6_take_X10_fill : GoodIn wsX6_take wsX10_fill := goodIn_r _ [119, 34, 35, 75, 76, 77, 39, 78, 41, 42, 43, 44, 45, 46, 47, 48, 49, 50, 26, 27, 28, 51, 52, 53, 54, 55, 56, 57, 58, 59, 60, 61, 66, 67, 68, 69, 183, 184, 185, 186, 187, 188, 189] (by decide +kernel) (by decide +kernel)
set_option maxRecDepth 20000 in
theorem gX6_take_X10_fill : GoodIn wsX6_take (wsV RX6 110 RX10 yX10_fill wsX10_fill) := goodIn_app (goodIn_of _ (by decide +kernel)) ggX6_take_X10_fill
set_option maxRecDepth 20000 in
theorem ggX6_take_X10_flatten : GoodIn wsX6_take wsX10_flatten := goodIn_r _ [123, 124, 125, 126, 127, 35, 183, 184, 185, 186] (by decide +kernel) (by decide +kernel)
set_option maxRecDepth 20000 in
theorem gX6_take_X10_flatten : GoodIn wsX6_take (wsV RX6 113 RX10 yX10_flatten wsX10_flatten) := goodIn_app (goodIn_of _ (by decide +kernel)) ggX6_take_X10_flatten
set_option maxRecDepth 20000 in
theorem ggX6_take_X10_dropFloating : GoodIn wsX6_take wsX10_dropFloating := goodIn_r _ [131, 34, 35, 36, 37, 38, 39, 40, 41, 42, 43, 44, 45, 46, 47, 48, 49, 50, 26, 27, 28, 51, 52, 53, 54, 55, 56, 57, 58, 59, 60, 61, 66, 67, 68, 69, 183, 184, 185, 186, 187, 188, 189] (by decide +kernel) (by decide +kernel)
set_option maxRecDepth 20000 in
theorem gX6_take_X10_dropFloating : GoodIn wsX6_take (wsV RX6 117 RX10 yX10_dropFloating wsX10_dropFloating) := goodIn_app (goodIn_of _ (by decide +kernel)) ggX6_take_X10_dropFloating
set_option maxRecDepth 20000 in
theorem ggX6_take_X6_changePlaces : GoodIn wsX6_take wsX6_changePlaces := goodIn_r _ [135, 5, 136, 137, 138, 139, 140, 141, 142, 143, 144, 145, 9, 146, 19, 147, 148, 149, 23, 150, 25, 151, 152, 153, 154, 155, 156, 157, 158, 26, 27, 28, 159, 160, 161, 162, 171, 172, 173, 174, 175, 176, 177, 178, 179, 180, 181, 190, 163, 164, 165, 166, 167, 168, 169, 170, 182] (by decide +kernel) (by decide +kernel)
set_option maxRecDepth 20000 in
theorem gX6_take_X6_changePlaces : GoodIn wsX6_take (wsV RX6 120 RX6 yX6_changePlaces wsX6_changePlaces) := goodIn_app (goodIn_of _ (by decide +kernel)) ggX6_take_X6_changePlaces
theorem dX6_take_0 : decode cX6_take 0 = .ok (.aload_n 0, 1) := by decide +kernel
theorem dX6_take_1 : decode cX6_take 1 = .ok (.aload_n 1, 1) := by decide +kernel
theorem dX6_take_2 : decode cX6_take 2 = .ok (.getfield 65, 3) := by decide +kernel
theorem dX6_take_5 : decode cX6_take 5 = .ok (.putfield 34, 3) := by decide +kernel
theorem dX6_take_8 : decode cX6_take 8 = .ok (.aload_n 0, 1) := by decide +kernel
theorem dX6_take_9 : decode cX6_take 9 = .ok (.getfield 31, 3) := by decide +kernel
theorem dX6_take_12 : decode cX6_take 12 = .ok (.sipush 300, 3) := by decide +kernel
theorem dX6_take_15 : decode cX6_take 15 = .ok (.if_icmp .lt 5, 3) := by decide +kernel
theorem dX6_take_18 : decode cX6_take 18 = .ok (.iconst 3, 1) := by decide +kernel
theorem dX6_take_19 : decode cX6_take 19 = .ok (.ireturn, 1) := by decide +kernel
theorem dX6_take_20 : decode cX6_take 20 = .ok (.aload_n 0, 1) := by decide +kernel
theorem dX6_take_21 : decode cX6_take 21 = .ok (.dup, 1) := by decide +kernel
theorem dX6_take_22 : decode cX6_take 22 = .ok (.getfield 31, 3) := by decide +kernel
theorem dX6_take_25 : decode cX6_take 25 = .ok (.iconst 1, 1) := by decide +kernel
theorem dX6_take_26 : decode cX6_take 26 = .ok (.iadd, 1) := by decide +kernel
theorem dX6_take_27 : decode cX6_take 27 = .ok (.putfield 31, 3) := by decide +kernel
theorem dX6_take_30 : decode cX6_take 30 = .ok (.aload_n 0, 1) := by decide +kernel
theorem dX6_take_31 : decode cX6_take 31 = .ok (.dup, 1) := by decide +kernel
theorem dX6_take_32 : decode cX6_take 32 = .ok (.getfield 25, 3) := by decide +kernel
theorem dX6_take_35 : decode cX6_take 35 = .ok (.iconst 1, 1) := by decide +kernel
theorem dX6_take_36 : decode cX6_take 36 = .ok (.iadd, 1) := by decide +kernel
theorem dX6_take_37 : decode cX6_take 37 = .ok (.putfield 25, 3) := by decide +kernel
theorem dX6_take_40 : decode cX6_take 40 = .ok (.aload_n 1, 1) := by decide +kernel
theorem dX6_take_41 : decode cX6_take 41 = .ok (.getfield 70, 3) := by decide +kernel
theorem dX6_take_44 : decode cX6_take 44 = .ok (.tableswitch 208 3 13 #[114, 131, 148, 169, 186, 199, 97, 107, 67, 81, 60], 60) := by decide +kernel
theorem dX6_take_104 : decode cX6_take 104 = .ok (.aload_n 0, 1) := by decide +kernel
theorem dX6_take_105 : decode cX6_take 105 = .ok (.aload_n 1, 1) := by decide +kernel
theorem dX6_take_106 : decode cX6_take 106 = .ok (.invokevirtual 73, 3) := by decide +kernel
theorem dX6_take_109 : decode cX6_take 109 = .ok (.iconst 0, 1) := by decide +kernel
theorem dX6_take_110 : decode cX6_take 110 = .ok (.ireturn, 1) := by decide +kernel
theorem dX6_take_111 : decode cX6_take 111 = .ok (.aload_n 0, 1) := by decide +kernel
theorem dX6_take_112 : decode cX6_take 112 = .ok (.aload_n 1, 1) := by decide +kernel
theorem dX6_take_113 : decode cX6_take 113 = .ok (.invokevirtual 77, 3) := by decide +kernel
theorem dX6_take_116 : decode cX6_take 116 = .ok (.ifCond .eq 7, 3) := by decide +kernel
theorem dX6_take_119 : decode cX6_take 119 = .ok (.iconst 0, 1) := by decide +kernel
theorem dX6_take_120 : decode cX6_take 120 = .ok (.goto 4, 3) := by decide +kernel
theorem dX6_take_123 : decode cX6_take 123 = .ok (.iconst 1, 1) := by decide +kernel
theorem dX6_take_124 : decode cX6_take 124 = .ok (.ireturn, 1) := by decide +kernel
theorem dX6_take_125 : decode cX6_take 125 = .ok (.aload_n 0, 1) := by decide +kernel
theorem dX6_take_126 : decode cX6_take 126 = .ok (.getfield 41, 3) := by decide +kernel
theorem dX6_take_129 : decode cX6_take 129 = .ok (.invokevirtual 81, 3) := by decide +kernel
theorem dX6_take_132 : decode cX6_take 132 = .ok (.ifCond .ne 7, 3) := by decide +kernel
theorem dX6_take_135 : decode cX6_take 135 = .ok (.iconst 0, 1) := by decide +kernel
theorem dX6_take_136 : decode cX6_take 136 = .ok (.goto 4, 3) := by decide +kernel
theorem dX6_take_139 : decode cX6_take 139 = .ok (.iconst 2, 1) := by decide +kernel
theorem dX6_take_140 : decode cX6_take 140 = .ok (.ireturn, 1) := by decide +kernel
theorem dX6_take_141 : decode cX6_take 141 = .ok (.aload_n 0, 1) := by decide +kernel
theorem dX6_take_142 : decode cX6_take 142 = .ok (.aload_n 1, 1) := by decide +kernel
theorem dX6_take_143 : decode cX6_take 143 = .ok (.getfield 87, 3) := by decide +kernel
theorem dX6_take_146 : decode cX6_take 146 = .ok (.putfield 28, 3) := by decide +kernel
theorem dX6_take_149 : decode cX6_take 149 = .ok (.iconst 0, 1) := by decide +kernel
theorem dX6_take_150 : decode cX6_take 150 = .ok (.ireturn, 1) := by decide +kernel
theorem dX6_take_151 : decode cX6_take 151 = .ok (.aload_n 0, 1) := by decide +kernel
theorem dX6_take_152 : decode cX6_take 152 = .ok (.iconst (-1), 1) := by decide +kernel
theorem dX6_take_153 : decode cX6_take 153 = .ok (.putfield 28, 3) := by decide +kernel
theorem dX6_take_156 : decode cX6_take 156 = .ok (.iconst 0, 1) := by decide +kernel
theorem dX6_take_157 : decode cX6_take 157 = .ok (.ireturn, 1) := by decide +kernel
theorem dX6_take_158 : decode cX6_take 158 = .ok (.aload_n 0, 1) := by decide +kernel
theorem dX6_take_159 : decode cX6_take 159 = .ok (.getfield 41, 3) := by decide +kernel
theorem dX6_take_162 : decode cX6_take 162 = .ok (.aload_n 1, 1) := by decide +kernel
theorem dX6_take_163 : decode cX6_take 163 = .ok (.getfield 90, 3) := by decide +kernel
theorem dX6_take_166 : decode cX6_take 166 = .ok (.aload_n 1, 1) := by decide +kernel
theorem dX6_take_167 : decode cX6_take 167 = .ok (.getfield 87, 3) := by decide +kernel
theorem dX6_take_170 : decode cX6_take 170 = .ok (.invokevirtual 93, 3) := by decide +kernel
theorem dX6_take_173 : decode cX6_take 173 = .ok (.iconst 0, 1) := by decide +kernel
theorem dX6_take_174 : decode cX6_take 174 = .ok (.ireturn, 1) := by decide +kernel
theorem dX6_take_175 : decode cX6_take 175 = .ok (.aload_n 0, 1) := by decide +kernel
theorem dX6_take_176 : decode cX6_take 176 = .ok (.getfield 41, 3) := by decide +kernel
theorem dX6_take_179 : decode cX6_take 179 = .ok (.aload_n 1, 1) := by decide +kernel
theorem dX6_take_180 : decode cX6_take 180 = .ok (.getfield 97, 3) := by decide +kernel
theorem dX6_take_183 : decode cX6_take 183 = .ok (.aload_n 1, 1) := by decide +kernel
theorem dX6_take_184 : decode cX6_take 184 = .ok (.getfield 87, 3) := by decide +kernel
theorem dX6_take_187 : decode cX6_take 187 = .ok (.invokevirtual 100, 3) := by decide +kernel
theorem dX6_take_190 : decode cX6_take 190 = .ok (.iconst 0, 1) := by decide +kernel
theorem dX6_take_191 : decode cX6_take 191 = .ok (.ireturn, 1) := by decide +kernel
theorem dX6_take_192 : decode cX6_take 192 = .ok (.aload_n 0, 1) := by decide +kernel
theorem dX6_take_193 : decode cX6_take 193 = .ok (.getfield 41, 3) := by decide +kernel
theorem dX6_take_196 : decode cX6_take 196 = .ok (.aload_n 1, 1) := by decide +kernel
theorem dX6_take_197 : decode cX6_take 197 = .ok (.getfield 90, 3) := by decide +kernel
theorem dX6_take_200 : decode cX6_take 200 = .ok (.aload_n 1, 1) := by decide +kernel
theorem dX6_take_201 : decode cX6_take 201 = .ok (.getfield 103, 3) := by decide +kernel
theorem dX6_take_204 : decode cX6_take 204 = .ok (.aload_n 1, 1) := by decide +kernel
theorem dX6_take_205 : decode cX6_take 205 = .ok (.getfield 87, 3) := by decide +kernel
theorem dX6_take_208 : decode cX6_take 208 = .ok (.invokevirtual 106, 3) := by decide +kernel
theorem dX6_take_211 : decode cX6_take 211 = .ok (.iconst 0, 1) := by decide +kernel
theorem dX6_take_212 : decode cX6_take 212 = .ok (.ireturn, 1) := by decide +kernel
theorem dX6_take_213 : decode cX6_take 213 = .ok (.aload_n 0, 1) := by decide +kernel
theorem dX6_take_214 : decode cX6_take 214 = .ok (.getfield 41, 3) := by decide +kernel
theorem dX6_take_217 : decode cX6_take 217 = .ok (.aload_n 1, 1) := by decide +kernel
theorem dX6_take_218 : decode cX6_take 218 = .ok (.getfield 90, 3) := by decide +kernel
theorem dX6_take_221 : decode cX6_take 221 = .ok (.aload_n 1, 1) := by decide +kernel
theorem dX6_take_222 : decode cX6_take 222 = .ok (.getfield 87, 3) := by decide +kernel
theorem dX6_take_225 : decode cX6_take 225 = .ok (.invokevirtual 110, 3) := by decide +kernel
theorem dX6_take_228 : decode cX6_take 228 = .ok (.iconst 0, 1) := by decide +kernel
theorem dX6_take_229 : decode cX6_take 229 = .ok (.ireturn, 1) := by decide +kernel
theorem dX6_take_230 : decode cX6_take 230 = .ok (.aload_n 0, 1) := by decide +kernel
theorem dX6_take_231 : decode cX6_take 231 = .ok (.getfield 41, 3) := by decide +kernel
theorem dX6_take_234 : decode cX6_take 234 = .ok (.aload_n 1, 1) := by decide +kernel
theorem dX6_take_235 : decode cX6_take 235 = .ok (.getfield 87, 3) := by decide +kernel
theorem dX6_take_238 : decode cX6_take 238 = .ok (.invokevirtual 113, 3) := by decide +kernel
theorem dX6_take_241 : decode cX6_take 241 = .ok (.iconst 0, 1) := by decide +kernel
theorem dX6_take_242 : decode cX6_take 242 = .ok (.ireturn, 1) := by decide +kernel
theorem dX6_take_243 : decode cX6_take 243 = .ok (.aload_n 0, 1) := by decide +kernel
theorem dX6_take_244 : decode cX6_take 244 = .ok (.getfield 41, 3) := by decide +kernel
theorem dX6_take_247 : decode cX6_take 247 = .ok (.invokevirtual 117, 3) := by decide +kernel
theorem dX6_take_250 : decode cX6_take 250 = .ok (.iconst 0, 1) := by decide +kernel
theorem dX6_take_251 : decode cX6_take 251 = .ok (.ireturn, 1) := by decide +kernel
theorem dX6_take_252 : decode cX6_take 252 = .ok (.aload_n 0, 1) := by decide +kernel
theorem dX6_take_253 : decode cX6_take 253 = .ok (.aload_n 1, 1) := by decide +kernel
theorem dX6_take_254 : decode cX6_take 254 = .ok (.invokevirtual 120, 3) := by decide +kernel
theorem dX6_take_257 : decode cX6_take 257 = .ok (.iconst 0, 1) := by decide +kernel
theorem dX6_take_258 : decode cX6_take 258 = .ok (.ireturn, 1) := by decide +kernel
theorem dX6_beginRepeat_0 : decode cX6_beginRepeat 0 = .ok (.aload_n 1, 1) := by decide +kernel
theorem dX6_beginRepeat_1 : decode cX6_beginRepeat 1 = .ok (.getfield 87, 3) := by decide +kernel
theorem dX6_beginRepeat_4 : decode cX6_beginRepeat 4 = .ok (.ifCond .ne 14, 3) := by decide +kernel
theorem dX6_beginRepeat_7 : decode cX6_beginRepeat 7 = .ok (.aload_n 0, 1) := by decide +kernel
theorem dX6_beginRepeat_8 : decode cX6_beginRepeat 8 = .ok (.aload_n 1, 1) := by decide +kernel
theorem dX6_beginRepeat_9 : decode cX6_beginRepeat 9 = .ok (.getfield 123, 3) := by decide +kernel
theorem dX6_beginRepeat_12 : decode cX6_beginRepeat 12 = .ok (.putfield 25, 3) := by decide +kernel
theorem dX6_beginRepeat_15 : decode cX6_beginRepeat 15 = .ok (.goto 60, 3) := by decide +kernel
theorem dX6_beginRepeat_18 : decode cX6_beginRepeat 18 = .ok (.aload_n 0, 1) := by decide +kernel
theorem dX6_beginRepeat_19 : decode cX6_beginRepeat 19 = .ok (.getfield 21, 3) := by decide +kernel
theorem dX6_beginRepeat_22 : decode cX6_beginRepeat 22 = .ok (.iconst 4, 1) := by decide +kernel
theorem dX6_beginRepeat_23 : decode cX6_beginRepeat 23 = .ok (.if_icmp .ge 52, 3) := by decide +kernel
theorem dX6_beginRepeat_26 : decode cX6_beginRepeat 26 = .ok (.aload_n 0, 1) := by decide +kernel
theorem dX6_beginRepeat_27 : decode cX6_beginRepeat 27 = .ok (.getfield 9, 3) := by decide +kernel
theorem dX6_beginRepeat_30 : decode cX6_beginRepeat 30 = .ok (.aload_n 0, 1) := by decide +kernel
theorem dX6_beginRepeat_31 : decode cX6_beginRepeat 31 = .ok (.getfield 21, 3) := by decide +kernel
theorem dX6_beginRepeat_34 : decode cX6_beginRepeat 34 = .ok (.aload_n 0, 1) := by decide +kernel
theorem dX6_beginRepeat_35 : decode cX6_beginRepeat 35 = .ok (.getfield 25, 3) := by decide +kernel
theorem dX6_beginRepeat_38 : decode cX6_beginRepeat 38 = .ok (.iastore, 1) := by decide +kernel
theorem dX6_beginRepeat_39 : decode cX6_beginRepeat 39 = .ok (.aload_n 0, 1) := by decide +kernel
theorem dX6_beginRepeat_40 : decode cX6_beginRepeat 40 = .ok (.getfield 15, 3) := by decide +kernel
theorem dX6_beginRepeat_43 : decode cX6_beginRepeat 43 = .ok (.aload_n 0, 1) := by decide +kernel
theorem dX6_beginRepeat_44 : decode cX6_beginRepeat 44 = .ok (.getfield 21, 3) := by decide +kernel
theorem dX6_beginRepeat_47 : decode cX6_beginRepeat 47 = .ok (.aload_n 1, 1) := by decide +kernel
theorem dX6_beginRepeat_48 : decode cX6_beginRepeat 48 = .ok (.getfield 123, 3) := by decide +kernel
theorem dX6_beginRepeat_51 : decode cX6_beginRepeat 51 = .ok (.iastore, 1) := by decide +kernel
theorem dX6_beginRepeat_52 : decode cX6_beginRepeat 52 = .ok (.aload_n 0, 1) := by decide +kernel
theorem dX6_beginRepeat_53 : decode cX6_beginRepeat 53 = .ok (.getfield 18, 3) := by decide +kernel
theorem dX6_beginRepeat_56 : decode cX6_beginRepeat 56 = .ok (.aload_n 0, 1) := by decide +kernel
theorem dX6_beginRepeat_57 : decode cX6_beginRepeat 57 = .ok (.getfield 21, 3) := by decide +kernel
theorem dX6_beginRepeat_60 : decode cX6_beginRepeat 60 = .ok (.aload_n 1, 1) := by decide +kernel
theorem dX6_beginRepeat_61 : decode cX6_beginRepeat 61 = .ok (.getfield 87, 3) := by decide +kernel
theorem dX6_beginRepeat_64 : decode cX6_beginRepeat 64 = .ok (.iastore, 1) := by decide +kernel
theorem dX6_beginRepeat_65 : decode cX6_beginRepeat 65 = .ok (.aload_n 0, 1) := by decide +kernel
theorem dX6_beginRepeat_66 : decode cX6_beginRepeat 66 = .ok (.dup, 1) := by decide +kernel
theorem dX6_beginRepeat_67 : decode cX6_beginRepeat 67 = .ok (.getfield 21, 3) := by decide +kernel
theorem dX6_beginRepeat_70 : decode cX6_beginRepeat 70 = .ok (.iconst 1, 1) := by decide +kernel
theorem dX6_beginRepeat_71 : decode cX6_beginRepeat 71 = .ok (.iadd, 1) := by decide +kernel
theorem dX6_beginRepeat_72 : decode cX6_beginRepeat 72 = .ok (.putfield 21, 3) := by decide +kernel
theorem dX6_beginRepeat_75 : decode cX6_beginRepeat 75 = .ok (.return_, 1) := by decide +kernel
set_option maxRecDepth 20000 in
theorem ggX6_isMet_X0_count : GoodIn wsX6_isMet wsX0_count := goodIn_r _ [6, 7, 8, 9, 10, 30] (by decide +kernel) (by decide +kernel)
set_option maxRecDepth 20000 in
theorem gX6_isMet_X0_count : GoodIn wsX6_isMet (wsV RX6 126 RX0 yX0_count wsX0_count) := goodIn_app (goodIn_of _ (by decide +kernel)) ggX6_isMet_X0_count
theorem dX6_isMet_0 : decode cX6_isMet 0 = .ok (.aload_n 0, 1) := by decide +kernel
theorem dX6_isMet_1 : decode cX6_isMet 1 = .ok (.getfield 37, 3) := by decide +kernel
theorem dX6_isMet_4 : decode cX6_isMet 4 = .ok (.iconst 1, 1) := by decide +kernel
theorem dX6_isMet_5 : decode cX6_isMet 5 = .ok (.aload_n 1, 1) := by decide +kernel
theorem dX6_isMet_6 : decode cX6_isMet 6 = .ok (.getfield 90, 3) := by decide +kernel
theorem dX6_isMet_9 : decode cX6_isMet 9 = .ok (.ishl, 1) := by decide +kernel
theorem dX6_isMet_10 : decode cX6_isMet 10 = .ok (.invokevirtual 126, 3) := by decide +kernel
theorem dX6_isMet_13 : decode cX6_isMet 13 = .ok (.istore_n 2, 1) := by decide +kernel
theorem dX6_isMet_14 : decode cX6_isMet 14 = .ok (.bipush 10, 2) := by decide +kernel
theorem dX6_isMet_16 : decode cX6_isMet 16 = .ok (.aload_n 1, 1) := by decide +kernel
theorem dX6_isMet_17 : decode cX6_isMet 17 = .ok (.getfield 87, 3) := by decide +kernel
theorem dX6_isMet_20 : decode cX6_isMet 20 = .ok (.imul, 1) := by decide +kernel
theorem dX6_isMet_21 : decode cX6_isMet 21 = .ok (.istore_n 3, 1) := by decide +kernel
theorem dX6_isMet_22 : decode cX6_isMet 22 = .ok (.aload_n 1, 1) := by decide +kernel
theorem dX6_isMet_23 : decode cX6_isMet 23 = .ok (.getfield 132, 3) := by decide +kernel
theorem dX6_isMet_26 : decode cX6_isMet 26 = .ok (.lookupswitch 48 #[(60, 26), (62, 37)], 26) := by decide +kernel
theorem dX6_isMet_52 : decode cX6_isMet 52 = .ok (.iload_n 2, 1) := by decide +kernel
theorem dX6_isMet_53 : decode cX6_isMet 53 = .ok (.iload_n 3, 1) := by decide +kernel
theorem dX6_isMet_54 : decode cX6_isMet 54 = .ok (.if_icmp .ge 7, 3) := by decide +kernel
theorem dX6_isMet_57 : decode cX6_isMet 57 = .ok (.iconst 1, 1) := by decide +kernel
theorem dX6_isMet_58 : decode cX6_isMet 58 = .ok (.goto 4, 3) := by decide +kernel
theorem dX6_isMet_61 : decode cX6_isMet 61 = .ok (.iconst 0, 1) := by decide +kernel
theorem dX6_isMet_62 : decode cX6_isMet 62 = .ok (.ireturn, 1) := by decide +kernel
theorem dX6_isMet_63 : decode cX6_isMet 63 = .ok (.iload_n 2, 1) := by decide +kernel
theorem dX6_isMet_64 : decode cX6_isMet 64 = .ok (.iload_n 3, 1) := by decide +kernel
theorem dX6_isMet_65 : decode cX6_isMet 65 = .ok (.if_icmp .le 7, 3) := by decide +kernel
theorem dX6_isMet_68 : decode cX6_isMet 68 = .ok (.iconst 1, 1) := by decide +kernel
theorem dX6_isMet_69 : decode cX6_isMet 69 = .ok (.goto 4, 3) := by decide +kernel
theorem dX6_isMet_72 : decode cX6_isMet 72 = .ok (.iconst 0, 1) := by decide +kernel
theorem dX6_isMet_73 : decode cX6_isMet 73 = .ok (.ireturn, 1) := by decide +kernel
theorem dX6_isMet_74 : decode cX6_isMet 74 = .ok (.iload_n 2, 1) := by decide +kernel
theorem dX6_isMet_75 : decode cX6_isMet 75 = .ok (.iload_n 3, 1) := by decide +kernel
theorem dX6_isMet_76 : decode cX6_isMet 76 = .ok (.if_icmp .ne 7, 3) := by decide +kernel
theorem dX6_isMet_79 : decode cX6_isMet 79 = .ok (.iconst 1, 1) := by decide +kernel
theorem dX6_isMet_80 : decode cX6_isMet 80 = .ok (.goto 4, 3) := by decide +kernel
theorem dX6_isMet_83 : decode cX6_isMet 83 = .ok (.iconst 0, 1) := by decide +kernel
theorem dX6_isMet_84 : decode cX6_isMet 84 = .ok (.ireturn, 1) := by decide +kernel
set_option maxRecDepth 20000 in
theorem ggX6_changePlaces_X4_has : GoodIn wsX6_changePlaces wsX4_has := goodIn_r _ [7, 8, 47] (by decide +kernel) (by decide +kernel)
set_option maxRecDepth 20000 in
theorem gX6_changePlaces_X4_has : GoodIn wsX6_changePlaces (wsV RX6 135 RX4 yX4_has wsX4_has) := goodIn_app (goodIn_of _ (by decide +kernel)) ggX6_changePlaces_X4_has
set_option maxRecDepth 20000 in
theorem ggX6_changePlaces_X6_changePlace : GoodIn wsX6_changePlaces wsX6_changePlace := goodIn_r _ [13, 14, 15, 16, 17, 18, 19, 20, 21, 22, 23, 24, 25, 26, 27, 28, 29, 30, 31, 32, 33, 34, 35, 48, 49, 50, 51, 52, 53, 54, 55, 36, 37, 38, 39, 40, 41, 42, 43, 44, 45, 46, 56] (by decide +kernel) (by decide +kernel)
set_option maxRecDepth 20000 in
theorem gX6_changePlaces_X6_changePlace : GoodIn wsX6_changePlaces (wsV RX6 141 RX6 yX6_changePlace wsX6_changePlace) := goodIn_app (goodIn_of _ (by decide +kernel)) ggX6_changePlaces_X6_changePlace
theorem dX6_changePlaces_0 : decode cX6_changePlaces 0 = .ok (.iconst 0, 1) := by decide +kernel
theorem dX6_changePlaces_1 : decode cX6_changePlaces 1 = .ok (.istore_n 2, 1) := by decide +kernel
theorem dX6_changePlaces_2 : decode cX6_changePlaces 2 = .ok (.iload_n 2, 1) := by decide +kernel
theorem dX6_changePlaces_3 : decode cX6_changePlaces 3 = .ok (.sipush 144, 3) := by decide +kernel
theorem dX6_changePlaces_6 : decode cX6_changePlaces 6 = .ok (.if_icmp .ge 38, 3) := by decide +kernel
theorem dX6_changePlaces_9 : decode cX6_changePlaces 9 = .ok (.aload_n 0, 1) := by decide +kernel
theorem dX6_changePlaces_10 : decode cX6_changePlaces 10 = .ok (.getfield 28, 3) := by decide +kernel
theorem dX6_changePlaces_13 : decode cX6_changePlaces 13 = .ok (.iconst (-1), 1) := by decide +kernel
theorem dX6_changePlaces_14 : decode cX6_changePlaces 14 = .ok (.if_icmp .eq 18, 3) := by decide +kernel
theorem dX6_changePlaces_17 : decode cX6_changePlaces 17 = .ok (.aload_n 0, 1) := by decide +kernel
theorem dX6_changePlaces_18 : decode cX6_changePlaces 18 = .ok (.getfield 45, 3) := by decide +kernel
theorem dX6_changePlaces_21 : decode cX6_changePlaces 21 = .ok (.aload_n 0, 1) := by decide +kernel
theorem dX6_changePlaces_22 : decode cX6_changePlaces 22 = .ok (.getfield 28, 3) := by decide +kernel
theorem dX6_changePlaces_25 : decode cX6_changePlaces 25 = .ok (.iload_n 2, 1) := by decide +kernel
theorem dX6_changePlaces_26 : decode cX6_changePlaces 26 = .ok (.invokevirtual 135, 3) := by decide +kernel
theorem dX6_changePlaces_29 : decode cX6_changePlaces 29 = .ok (.ifCond .eq 9, 3) := by decide +kernel
theorem dX6_changePlaces_32 : decode cX6_changePlaces 32 = .ok (.aload_n 0, 1) := by decide +kernel
theorem dX6_changePlaces_33 : decode cX6_changePlaces 33 = .ok (.aload_n 1, 1) := by decide +kernel
theorem dX6_changePlaces_34 : decode cX6_changePlaces 34 = .ok (.iload_n 2, 1) := by decide +kernel
theorem dX6_changePlaces_35 : decode cX6_changePlaces 35 = .ok (.invokevirtual 141, 3) := by decide +kernel
theorem dX6_changePlaces_38 : decode cX6_changePlaces 38 = .ok (.iinc 2 1, 3) := by decide +kernel
theorem dX6_changePlaces_41 : decode cX6_changePlaces 41 = .ok (.goto (-39), 3) := by decide +kernel
theorem dX6_changePlaces_44 : decode cX6_changePlaces 44 = .ok (.return_, 1) := by decide +kernel
set_option maxRecDepth 20000 in
theorem ggX6_changePlace_X0_layOn : GoodIn wsX6_changePlace wsX0_layOn := goodIn_r _ [6, 7, 8, 9, 10, 5, 11, 42] (by decide +kernel) (by decide +kernel)
set_option maxRecDepth 20000 in
theorem gX6_changePlace_X0_layOn : GoodIn wsX6_changePlace (wsV RX6 145 RX0 yX0_layOn wsX0_layOn) := goodIn_app (goodIn_of _ (by decide +kernel)) ggX6_changePlace_X0_layOn
set_option maxRecDepth 20000 in
theorem ggX6_changePlace_X0_cutDown : GoodIn wsX6_changePlace wsX0_cutDown := goodIn_r _ [15, 7, 8, 9, 10, 5, 11, 16, 17, 18, 42] (by decide +kernel) (by decide +kernel)
set_option maxRecDepth 20000 in
theorem gX6_changePlace_X0_cutDown : GoodIn wsX6_changePlace (wsV RX6 148 RX0 yX0_cutDown wsX0_cutDown) := goodIn_app (goodIn_of _ (by decide +kernel)) ggX6_changePlace_X0_cutDown
set_option maxRecDepth 20000 in
theorem ggX6_changePlace_X0_dopeDown : GoodIn wsX6_changePlace wsX0_dopeDown := goodIn_r _ [22, 7, 8, 9, 10, 5, 11, 16, 17, 18, 23, 24, 25, 26, 27, 28, 29, 30, 42] (by decide +kernel) (by decide +kernel)
set_option maxRecDepth 20000 in
theorem gX6_changePlace_X0_dopeDown : GoodIn wsX6_changePlace (wsV RX6 151 RX0 yX0_dopeDown wsX0_dopeDown) := goodIn_app (goodIn_of _ (by decide +kernel)) ggX6_changePlace_X0_dopeDown
theorem dX6_changePlace_0 : decode cX6_changePlace 0 = .ok (.aload_n 1, 1) := by decide +kernel
theorem dX6_changePlace_1 : decode cX6_changePlace 1 = .ok (.getfield 70, 3) := by decide +kernel
theorem dX6_changePlace_4 : decode cX6_changePlace 4 = .ok (.lookupswitch 66 #[(0, 28), (1, 47)], 28) := by decide +kernel
theorem dX6_changePlace_32 : decode cX6_changePlace 32 = .ok (.aload_n 0, 1) := by decide +kernel
theorem dX6_changePlace_33 : decode cX6_changePlace 33 = .ok (.getfield 37, 3) := by decide +kernel
theorem dX6_changePlace_36 : decode cX6_changePlace 36 = .ok (.iload_n 2, 1) := by decide +kernel
theorem dX6_changePlace_37 : decode cX6_changePlace 37 = .ok (.aload_n 1, 1) := by decide +kernel
theorem dX6_changePlace_38 : decode cX6_changePlace 38 = .ok (.getfield 90, 3) := by decide +kernel
theorem dX6_changePlace_41 : decode cX6_changePlace 41 = .ok (.aload_n 1, 1) := by decide +kernel
theorem dX6_changePlace_42 : decode cX6_changePlace 42 = .ok (.getfield 87, 3) := by decide +kernel
theorem dX6_changePlace_45 : decode cX6_changePlace 45 = .ok (.invokevirtual 145, 3) := by decide +kernel
theorem dX6_changePlace_48 : decode cX6_changePlace 48 = .ok (.goto 31, 3) := by decide +kernel
theorem dX6_changePlace_51 : decode cX6_changePlace 51 = .ok (.aload_n 0, 1) := by decide +kernel
theorem dX6_changePlace_52 : decode cX6_changePlace 52 = .ok (.getfield 37, 3) := by decide +kernel
theorem dX6_changePlace_55 : decode cX6_changePlace 55 = .ok (.iload_n 2, 1) := by decide +kernel
theorem dX6_changePlace_56 : decode cX6_changePlace 56 = .ok (.aload_n 1, 1) := by decide +kernel
theorem dX6_changePlace_57 : decode cX6_changePlace 57 = .ok (.getfield 97, 3) := by decide +kernel
theorem dX6_changePlace_60 : decode cX6_changePlace 60 = .ok (.aload_n 1, 1) := by decide +kernel
theorem dX6_changePlace_61 : decode cX6_changePlace 61 = .ok (.getfield 87, 3) := by decide +kernel
theorem dX6_changePlace_64 : decode cX6_changePlace 64 = .ok (.invokevirtual 148, 3) := by decide +kernel
theorem dX6_changePlace_67 : decode cX6_changePlace 67 = .ok (.goto 12, 3) := by decide +kernel
theorem dX6_changePlace_70 : decode cX6_changePlace 70 = .ok (.aload_n 0, 1) := by decide +kernel
theorem dX6_changePlace_71 : decode cX6_changePlace 71 = .ok (.getfield 37, 3) := by decide +kernel
theorem dX6_changePlace_74 : decode cX6_changePlace 74 = .ok (.iload_n 2, 1) := by decide +kernel
theorem dX6_changePlace_75 : decode cX6_changePlace 75 = .ok (.aload_n 1, 1) := by decide +kernel
theorem dX6_changePlace_76 : decode cX6_changePlace 76 = .ok (.invokevirtual 151, 3) := by decide +kernel
theorem dX6_changePlace_79 : decode cX6_changePlace 79 = .ok (.return_, 1) := by decide +kernel
theorem dX7_init_0 : decode cX7_init 0 = .ok (.aload_n 0, 1) := by decide +kernel
theorem dX7_init_1 : decode cX7_init 1 = .ok (.invokespecial 1, 3) := by decide +kernel
theorem dX7_init_4 : decode cX7_init 4 = .ok (.aload_n 0, 1) := by decide +kernel
theorem dX7_init_5 : decode cX7_init 5 = .ok (.iconst 0, 1) := by decide +kernel
theorem dX7_init_6 : decode cX7_init 6 = .ok (.putfield 7, 3) := by decide +kernel
theorem dX7_init_9 : decode cX7_init 9 = .ok (.aload_n 0, 1) := by decide +kernel
theorem dX7_init_10 : decode cX7_init 10 = .ok (.iconst 0, 1) := by decide +kernel
theorem dX7_init_11 : decode cX7_init 11 = .ok (.putfield 13, 3) := by decide +kernel
theorem dX7_init_14 : decode cX7_init 14 = .ok (.aload_n 0, 1) := by decide +kernel
theorem dX7_init_15 : decode cX7_init 15 = .ok (.iconst 0, 1) := by decide +kernel
theorem dX7_init_16 : decode cX7_init 16 = .ok (.putfield 16, 3) := by decide +kernel
theorem dX7_init_19 : decode cX7_init 19 = .ok (.aload_n 0, 1) := by decide +kernel
theorem dX7_init_20 : decode cX7_init 20 = .ok (.iconst 0, 1) := by decide +kernel
theorem dX7_init_21 : decode cX7_init 21 = .ok (.putfield 19, 3) := by decide +kernel
theorem dX7_init_24 : decode cX7_init 24 = .ok (.aload_n 0, 1) := by decide +kernel
theorem dX7_init_25 : decode cX7_init 25 = .ok (.iconst 0, 1) := by decide +kernel
theorem dX7_init_26 : decode cX7_init 26 = .ok (.putfield 22, 3) := by decide +kernel
theorem dX7_init_29 : decode cX7_init 29 = .ok (.aload_n 0, 1) := by decide +kernel
theorem dX7_init_30 : decode cX7_init 30 = .ok (.iconst 0, 1) := by decide +kernel
theorem dX7_init_31 : decode cX7_init 31 = .ok (.putfield 25, 3) := by decide +kernel
theorem dX7_init_34 : decode cX7_init 34 = .ok (.aload_n 0, 1) := by decide +kernel
theorem dX7_init_35 : decode cX7_init 35 = .ok (.iconst 0, 1) := by decide +kernel
theorem dX7_init_36 : decode cX7_init 36 = .ok (.putfield 28, 3) := by decide +kernel
theorem dX7_init_39 : decode cX7_init 39 = .ok (.aload_n 0, 1) := by decide +kernel
theorem dX7_init_40 : decode cX7_init 40 = .ok (.iconst 0, 1) := by decide +kernel
theorem dX7_init_41 : decode cX7_init 41 = .ok (.putfield 31, 3) := by decide +kernel
theorem dX7_init_44 : decode cX7_init 44 = .ok (.return_, 1) := by decide +kernel
theorem dX8_init_0 : decode cX8_init 0 = .ok (.aload_n 0, 1) := by decide +kernel
theorem dX8_init_1 : decode cX8_init 1 = .ok (.invokespecial 3, 3) := by decide +kernel
theorem dX8_init_4 : decode cX8_init 4 = .ok (.aload_n 0, 1) := by decide +kernel
theorem dX8_init_5 : decode cX8_init 5 = .ok (.sipush 600, 3) := by decide +kernel
theorem dX8_init_8 : decode cX8_init 8 = .ok (.newarray .int, 2) := by decide +kernel
theorem dX8_init_10 : decode cX8_init 10 = .ok (.putfield 9, 3) := by decide +kernel
theorem dX8_init_13 : decode cX8_init 13 = .ok (.aload_n 0, 1) := by decide +kernel
theorem dX8_init_14 : decode cX8_init 14 = .ok (.iconst 0, 1) := by decide +kernel
theorem dX8_init_15 : decode cX8_init 15 = .ok (.putfield 15, 3) := by decide +kernel
theorem dX8_init_18 : decode cX8_init 18 = .ok (.return_, 1) := by decide +kernel
theorem dX8_append_0 : decode cX8_append 0 = .ok (.iconst 3, 1) := by decide +kernel
theorem dX8_append_1 : decode cX8_append 1 = .ok (.istore_n 2, 1) := by decide +kernel
theorem dX8_append_2 : decode cX8_append 2 = .ok (.iload_n 2, 1) := by decide +kernel
theorem dX8_append_3 : decode cX8_append 3 = .ok (.ifCond .lt 48, 3) := by decide +kernel
theorem dX8_append_6 : decode cX8_append 6 = .ok (.aload_n 0, 1) := by decide +kernel
theorem dX8_append_7 : decode cX8_append 7 = .ok (.getfield 15, 3) := by decide +kernel
theorem dX8_append_10 : decode cX8_append 10 = .ok (.sipush 600, 3) := by decide +kernel
theorem dX8_append_13 : decode cX8_append 13 = .ok (.if_icmp .ge 38, 3) := by decide +kernel
theorem dX8_append_16 : decode cX8_append 16 = .ok (.aload_n 0, 1) := by decide +kernel
theorem dX8_append_17 : decode cX8_append 17 = .ok (.getfield 9, 3) := by decide +kernel
theorem dX8_append_20 : decode cX8_append 20 = .ok (.aload_n 0, 1) := by decide +kernel
theorem dX8_append_21 : decode cX8_append 21 = .ok (.getfield 15, 3) := by decide +kernel
theorem dX8_append_24 : decode cX8_append 24 = .ok (.iload_n 1, 1) := by decide +kernel
theorem dX8_append_25 : decode cX8_append 25 = .ok (.bipush 8, 2) := by decide +kernel
theorem dX8_append_27 : decode cX8_append 27 = .ok (.iload_n 2, 1) := by decide +kernel
theorem dX8_append_28 : decode cX8_append 28 = .ok (.imul, 1) := by decide +kernel
theorem dX8_append_29 : decode cX8_append 29 = .ok (.iushr, 1) := by decide +kernel
theorem dX8_append_30 : decode cX8_append 30 = .ok (.sipush 255, 3) := by decide +kernel
theorem dX8_append_33 : decode cX8_append 33 = .ok (.iand, 1) := by decide +kernel
theorem dX8_append_34 : decode cX8_append 34 = .ok (.iastore, 1) := by decide +kernel
theorem dX8_append_35 : decode cX8_append 35 = .ok (.aload_n 0, 1) := by decide +kernel
theorem dX8_append_36 : decode cX8_append 36 = .ok (.dup, 1) := by decide +kernel
theorem dX8_append_37 : decode cX8_append 37 = .ok (.getfield 15, 3) := by decide +kernel
theorem dX8_append_40 : decode cX8_append 40 = .ok (.iconst 1, 1) := by decide +kernel
theorem dX8_append_41 : decode cX8_append 41 = .ok (.iadd, 1) := by decide +kernel
theorem dX8_append_42 : decode cX8_append 42 = .ok (.putfield 15, 3) := by decide +kernel
theorem dX8_append_45 : decode cX8_append 45 = .ok (.iinc 2 (-1), 3) := by decide +kernel
theorem dX8_append_48 : decode cX8_append 48 = .ok (.goto (-46), 3) := by decide +kernel
theorem dX8_append_51 : decode cX8_append 51 = .ok (.return_, 1) := by decide +kernel
theorem dX9_init_0 : decode cX9_init 0 = .ok (.aload_n 0, 1) := by decide +kernel
theorem dX9_init_1 : decode cX9_init 1 = .ok (.invokespecial 3, 3) := by decide +kernel
theorem dX9_init_4 : decode cX9_init 4 = .ok (.aload_n 0, 1) := by decide +kernel
theorem dX9_init_5 : decode cX9_init 5 = .ok (.iconst 0, 1) := by decide +kernel
theorem dX9_init_6 : decode cX9_init 6 = .ok (.putfield 11, 3) := by decide +kernel
theorem dX9_init_9 : decode cX9_init 9 = .ok (.aload_n 0, 1) := by decide +kernel
theorem dX9_init_10 : decode cX9_init 10 = .ok (.iconst 0, 1) := by decide +kernel
theorem dX9_init_11 : decode cX9_init 11 = .ok (.putfield 15, 3) := by decide +kernel
theorem dX9_init_14 : decode cX9_init 14 = .ok (.aload_n 0, 1) := by decide +kernel
theorem dX9_init_15 : decode cX9_init 15 = .ok (.iconst 0, 1) := by decide +kernel
theorem dX9_init_16 : decode cX9_init 16 = .ok (.putfield 18, 3) := by decide +kernel
theorem dX9_init_19 : decode cX9_init 19 = .ok (.aload_n 0, 1) := by decide +kernel
theorem dX9_init_20 : decode cX9_init 20 = .ok (.aload_n 1, 1) := by decide +kernel
theorem dX9_init_21 : decode cX9_init 21 = .ok (.putfield 21, 3) := by decide +kernel
theorem dX9_init_24 : decode cX9_init 24 = .ok (.return_, 1) := by decide +kernel
set_option maxRecDepth 20000 in
theorem ggX9_begin_X9_next : GoodIn wsX9_begin wsX9_next := goodIn_r _ [6, 1, 7, 8, 9, 10, 11, 5, 12, 13, 14, 15, 16, 17, 18, 19, 20, 21, 22, 23, 24] (by decide +kernel) (by decide +kernel)
