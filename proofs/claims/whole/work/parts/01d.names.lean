set_option maxRecDepth 20000 in
theorem gX9_begin_X9_next : GoodIn wsX9_begin (wsV RX9 25 RX9 yX9_next wsX9_next) := goodIn_app (goodIn_of _ (by decide +kernel)) ggX9_begin_X9_next
theorem dX9_begin_0 : decode cX9_begin 0 = .ok (.aload_n 0, 1) := by decide +kernel
theorem dX9_begin_1 : decode cX9_begin 1 = .ok (.iconst 0, 1) := by decide +kernel
theorem dX9_begin_2 : decode cX9_begin 2 = .ok (.putfield 18, 3) := by decide +kernel
theorem dX9_begin_5 : decode cX9_begin 5 = .ok (.aload_n 0, 1) := by decide +kernel
theorem dX9_begin_6 : decode cX9_begin 6 = .ok (.invokevirtual 25, 3) := by decide +kernel
theorem dX9_begin_9 : decode cX9_begin 9 = .ok (.return_, 1) := by decide +kernel
set_option maxRecDepth 20000 in
theorem ggX9_next_X9_isBlank : GoodIn wsX9_next wsX9_isBlank := goodIn_r _ [8] (by decide +kernel) (by decide +kernel)
set_option maxRecDepth 20000 in
theorem gX9_next_X9_isBlank : GoodIn wsX9_next (va_wsS RX9 37 yX9_isBlank wsX9_isBlank) := goodIn_app (goodIn_of _ (by decide +kernel)) ggX9_next_X9_isBlank
set_option maxRecDepth 20000 in
theorem ggX9_next_X9_kindOf : GoodIn wsX9_next wsX9_kindOf := goodIn_r _ [11, 12, 13, 14] (by decide +kernel) (by decide +kernel)
set_option maxRecDepth 20000 in
theorem gX9_next_X9_kindOf : GoodIn wsX9_next (va_wsS RX9 41 yX9_kindOf wsX9_kindOf) := goodIn_app (goodIn_of _ (by decide +kernel)) ggX9_next_X9_kindOf
theorem dX9_next_0 : decode cX9_next 0 = .ok (.aload_n 0, 1) := by decide +kernel
theorem dX9_next_1 : decode cX9_next 1 = .ok (.aload_n 0, 1) := by decide +kernel
theorem dX9_next_2 : decode cX9_next 2 = .ok (.getfield 18, 3) := by decide +kernel
theorem dX9_next_5 : decode cX9_next 5 = .ok (.putfield 15, 3) := by decide +kernel
theorem dX9_next_8 : decode cX9_next 8 = .ok (.aload_n 0, 1) := by decide +kernel
theorem dX9_next_9 : decode cX9_next 9 = .ok (.getfield 15, 3) := by decide +kernel
theorem dX9_next_12 : decode cX9_next 12 = .ok (.aload_n 0, 1) := by decide +kernel
theorem dX9_next_13 : decode cX9_next 13 = .ok (.getfield 21, 3) := by decide +kernel
theorem dX9_next_16 : decode cX9_next 16 = .ok (.getfield 28, 3) := by decide +kernel
theorem dX9_next_19 : decode cX9_next 19 = .ok (.if_icmp .ge 34, 3) := by decide +kernel
theorem dX9_next_22 : decode cX9_next 22 = .ok (.aload_n 0, 1) := by decide +kernel
theorem dX9_next_23 : decode cX9_next 23 = .ok (.getfield 21, 3) := by decide +kernel
theorem dX9_next_26 : decode cX9_next 26 = .ok (.getfield 33, 3) := by decide +kernel
theorem dX9_next_29 : decode cX9_next 29 = .ok (.aload_n 0, 1) := by decide +kernel
theorem dX9_next_30 : decode cX9_next 30 = .ok (.getfield 15, 3) := by decide +kernel
theorem dX9_next_33 : decode cX9_next 33 = .ok (.iaload, 1) := by decide +kernel
theorem dX9_next_34 : decode cX9_next 34 = .ok (.invokestatic 37, 3) := by decide +kernel
theorem dX9_next_37 : decode cX9_next 37 = .ok (.ifCond .eq 16, 3) := by decide +kernel
theorem dX9_next_40 : decode cX9_next 40 = .ok (.aload_n 0, 1) := by decide +kernel
theorem dX9_next_41 : decode cX9_next 41 = .ok (.dup, 1) := by decide +kernel
theorem dX9_next_42 : decode cX9_next 42 = .ok (.getfield 15, 3) := by decide +kernel
theorem dX9_next_45 : decode cX9_next 45 = .ok (.iconst 1, 1) := by decide +kernel
theorem dX9_next_46 : decode cX9_next 46 = .ok (.iadd, 1) := by decide +kernel
theorem dX9_next_47 : decode cX9_next 47 = .ok (.putfield 15, 3) := by decide +kernel
theorem dX9_next_50 : decode cX9_next 50 = .ok (.goto (-42), 3) := by decide +kernel
theorem dX9_next_53 : decode cX9_next 53 = .ok (.aload_n 0, 1) := by decide +kernel
theorem dX9_next_54 : decode cX9_next 54 = .ok (.aload_n 0, 1) := by decide +kernel
theorem dX9_next_55 : decode cX9_next 55 = .ok (.getfield 15, 3) := by decide +kernel
theorem dX9_next_58 : decode cX9_next 58 = .ok (.putfield 18, 3) := by decide +kernel
theorem dX9_next_61 : decode cX9_next 61 = .ok (.aload_n 0, 1) := by decide +kernel
theorem dX9_next_62 : decode cX9_next 62 = .ok (.iconst 0, 1) := by decide +kernel
theorem dX9_next_63 : decode cX9_next 63 = .ok (.putfield 11, 3) := by decide +kernel
theorem dX9_next_66 : decode cX9_next 66 = .ok (.aload_n 0, 1) := by decide +kernel
theorem dX9_next_67 : decode cX9_next 67 = .ok (.getfield 15, 3) := by decide +kernel
theorem dX9_next_70 : decode cX9_next 70 = .ok (.aload_n 0, 1) := by decide +kernel
theorem dX9_next_71 : decode cX9_next 71 = .ok (.getfield 21, 3) := by decide +kernel
theorem dX9_next_74 : decode cX9_next 74 = .ok (.getfield 28, 3) := by decide +kernel
theorem dX9_next_77 : decode cX9_next 77 = .ok (.if_icmp .ge 32, 3) := by decide +kernel
theorem dX9_next_80 : decode cX9_next 80 = .ok (.aload_n 0, 1) := by decide +kernel
theorem dX9_next_81 : decode cX9_next 81 = .ok (.aload_n 0, 1) := by decide +kernel
theorem dX9_next_82 : decode cX9_next 82 = .ok (.getfield 21, 3) := by decide +kernel
theorem dX9_next_85 : decode cX9_next 85 = .ok (.getfield 33, 3) := by decide +kernel
theorem dX9_next_88 : decode cX9_next 88 = .ok (.aload_n 0, 1) := by decide +kernel
theorem dX9_next_89 : decode cX9_next 89 = .ok (.getfield 15, 3) := by decide +kernel
theorem dX9_next_92 : decode cX9_next 92 = .ok (.iaload, 1) := by decide +kernel
theorem dX9_next_93 : decode cX9_next 93 = .ok (.invokestatic 41, 3) := by decide +kernel
theorem dX9_next_96 : decode cX9_next 96 = .ok (.putfield 11, 3) := by decide +kernel
theorem dX9_next_99 : decode cX9_next 99 = .ok (.aload_n 0, 1) := by decide +kernel
theorem dX9_next_100 : decode cX9_next 100 = .ok (.dup, 1) := by decide +kernel
theorem dX9_next_101 : decode cX9_next 101 = .ok (.getfield 18, 3) := by decide +kernel
theorem dX9_next_104 : decode cX9_next 104 = .ok (.iconst 1, 1) := by decide +kernel
theorem dX9_next_105 : decode cX9_next 105 = .ok (.iadd, 1) := by decide +kernel
theorem dX9_next_106 : decode cX9_next 106 = .ok (.putfield 18, 3) := by decide +kernel
theorem dX9_next_109 : decode cX9_next 109 = .ok (.aload_n 0, 1) := by decide +kernel
theorem dX9_next_110 : decode cX9_next 110 = .ok (.getfield 11, 3) := by decide +kernel
theorem dX9_next_113 : decode cX9_next 113 = .ok (.iconst 3, 1) := by decide +kernel
theorem dX9_next_114 : decode cX9_next 114 = .ok (.if_icmp .eq 52, 3) := by decide +kernel
theorem dX9_next_117 : decode cX9_next 117 = .ok (.aload_n 0, 1) := by decide +kernel
theorem dX9_next_118 : decode cX9_next 118 = .ok (.getfield 18, 3) := by decide +kernel
theorem dX9_next_121 : decode cX9_next 121 = .ok (.aload_n 0, 1) := by decide +kernel
theorem dX9_next_122 : decode cX9_next 122 = .ok (.getfield 21, 3) := by decide +kernel
theorem dX9_next_125 : decode cX9_next 125 = .ok (.getfield 28, 3) := by decide +kernel
theorem dX9_next_128 : decode cX9_next 128 = .ok (.if_icmp .ge 38, 3) := by decide +kernel
theorem dX9_next_131 : decode cX9_next 131 = .ok (.aload_n 0, 1) := by decide +kernel
theorem dX9_next_132 : decode cX9_next 132 = .ok (.getfield 21, 3) := by decide +kernel
theorem dX9_next_135 : decode cX9_next 135 = .ok (.getfield 33, 3) := by decide +kernel
theorem dX9_next_138 : decode cX9_next 138 = .ok (.aload_n 0, 1) := by decide +kernel
theorem dX9_next_139 : decode cX9_next 139 = .ok (.getfield 18, 3) := by decide +kernel
theorem dX9_next_142 : decode cX9_next 142 = .ok (.iaload, 1) := by decide +kernel
theorem dX9_next_143 : decode cX9_next 143 = .ok (.invokestatic 41, 3) := by decide +kernel
theorem dX9_next_146 : decode cX9_next 146 = .ok (.aload_n 0, 1) := by decide +kernel
theorem dX9_next_147 : decode cX9_next 147 = .ok (.getfield 11, 3) := by decide +kernel
theorem dX9_next_150 : decode cX9_next 150 = .ok (.if_icmp .ne 16, 3) := by decide +kernel
theorem dX9_next_153 : decode cX9_next 153 = .ok (.aload_n 0, 1) := by decide +kernel
theorem dX9_next_154 : decode cX9_next 154 = .ok (.dup, 1) := by decide +kernel
theorem dX9_next_155 : decode cX9_next 155 = .ok (.getfield 18, 3) := by decide +kernel
theorem dX9_next_158 : decode cX9_next 158 = .ok (.iconst 1, 1) := by decide +kernel
theorem dX9_next_159 : decode cX9_next 159 = .ok (.iadd, 1) := by decide +kernel
theorem dX9_next_160 : decode cX9_next 160 = .ok (.putfield 18, 3) := by decide +kernel
theorem dX9_next_163 : decode cX9_next 163 = .ok (.goto (-54), 3) := by decide +kernel
theorem dX9_next_166 : decode cX9_next 166 = .ok (.return_, 1) := by decide +kernel
theorem dX9_isAtEnd_0 : decode cX9_isAtEnd 0 = .ok (.aload_n 0, 1) := by decide +kernel
theorem dX9_isAtEnd_1 : decode cX9_isAtEnd 1 = .ok (.getfield 11, 3) := by decide +kernel
theorem dX9_isAtEnd_4 : decode cX9_isAtEnd 4 = .ok (.ifCond .ne 7, 3) := by decide +kernel
theorem dX9_isAtEnd_7 : decode cX9_isAtEnd 7 = .ok (.iconst 1, 1) := by decide +kernel
theorem dX9_isAtEnd_8 : decode cX9_isAtEnd 8 = .ok (.goto 4, 3) := by decide +kernel
theorem dX9_isAtEnd_11 : decode cX9_isAtEnd 11 = .ok (.iconst 0, 1) := by decide +kernel
theorem dX9_isAtEnd_12 : decode cX9_isAtEnd 12 = .ok (.ireturn, 1) := by decide +kernel
theorem dX9_isNumber_0 : decode cX9_isNumber 0 = .ok (.aload_n 0, 1) := by decide +kernel
theorem dX9_isNumber_1 : decode cX9_isNumber 1 = .ok (.getfield 11, 3) := by decide +kernel
theorem dX9_isNumber_4 : decode cX9_isNumber 4 = .ok (.iconst 2, 1) := by decide +kernel
theorem dX9_isNumber_5 : decode cX9_isNumber 5 = .ok (.if_icmp .ne 7, 3) := by decide +kernel
theorem dX9_isNumber_8 : decode cX9_isNumber 8 = .ok (.iconst 1, 1) := by decide +kernel
theorem dX9_isNumber_9 : decode cX9_isNumber 9 = .ok (.goto 4, 3) := by decide +kernel
theorem dX9_isNumber_12 : decode cX9_isNumber 12 = .ok (.iconst 0, 1) := by decide +kernel
theorem dX9_isNumber_13 : decode cX9_isNumber 13 = .ok (.ireturn, 1) := by decide +kernel
theorem dX9_isSign_0 : decode cX9_isSign 0 = .ok (.aload_n 0, 1) := by decide +kernel
theorem dX9_isSign_1 : decode cX9_isSign 1 = .ok (.getfield 11, 3) := by decide +kernel
theorem dX9_isSign_4 : decode cX9_isSign 4 = .ok (.iconst 3, 1) := by decide +kernel
theorem dX9_isSign_5 : decode cX9_isSign 5 = .ok (.if_icmp .ne 23, 3) := by decide +kernel
theorem dX9_isSign_8 : decode cX9_isSign 8 = .ok (.aload_n 0, 1) := by decide +kernel
theorem dX9_isSign_9 : decode cX9_isSign 9 = .ok (.getfield 21, 3) := by decide +kernel
theorem dX9_isSign_12 : decode cX9_isSign 12 = .ok (.getfield 33, 3) := by decide +kernel
theorem dX9_isSign_15 : decode cX9_isSign 15 = .ok (.aload_n 0, 1) := by decide +kernel
theorem dX9_isSign_16 : decode cX9_isSign 16 = .ok (.getfield 15, 3) := by decide +kernel
theorem dX9_isSign_19 : decode cX9_isSign 19 = .ok (.iaload, 1) := by decide +kernel
theorem dX9_isSign_20 : decode cX9_isSign 20 = .ok (.iload_n 1, 1) := by decide +kernel
theorem dX9_isSign_21 : decode cX9_isSign 21 = .ok (.if_icmp .ne 7, 3) := by decide +kernel
theorem dX9_isSign_24 : decode cX9_isSign 24 = .ok (.iconst 1, 1) := by decide +kernel
theorem dX9_isSign_25 : decode cX9_isSign 25 = .ok (.goto 4, 3) := by decide +kernel
theorem dX9_isSign_28 : decode cX9_isSign 28 = .ok (.iconst 0, 1) := by decide +kernel
theorem dX9_isSign_29 : decode cX9_isSign 29 = .ok (.ireturn, 1) := by decide +kernel
set_option maxRecDepth 20000 in
theorem ggX9_stepWord_X11_nameOf : GoodIn wsX9_stepWord wsX11_nameOf := goodIn_r _ [3] (by decide +kernel) (by decide +kernel)
set_option maxRecDepth 20000 in
theorem gX9_stepWord_X11_nameOf_n45 : GoodIn wsX9_stepWord (wsX11_nameOf) := ggX9_stepWord_X11_nameOf
set_option maxRecDepth 20000 in
theorem ggX9_stepWord_X9_isWord : GoodIn wsX9_stepWord wsX9_isWord := goodIn_r _ [8, 9, 10, 11, 12, 13, 14, 15, 16, 17, 18, 19, 20, 21, 22, 23, 24, 25, 26, 27, 28, 29, 30, 31, 32, 33, 34, 35, 36, 37, 38, 39, 40, 41, 42, 43, 44, 45, 46, 47, 48, 49, 50, 51, 52, 53, 54, 55, 56, 57, 58, 59, 60, 61, 62, 63, 64, 65, 66, 67] (by decide +kernel) (by decide +kernel)
set_option maxRecDepth 20000 in
theorem gX9_stepWord_X9_isWord : GoodIn wsX9_stepWord (wsV RX9 49 RX9 yX9_isWord wsX9_isWord) := goodIn_app (goodIn_of _ (by decide +kernel)) ggX9_stepWord_X9_isWord
theorem dX9_stepWord_0 : decode cX9_stepWord 0 = .ok (.iconst 0, 1) := by decide +kernel
theorem dX9_stepWord_1 : decode cX9_stepWord 1 = .ok (.istore_n 1, 1) := by decide +kernel
theorem dX9_stepWord_2 : decode cX9_stepWord 2 = .ok (.iload_n 1, 1) := by decide +kernel
theorem dX9_stepWord_3 : decode cX9_stepWord 3 = .ok (.bipush 14, 2) := by decide +kernel
theorem dX9_stepWord_5 : decode cX9_stepWord 5 = .ok (.if_icmp .ge 22, 3) := by decide +kernel
theorem dX9_stepWord_8 : decode cX9_stepWord 8 = .ok (.aload_n 0, 1) := by decide +kernel
theorem dX9_stepWord_9 : decode cX9_stepWord 9 = .ok (.iload_n 1, 1) := by decide +kernel
theorem dX9_stepWord_10 : decode cX9_stepWord 10 = .ok (.invokestatic 45, 3) := by decide +kernel
theorem dX9_stepWord_13 : decode cX9_stepWord 13 = .ok (.invokevirtual 49, 3) := by decide +kernel
theorem dX9_stepWord_16 : decode cX9_stepWord 16 = .ok (.ifCond .eq 5, 3) := by decide +kernel
theorem dX9_stepWord_19 : decode cX9_stepWord 19 = .ok (.iload_n 1, 1) := by decide +kernel
theorem dX9_stepWord_20 : decode cX9_stepWord 20 = .ok (.ireturn, 1) := by decide +kernel
theorem dX9_stepWord_21 : decode cX9_stepWord 21 = .ok (.iinc 1 1, 3) := by decide +kernel
theorem dX9_stepWord_24 : decode cX9_stepWord 24 = .ok (.goto (-22), 3) := by decide +kernel
theorem dX9_stepWord_27 : decode cX9_stepWord 27 = .ok (.iconst (-1), 1) := by decide +kernel
theorem dX9_stepWord_28 : decode cX9_stepWord 28 = .ok (.ireturn, 1) := by decide +kernel
set_option maxRecDepth 20000 in
theorem ggX9_stuff_X9_stuffOf : GoodIn wsX9_stuff wsX9_stuffOf := goodIn_r _ [8] (by decide +kernel) (by decide +kernel)
set_option maxRecDepth 20000 in
theorem gX9_stuff_X9_stuffOf : GoodIn wsX9_stuff (va_wsS RX9 53 yX9_stuffOf wsX9_stuffOf) := goodIn_app (goodIn_of _ (by decide +kernel)) ggX9_stuff_X9_stuffOf
theorem dX9_stuff_0 : decode cX9_stuff 0 = .ok (.aload_n 0, 1) := by decide +kernel
theorem dX9_stuff_1 : decode cX9_stuff 1 = .ok (.getfield 11, 3) := by decide +kernel
theorem dX9_stuff_4 : decode cX9_stuff 4 = .ok (.iconst 1, 1) := by decide +kernel
theorem dX9_stuff_5 : decode cX9_stuff 5 = .ok (.if_icmp .ne 16, 3) := by decide +kernel
theorem dX9_stuff_8 : decode cX9_stuff 8 = .ok (.aload_n 0, 1) := by decide +kernel
theorem dX9_stuff_9 : decode cX9_stuff 9 = .ok (.getfield 18, 3) := by decide +kernel
theorem dX9_stuff_12 : decode cX9_stuff 12 = .ok (.aload_n 0, 1) := by decide +kernel
theorem dX9_stuff_13 : decode cX9_stuff 13 = .ok (.getfield 15, 3) := by decide +kernel
theorem dX9_stuff_16 : decode cX9_stuff 16 = .ok (.isub, 1) := by decide +kernel
theorem dX9_stuff_17 : decode cX9_stuff 17 = .ok (.iconst 1, 1) := by decide +kernel
theorem dX9_stuff_18 : decode cX9_stuff 18 = .ok (.if_icmp .eq 5, 3) := by decide +kernel
theorem dX9_stuff_21 : decode cX9_stuff 21 = .ok (.iconst (-1), 1) := by decide +kernel
theorem dX9_stuff_22 : decode cX9_stuff 22 = .ok (.ireturn, 1) := by decide +kernel
theorem dX9_stuff_23 : decode cX9_stuff 23 = .ok (.aload_n 0, 1) := by decide +kernel
theorem dX9_stuff_24 : decode cX9_stuff 24 = .ok (.getfield 21, 3) := by decide +kernel
theorem dX9_stuff_27 : decode cX9_stuff 27 = .ok (.getfield 33, 3) := by decide +kernel
theorem dX9_stuff_30 : decode cX9_stuff 30 = .ok (.aload_n 0, 1) := by decide +kernel
theorem dX9_stuff_31 : decode cX9_stuff 31 = .ok (.getfield 15, 3) := by decide +kernel
theorem dX9_stuff_34 : decode cX9_stuff 34 = .ok (.iaload, 1) := by decide +kernel
theorem dX9_stuff_35 : decode cX9_stuff 35 = .ok (.invokestatic 53, 3) := by decide +kernel
theorem dX9_stuff_38 : decode cX9_stuff 38 = .ok (.ireturn, 1) := by decide +kernel
set_option maxRecDepth 20000 in
theorem ggX9_stuffs_X9_stuffOf : GoodIn wsX9_stuffs wsX9_stuffOf := goodIn_r _ [8] (by decide +kernel) (by decide +kernel)
set_option maxRecDepth 20000 in
theorem gX9_stuffs_X9_stuffOf : GoodIn wsX9_stuffs (va_wsS RX9 53 yX9_stuffOf wsX9_stuffOf) := goodIn_app (goodIn_of _ (by decide +kernel)) ggX9_stuffs_X9_stuffOf
set_option maxRecDepth 20000 in
theorem ggX9_stuffs_X11_hasKind : GoodIn wsX9_stuffs wsX11_hasKind := goodIn_r _ [11] (by decide +kernel) (by decide +kernel)
set_option maxRecDepth 20000 in
theorem gX9_stuffs_X11_hasKind_n56 : GoodIn wsX9_stuffs (wsX11_hasKind) := ggX9_stuffs_X11_hasKind
theorem dX9_stuffs_0 : decode cX9_stuffs 0 = .ok (.aload_n 0, 1) := by decide +kernel
theorem dX9_stuffs_1 : decode cX9_stuffs 1 = .ok (.getfield 11, 3) := by decide +kernel
theorem dX9_stuffs_4 : decode cX9_stuffs 4 = .ok (.iconst 1, 1) := by decide +kernel
theorem dX9_stuffs_5 : decode cX9_stuffs 5 = .ok (.if_icmp .eq 5, 3) := by decide +kernel
theorem dX9_stuffs_8 : decode cX9_stuffs 8 = .ok (.iconst (-1), 1) := by decide +kernel
theorem dX9_stuffs_9 : decode cX9_stuffs 9 = .ok (.ireturn, 1) := by decide +kernel
theorem dX9_stuffs_10 : decode cX9_stuffs 10 = .ok (.iconst 0, 1) := by decide +kernel
theorem dX9_stuffs_11 : decode cX9_stuffs 11 = .ok (.istore_n 1, 1) := by decide +kernel
theorem dX9_stuffs_12 : decode cX9_stuffs 12 = .ok (.aload_n 0, 1) := by decide +kernel
theorem dX9_stuffs_13 : decode cX9_stuffs 13 = .ok (.getfield 15, 3) := by decide +kernel
theorem dX9_stuffs_16 : decode cX9_stuffs 16 = .ok (.istore_n 2, 1) := by decide +kernel
theorem dX9_stuffs_17 : decode cX9_stuffs 17 = .ok (.iload_n 2, 1) := by decide +kernel
theorem dX9_stuffs_18 : decode cX9_stuffs 18 = .ok (.aload_n 0, 1) := by decide +kernel
theorem dX9_stuffs_19 : decode cX9_stuffs 19 = .ok (.getfield 18, 3) := by decide +kernel
theorem dX9_stuffs_22 : decode cX9_stuffs 22 = .ok (.if_icmp .ge 43, 3) := by decide +kernel
theorem dX9_stuffs_25 : decode cX9_stuffs 25 = .ok (.aload_n 0, 1) := by decide +kernel
theorem dX9_stuffs_26 : decode cX9_stuffs 26 = .ok (.getfield 21, 3) := by decide +kernel
theorem dX9_stuffs_29 : decode cX9_stuffs 29 = .ok (.getfield 33, 3) := by decide +kernel
theorem dX9_stuffs_32 : decode cX9_stuffs 32 = .ok (.iload_n 2, 1) := by decide +kernel
theorem dX9_stuffs_33 : decode cX9_stuffs 33 = .ok (.iaload, 1) := by decide +kernel
theorem dX9_stuffs_34 : decode cX9_stuffs 34 = .ok (.invokestatic 53, 3) := by decide +kernel
theorem dX9_stuffs_37 : decode cX9_stuffs 37 = .ok (.istore_n 3, 1) := by decide +kernel
theorem dX9_stuffs_38 : decode cX9_stuffs 38 = .ok (.iload_n 3, 1) := by decide +kernel
theorem dX9_stuffs_39 : decode cX9_stuffs 39 = .ok (.iconst (-1), 1) := by decide +kernel
theorem dX9_stuffs_40 : decode cX9_stuffs 40 = .ok (.if_icmp .eq 11, 3) := by decide +kernel
theorem dX9_stuffs_43 : decode cX9_stuffs 43 = .ok (.iload_n 1, 1) := by decide +kernel
theorem dX9_stuffs_44 : decode cX9_stuffs 44 = .ok (.iload_n 3, 1) := by decide +kernel
theorem dX9_stuffs_45 : decode cX9_stuffs 45 = .ok (.invokestatic 56, 3) := by decide +kernel
theorem dX9_stuffs_48 : decode cX9_stuffs 48 = .ok (.ifCond .eq 5, 3) := by decide +kernel
theorem dX9_stuffs_51 : decode cX9_stuffs 51 = .ok (.iconst (-1), 1) := by decide +kernel
theorem dX9_stuffs_52 : decode cX9_stuffs 52 = .ok (.ireturn, 1) := by decide +kernel
theorem dX9_stuffs_53 : decode cX9_stuffs 53 = .ok (.iload_n 1, 1) := by decide +kernel
theorem dX9_stuffs_54 : decode cX9_stuffs 54 = .ok (.iconst 1, 1) := by decide +kernel
theorem dX9_stuffs_55 : decode cX9_stuffs 55 = .ok (.iload_n 3, 1) := by decide +kernel
theorem dX9_stuffs_56 : decode cX9_stuffs 56 = .ok (.ishl, 1) := by decide +kernel
theorem dX9_stuffs_57 : decode cX9_stuffs 57 = .ok (.ior, 1) := by decide +kernel
theorem dX9_stuffs_58 : decode cX9_stuffs 58 = .ok (.istore_n 1, 1) := by decide +kernel
theorem dX9_stuffs_59 : decode cX9_stuffs 59 = .ok (.iinc 2 1, 3) := by decide +kernel
theorem dX9_stuffs_62 : decode cX9_stuffs 62 = .ok (.goto (-45), 3) := by decide +kernel
theorem dX9_stuffs_65 : decode cX9_stuffs 65 = .ok (.iload_n 1, 1) := by decide +kernel
theorem dX9_stuffs_66 : decode cX9_stuffs 66 = .ok (.ireturn, 1) := by decide +kernel
theorem dX9_value_0 : decode cX9_value 0 = .ok (.aload_n 0, 1) := by decide +kernel
theorem dX9_value_1 : decode cX9_value 1 = .ok (.getfield 11, 3) := by decide +kernel
theorem dX9_value_4 : decode cX9_value 4 = .ok (.iconst 2, 1) := by decide +kernel
theorem dX9_value_5 : decode cX9_value 5 = .ok (.if_icmp .ne 16, 3) := by decide +kernel
theorem dX9_value_8 : decode cX9_value 8 = .ok (.aload_n 0, 1) := by decide +kernel
theorem dX9_value_9 : decode cX9_value 9 = .ok (.getfield 18, 3) := by decide +kernel
theorem dX9_value_12 : decode cX9_value 12 = .ok (.aload_n 0, 1) := by decide +kernel
theorem dX9_value_13 : decode cX9_value 13 = .ok (.getfield 15, 3) := by decide +kernel
theorem dX9_value_16 : decode cX9_value 16 = .ok (.isub, 1) := by decide +kernel
theorem dX9_value_17 : decode cX9_value 17 = .ok (.iconst 2, 1) := by decide +kernel
theorem dX9_value_18 : decode cX9_value 18 = .ok (.if_icmp .le 5, 3) := by decide +kernel
theorem dX9_value_21 : decode cX9_value 21 = .ok (.iconst (-1), 1) := by decide +kernel
theorem dX9_value_22 : decode cX9_value 22 = .ok (.ireturn, 1) := by decide +kernel
theorem dX9_value_23 : decode cX9_value 23 = .ok (.iconst 0, 1) := by decide +kernel
theorem dX9_value_24 : decode cX9_value 24 = .ok (.istore_n 1, 1) := by decide +kernel
theorem dX9_value_25 : decode cX9_value 25 = .ok (.aload_n 0, 1) := by decide +kernel
theorem dX9_value_26 : decode cX9_value 26 = .ok (.getfield 15, 3) := by decide +kernel
theorem dX9_value_29 : decode cX9_value 29 = .ok (.istore_n 2, 1) := by decide +kernel
theorem dX9_value_30 : decode cX9_value 30 = .ok (.iload_n 2, 1) := by decide +kernel
theorem dX9_value_31 : decode cX9_value 31 = .ok (.aload_n 0, 1) := by decide +kernel
theorem dX9_value_32 : decode cX9_value 32 = .ok (.getfield 18, 3) := by decide +kernel
theorem dX9_value_35 : decode cX9_value 35 = .ok (.if_icmp .ge 27, 3) := by decide +kernel
theorem dX9_value_38 : decode cX9_value 38 = .ok (.bipush 10, 2) := by decide +kernel
theorem dX9_value_40 : decode cX9_value 40 = .ok (.iload_n 1, 1) := by decide +kernel
theorem dX9_value_41 : decode cX9_value 41 = .ok (.imul, 1) := by decide +kernel
theorem dX9_value_42 : decode cX9_value 42 = .ok (.aload_n 0, 1) := by decide +kernel
theorem dX9_value_43 : decode cX9_value 43 = .ok (.getfield 21, 3) := by decide +kernel
theorem dX9_value_46 : decode cX9_value 46 = .ok (.getfield 33, 3) := by decide +kernel
theorem dX9_value_49 : decode cX9_value 49 = .ok (.iload_n 2, 1) := by decide +kernel
theorem dX9_value_50 : decode cX9_value 50 = .ok (.iaload, 1) := by decide +kernel
theorem dX9_value_51 : decode cX9_value 51 = .ok (.iadd, 1) := by decide +kernel
theorem dX9_value_52 : decode cX9_value 52 = .ok (.bipush 48, 2) := by decide +kernel
theorem dX9_value_54 : decode cX9_value 54 = .ok (.isub, 1) := by decide +kernel
theorem dX9_value_55 : decode cX9_value 55 = .ok (.istore_n 1, 1) := by decide +kernel
theorem dX9_value_56 : decode cX9_value 56 = .ok (.iinc 2 1, 3) := by decide +kernel
theorem dX9_value_59 : decode cX9_value 59 = .ok (.goto (-29), 3) := by decide +kernel
theorem dX9_value_62 : decode cX9_value 62 = .ok (.iload_n 1, 1) := by decide +kernel
theorem dX9_value_63 : decode cX9_value 63 = .ok (.ireturn, 1) := by decide +kernel
set_option maxRecDepth 20000 in
theorem ggX9_isWord_J0_length_8abf5 : GoodIn wsX9_isWord wsJ0_length_8abf5 := goodIn_r _ [9, 10, 11, 12, 13, 8, 14, 15, 16] (by decide +kernel) (by decide +kernel)
set_option maxRecDepth 20000 in
theorem gX9_isWord_J0_length_8abf5 : GoodIn wsX9_isWord (wsV RX9 60 RJ0 yJ0_length_8abf5 wsJ0_length_8abf5) := goodIn_app (goodIn_of _ (by decide +kernel)) ggX9_isWord_J0_length_8abf5
set_option maxRecDepth 20000 in
theorem ggX9_isWord_J0_charAt_5068e : GoodIn wsX9_isWord wsJ0_charAt_5068e := goodIn_r _ [20, 10, 21, 22, 23, 8, 24, 15, 16, 25, 26, 27, 28, 29, 30, 31, 32, 33, 34, 35, 36, 37, 38, 39, 40, 41, 42, 43, 44, 45, 46, 47, 48, 49, 50, 51, 52, 53] (by decide +kernel) (by decide +kernel)
set_option maxRecDepth 20000 in
theorem gX9_isWord_J0_charAt_5068e : GoodIn wsX9_isWord (wsV RX9 65 RJ0 yJ0_charAt_5068e wsJ0_charAt_5068e) := goodIn_app (goodIn_of _ (by decide +kernel)) ggX9_isWord_J0_charAt_5068e
theorem dX9_isWord_0 : decode cX9_isWord 0 = .ok (.aload_n 0, 1) := by decide +kernel
theorem dX9_isWord_1 : decode cX9_isWord 1 = .ok (.getfield 11, 3) := by decide +kernel
theorem dX9_isWord_4 : decode cX9_isWord 4 = .ok (.iconst 1, 1) := by decide +kernel
theorem dX9_isWord_5 : decode cX9_isWord 5 = .ok (.if_icmp .ne 19, 3) := by decide +kernel
theorem dX9_isWord_8 : decode cX9_isWord 8 = .ok (.aload_n 0, 1) := by decide +kernel
theorem dX9_isWord_9 : decode cX9_isWord 9 = .ok (.getfield 18, 3) := by decide +kernel
theorem dX9_isWord_12 : decode cX9_isWord 12 = .ok (.aload_n 0, 1) := by decide +kernel
theorem dX9_isWord_13 : decode cX9_isWord 13 = .ok (.getfield 15, 3) := by decide +kernel
theorem dX9_isWord_16 : decode cX9_isWord 16 = .ok (.isub, 1) := by decide +kernel
theorem dX9_isWord_17 : decode cX9_isWord 17 = .ok (.aload_n 1, 1) := by decide +kernel
theorem dX9_isWord_18 : decode cX9_isWord 18 = .ok (.invokevirtual 60, 3) := by decide +kernel
theorem dX9_isWord_21 : decode cX9_isWord 21 = .ok (.if_icmp .eq 5, 3) := by decide +kernel
theorem dX9_isWord_24 : decode cX9_isWord 24 = .ok (.iconst 0, 1) := by decide +kernel
theorem dX9_isWord_25 : decode cX9_isWord 25 = .ok (.ireturn, 1) := by decide +kernel
theorem dX9_isWord_26 : decode cX9_isWord 26 = .ok (.iconst 0, 1) := by decide +kernel
theorem dX9_isWord_27 : decode cX9_isWord 27 = .ok (.istore_n 2, 1) := by decide +kernel
theorem dX9_isWord_28 : decode cX9_isWord 28 = .ok (.iload_n 2, 1) := by decide +kernel
theorem dX9_isWord_29 : decode cX9_isWord 29 = .ok (.aload_n 1, 1) := by decide +kernel
theorem dX9_isWord_30 : decode cX9_isWord 30 = .ok (.invokevirtual 60, 3) := by decide +kernel
theorem dX9_isWord_33 : decode cX9_isWord 33 = .ok (.if_icmp .ge 33, 3) := by decide +kernel
theorem dX9_isWord_36 : decode cX9_isWord 36 = .ok (.aload_n 0, 1) := by decide +kernel
theorem dX9_isWord_37 : decode cX9_isWord 37 = .ok (.getfield 21, 3) := by decide +kernel
theorem dX9_isWord_40 : decode cX9_isWord 40 = .ok (.getfield 33, 3) := by decide +kernel
theorem dX9_isWord_43 : decode cX9_isWord 43 = .ok (.aload_n 0, 1) := by decide +kernel
theorem dX9_isWord_44 : decode cX9_isWord 44 = .ok (.getfield 15, 3) := by decide +kernel
theorem dX9_isWord_47 : decode cX9_isWord 47 = .ok (.iload_n 2, 1) := by decide +kernel
theorem dX9_isWord_48 : decode cX9_isWord 48 = .ok (.iadd, 1) := by decide +kernel
theorem dX9_isWord_49 : decode cX9_isWord 49 = .ok (.iaload, 1) := by decide +kernel
theorem dX9_isWord_50 : decode cX9_isWord 50 = .ok (.aload_n 1, 1) := by decide +kernel
theorem dX9_isWord_51 : decode cX9_isWord 51 = .ok (.iload_n 2, 1) := by decide +kernel
theorem dX9_isWord_52 : decode cX9_isWord 52 = .ok (.invokevirtual 65, 3) := by decide +kernel
theorem dX9_isWord_55 : decode cX9_isWord 55 = .ok (.if_icmp .eq 5, 3) := by decide +kernel
theorem dX9_isWord_58 : decode cX9_isWord 58 = .ok (.iconst 0, 1) := by decide +kernel
theorem dX9_isWord_59 : decode cX9_isWord 59 = .ok (.ireturn, 1) := by decide +kernel
theorem dX9_isWord_60 : decode cX9_isWord 60 = .ok (.iinc 2 1, 3) := by decide +kernel
theorem dX9_isWord_63 : decode cX9_isWord 63 = .ok (.goto (-35), 3) := by decide +kernel
theorem dX9_isWord_66 : decode cX9_isWord 66 = .ok (.iconst 1, 1) := by decide +kernel
theorem dX9_isWord_67 : decode cX9_isWord 67 = .ok (.ireturn, 1) := by decide +kernel
theorem dX9_stuffOf_0 : decode cX9_stuffOf 0 = .ok (.iload_n 0, 1) := by decide +kernel
theorem dX9_stuffOf_1 : decode cX9_stuffOf 1 = .ok (.bipush 97, 2) := by decide +kernel
theorem dX9_stuffOf_3 : decode cX9_stuffOf 3 = .ok (.if_icmp .lt 18, 3) := by decide +kernel
theorem dX9_stuffOf_6 : decode cX9_stuffOf 6 = .ok (.iload_n 0, 1) := by decide +kernel
theorem dX9_stuffOf_7 : decode cX9_stuffOf 7 = .ok (.bipush 103, 2) := by decide +kernel
theorem dX9_stuffOf_9 : decode cX9_stuffOf 9 = .ok (.if_icmp .gt 12, 3) := by decide +kernel
theorem dX9_stuffOf_12 : decode cX9_stuffOf 12 = .ok (.iload_n 0, 1) := by decide +kernel
theorem dX9_stuffOf_13 : decode cX9_stuffOf 13 = .ok (.bipush 97, 2) := by decide +kernel
theorem dX9_stuffOf_15 : decode cX9_stuffOf 15 = .ok (.isub, 1) := by decide +kernel
theorem dX9_stuffOf_16 : decode cX9_stuffOf 16 = .ok (.iconst 1, 1) := by decide +kernel
theorem dX9_stuffOf_17 : decode cX9_stuffOf 17 = .ok (.iadd, 1) := by decide +kernel
theorem dX9_stuffOf_18 : decode cX9_stuffOf 18 = .ok (.goto 4, 3) := by decide +kernel
theorem dX9_stuffOf_21 : decode cX9_stuffOf 21 = .ok (.iconst (-1), 1) := by decide +kernel
theorem dX9_stuffOf_22 : decode cX9_stuffOf 22 = .ok (.ireturn, 1) := by decide +kernel
theorem dX9_isBlank_0 : decode cX9_isBlank 0 = .ok (.iload_n 0, 1) := by decide +kernel
theorem dX9_isBlank_1 : decode cX9_isBlank 1 = .ok (.bipush 32, 2) := by decide +kernel
theorem dX9_isBlank_3 : decode cX9_isBlank 3 = .ok (.if_icmp .eq 9, 3) := by decide +kernel
theorem dX9_isBlank_6 : decode cX9_isBlank 6 = .ok (.iload_n 0, 1) := by decide +kernel
theorem dX9_isBlank_7 : decode cX9_isBlank 7 = .ok (.bipush 10, 2) := by decide +kernel
theorem dX9_isBlank_9 : decode cX9_isBlank 9 = .ok (.if_icmp .ne 7, 3) := by decide +kernel
theorem dX9_isBlank_12 : decode cX9_isBlank 12 = .ok (.iconst 1, 1) := by decide +kernel
theorem dX9_isBlank_13 : decode cX9_isBlank 13 = .ok (.goto 4, 3) := by decide +kernel
theorem dX9_isBlank_16 : decode cX9_isBlank 16 = .ok (.iconst 0, 1) := by decide +kernel
theorem dX9_isBlank_17 : decode cX9_isBlank 17 = .ok (.ireturn, 1) := by decide +kernel
set_option maxRecDepth 20000 in
theorem ggX9_kindOf_X11_within : GoodIn wsX9_kindOf wsX11_within := goodIn_r _ [3] (by decide +kernel) (by decide +kernel)
set_option maxRecDepth 20000 in
theorem gX9_kindOf_X11_within_n69 : GoodIn wsX9_kindOf (wsX11_within) := ggX9_kindOf_X11_within
theorem dX9_kindOf_0 : decode cX9_kindOf 0 = .ok (.iload_n 0, 1) := by decide +kernel
theorem dX9_kindOf_1 : decode cX9_kindOf 1 = .ok (.bipush 97, 2) := by decide +kernel
theorem dX9_kindOf_3 : decode cX9_kindOf 3 = .ok (.bipush 122, 2) := by decide +kernel
theorem dX9_kindOf_5 : decode cX9_kindOf 5 = .ok (.invokestatic 69, 3) := by decide +kernel
theorem dX9_kindOf_8 : decode cX9_kindOf 8 = .ok (.ifCond .eq 5, 3) := by decide +kernel
theorem dX9_kindOf_11 : decode cX9_kindOf 11 = .ok (.iconst 1, 1) := by decide +kernel
theorem dX9_kindOf_12 : decode cX9_kindOf 12 = .ok (.ireturn, 1) := by decide +kernel
theorem dX9_kindOf_13 : decode cX9_kindOf 13 = .ok (.iload_n 0, 1) := by decide +kernel
theorem dX9_kindOf_14 : decode cX9_kindOf 14 = .ok (.bipush 48, 2) := by decide +kernel
theorem dX9_kindOf_16 : decode cX9_kindOf 16 = .ok (.bipush 57, 2) := by decide +kernel
theorem dX9_kindOf_18 : decode cX9_kindOf 18 = .ok (.invokestatic 69, 3) := by decide +kernel
theorem dX9_kindOf_21 : decode cX9_kindOf 21 = .ok (.ifCond .eq 7, 3) := by decide +kernel
theorem dX9_kindOf_24 : decode cX9_kindOf 24 = .ok (.iconst 2, 1) := by decide +kernel
theorem dX9_kindOf_25 : decode cX9_kindOf 25 = .ok (.goto 4, 3) := by decide +kernel
theorem dX9_kindOf_28 : decode cX9_kindOf 28 = .ok (.iconst 3, 1) := by decide +kernel
theorem dX9_kindOf_29 : decode cX9_kindOf 29 = .ok (.ireturn, 1) := by decide +kernel
theorem dX10_init_0 : decode cX10_init 0 = .ok (.aload_n 0, 1) := by decide +kernel
theorem dX10_init_1 : decode cX10_init 1 = .ok (.invokespecial 3, 3) := by decide +kernel
theorem dX10_init_4 : decode cX10_init 4 = .ok (.aload_n 0, 1) := by decide +kernel
theorem dX10_init_5 : decode cX10_init 5 = .ok (.sipush 2880, 3) := by decide +kernel
theorem dX10_init_8 : decode cX10_init 8 = .ok (.newarray .int, 2) := by decide +kernel
theorem dX10_init_10 : decode cX10_init 10 = .ok (.putfield 9, 3) := by decide +kernel
theorem dX10_init_13 : decode cX10_init 13 = .ok (.aload_n 0, 1) := by decide +kernel
theorem dX10_init_14 : decode cX10_init 14 = .ok (.iconst 0, 1) := by decide +kernel
theorem dX10_init_15 : decode cX10_init 15 = .ok (.putfield 15, 3) := by decide +kernel
theorem dX10_init_18 : decode cX10_init 18 = .ok (.aload_n 0, 1) := by decide +kernel
theorem dX10_init_19 : decode cX10_init 19 = .ok (.aload_n 1, 1) := by decide +kernel
theorem dX10_init_20 : decode cX10_init 20 = .ok (.getfield 19, 3) := by decide +kernel
theorem dX10_init_23 : decode cX10_init 23 = .ok (.putfield 24, 3) := by decide +kernel
theorem dX10_init_26 : decode cX10_init 26 = .ok (.aload_n 0, 1) := by decide +kernel
theorem dX10_init_27 : decode cX10_init 27 = .ok (.aload_n 2, 1) := by decide +kernel
theorem dX10_init_28 : decode cX10_init 28 = .ok (.putfield 25, 3) := by decide +kernel
theorem dX10_init_31 : decode cX10_init 31 = .ok (.return_, 1) := by decide +kernel
set_option maxRecDepth 20000 in
theorem ggX10_countOpen_X2_markOpen : GoodIn wsX10_countOpen wsX2_markOpen := goodIn_r _ [7, 8, 9, 10, 6, 11, 12, 13, 14, 15, 16, 17, 18, 19, 20, 21, 22, 23, 24, 25, 26, 27, 28, 29, 30, 31, 45, 46, 47] (by decide +kernel) (by decide +kernel)
set_option maxRecDepth 20000 in
theorem gX10_countOpen_X2_markOpen : GoodIn wsX10_countOpen (wsV RX10 29 RX2 yX2_markOpen wsX2_markOpen) := goodIn_app (goodIn_of _ (by decide +kernel)) ggX10_countOpen_X2_markOpen
set_option maxRecDepth 20000 in
theorem ggX10_countOpen_X10_countMarked : GoodIn wsX10_countOpen wsX10_countMarked := goodIn_r _ [36, 1, 2, 37, 38, 39, 6, 40, 12, 18, 19, 20, 41, 42, 43, 44, 45, 46, 47] (by decide +kernel) (by decide +kernel)
set_option maxRecDepth 20000 in
theorem gX10_countOpen_X10_countMarked : GoodIn wsX10_countOpen (wsV RX10 35 RX10 yX10_countMarked wsX10_countMarked) := goodIn_app (goodIn_of _ (by decide +kernel)) ggX10_countOpen_X10_countMarked
theorem dX10_countOpen_0 : decode cX10_countOpen 0 = .ok (.aload_n 0, 1) := by decide +kernel
theorem dX10_countOpen_1 : decode cX10_countOpen 1 = .ok (.getfield 25, 3) := by decide +kernel
theorem dX10_countOpen_4 : decode cX10_countOpen 4 = .ok (.aload_n 0, 1) := by decide +kernel
theorem dX10_countOpen_5 : decode cX10_countOpen 5 = .ok (.getfield 24, 3) := by decide +kernel
theorem dX10_countOpen_8 : decode cX10_countOpen 8 = .ok (.invokevirtual 29, 3) := by decide +kernel
theorem dX10_countOpen_11 : decode cX10_countOpen 11 = .ok (.aload_n 0, 1) := by decide +kernel
theorem dX10_countOpen_12 : decode cX10_countOpen 12 = .ok (.iconst 1, 1) := by decide +kernel
theorem dX10_countOpen_13 : decode cX10_countOpen 13 = .ok (.iconst 1, 1) := by decide +kernel
theorem dX10_countOpen_14 : decode cX10_countOpen 14 = .ok (.invokevirtual 35, 3) := by decide +kernel
theorem dX10_countOpen_17 : decode cX10_countOpen 17 = .ok (.ireturn, 1) := by decide +kernel
set_option maxRecDepth 20000 in
theorem ggX10_countFloating_X2_markStanding : GoodIn wsX10_countFloating wsX2_markStanding := goodIn_r _ [7, 8, 9, 10, 6, 11, 12, 13, 14, 15, 16, 17, 18, 19, 20, 21, 22, 23, 24, 25, 26, 27, 28, 29, 30, 31, 45, 46, 47] (by decide +kernel) (by decide +kernel)
set_option maxRecDepth 20000 in
theorem gX10_countFloating_X2_markStanding : GoodIn wsX10_countFloating (wsV RX10 39 RX2 yX2_markStanding wsX2_markStanding) := goodIn_app (goodIn_of _ (by decide +kernel)) ggX10_countFloating_X2_markStanding
set_option maxRecDepth 20000 in
theorem ggX10_countFloating_X10_countMarked : GoodIn wsX10_countFloating wsX10_countMarked := goodIn_r _ [36, 1, 2, 37, 38, 39, 6, 40, 12, 18, 19, 20, 41, 42, 43, 44, 45, 46, 47] (by decide +kernel) (by decide +kernel)
set_option maxRecDepth 20000 in
theorem gX10_countFloating_X10_countMarked : GoodIn wsX10_countFloating (wsV RX10 35 RX10 yX10_countMarked wsX10_countMarked) := goodIn_app (goodIn_of _ (by decide +kernel)) ggX10_countFloating_X10_countMarked
theorem dX10_countFloating_0 : decode cX10_countFloating 0 = .ok (.aload_n 0, 1) := by decide +kernel
theorem dX10_countFloating_1 : decode cX10_countFloating 1 = .ok (.getfield 25, 3) := by decide +kernel
theorem dX10_countFloating_4 : decode cX10_countFloating 4 = .ok (.aload_n 0, 1) := by decide +kernel
theorem dX10_countFloating_5 : decode cX10_countFloating 5 = .ok (.getfield 24, 3) := by decide +kernel
theorem dX10_countFloating_8 : decode cX10_countFloating 8 = .ok (.invokevirtual 39, 3) := by decide +kernel
theorem dX10_countFloating_11 : decode cX10_countFloating 11 = .ok (.aload_n 0, 1) := by decide +kernel
theorem dX10_countFloating_12 : decode cX10_countFloating 12 = .ok (.iconst 0, 1) := by decide +kernel
theorem dX10_countFloating_13 : decode cX10_countFloating 13 = .ok (.sipush 254, 3) := by decide +kernel
theorem dX10_countFloating_16 : decode cX10_countFloating 16 = .ok (.invokevirtual 35, 3) := by decide +kernel
theorem dX10_countFloating_19 : decode cX10_countFloating 19 = .ok (.ireturn, 1) := by decide +kernel
set_option maxRecDepth 20000 in
theorem ggX10_coat_X2_markOpen : GoodIn wsX10_coat wsX2_markOpen := goodIn_r _ [8, 9, 10, 11, 7, 12, 13, 14, 15, 16, 17, 18, 19, 20, 21, 22, 23, 24, 25, 26, 27, 28, 29, 30, 31, 32, 59, 60, 61] (by decide +kernel) (by decide +kernel)
set_option maxRecDepth 20000 in
theorem gX10_coat_X2_markOpen : GoodIn wsX10_coat (wsV RX10 29 RX2 yX2_markOpen wsX2_markOpen) := goodIn_app (goodIn_of _ (by decide +kernel)) ggX10_coat_X2_markOpen
set_option maxRecDepth 20000 in
theorem ggX10_coat_X10_pickSurface : GoodIn wsX10_coat wsX10_pickSurface := goodIn_r _ [37, 3, 1, 38, 39, 40, 7, 41, 13, 42, 43, 44, 36, 45, 2, 31, 20, 32, 46, 47, 48, 49, 50, 55, 56, 57, 58, 59, 60, 61] (by decide +kernel) (by decide +kernel)
set_option maxRecDepth 20000 in
theorem gX10_coat_X10_pickSurface : GoodIn wsX10_coat (wsV RX10 42 RX10 yX10_pickSurface wsX10_pickSurface) := goodIn_app (goodIn_of _ (by decide +kernel)) ggX10_coat_X10_pickSurface
set_option maxRecDepth 20000 in
theorem ggX10_coat_X10_putPicked : GoodIn wsX10_coat wsX10_putPicked := goodIn_r _ [54, 3, 2, 50, 55, 56, 57, 58] (by decide +kernel) (by decide +kernel)
set_option maxRecDepth 20000 in
theorem gX10_coat_X10_putPicked : GoodIn wsX10_coat (wsV RX10 45 RX10 yX10_putPicked wsX10_putPicked) := goodIn_app (goodIn_of _ (by decide +kernel)) ggX10_coat_X10_putPicked
theorem dX10_coat_0 : decode cX10_coat 0 = .ok (.iconst 1, 1) := by decide +kernel
theorem dX10_coat_1 : decode cX10_coat 1 = .ok (.istore_n 3, 1) := by decide +kernel
theorem dX10_coat_2 : decode cX10_coat 2 = .ok (.iconst 0, 1) := by decide +kernel
theorem dX10_coat_3 : decode cX10_coat 3 = .ok (.istore 4, 2) := by decide +kernel
theorem dX10_coat_5 : decode cX10_coat 5 = .ok (.iload 4, 2) := by decide +kernel
theorem dX10_coat_7 : decode cX10_coat 7 = .ok (.iload_n 2, 1) := by decide +kernel
theorem dX10_coat_8 : decode cX10_coat 8 = .ok (.if_icmp .ge 46, 3) := by decide +kernel
theorem dX10_coat_11 : decode cX10_coat 11 = .ok (.iload_n 3, 1) := by decide +kernel
theorem dX10_coat_12 : decode cX10_coat 12 = .ok (.ifCond .eq 42, 3) := by decide +kernel
theorem dX10_coat_15 : decode cX10_coat 15 = .ok (.aload_n 0, 1) := by decide +kernel
theorem dX10_coat_16 : decode cX10_coat 16 = .ok (.getfield 25, 3) := by decide +kernel
theorem dX10_coat_19 : decode cX10_coat 19 = .ok (.aload_n 0, 1) := by decide +kernel
theorem dX10_coat_20 : decode cX10_coat 20 = .ok (.getfield 24, 3) := by decide +kernel
theorem dX10_coat_23 : decode cX10_coat 23 = .ok (.invokevirtual 29, 3) := by decide +kernel
theorem dX10_coat_26 : decode cX10_coat 26 = .ok (.aload_n 0, 1) := by decide +kernel
theorem dX10_coat_27 : decode cX10_coat 27 = .ok (.invokevirtual 42, 3) := by decide +kernel
theorem dX10_coat_30 : decode cX10_coat 30 = .ok (.aload_n 0, 1) := by decide +kernel
theorem dX10_coat_31 : decode cX10_coat 31 = .ok (.iload_n 1, 1) := by decide +kernel
theorem dX10_coat_32 : decode cX10_coat 32 = .ok (.invokevirtual 45, 3) := by decide +kernel
theorem dX10_coat_35 : decode cX10_coat 35 = .ok (.aload_n 0, 1) := by decide +kernel
theorem dX10_coat_36 : decode cX10_coat 36 = .ok (.getfield 15, 3) := by decide +kernel
theorem dX10_coat_39 : decode cX10_coat 39 = .ok (.ifCond .le 7, 3) := by decide +kernel
theorem dX10_coat_42 : decode cX10_coat 42 = .ok (.iconst 1, 1) := by decide +kernel
theorem dX10_coat_43 : decode cX10_coat 43 = .ok (.goto 4, 3) := by decide +kernel
theorem dX10_coat_46 : decode cX10_coat 46 = .ok (.iconst 0, 1) := by decide +kernel
theorem dX10_coat_47 : decode cX10_coat 47 = .ok (.istore_n 3, 1) := by decide +kernel
theorem dX10_coat_48 : decode cX10_coat 48 = .ok (.iinc 4 1, 3) := by decide +kernel
theorem dX10_coat_51 : decode cX10_coat 51 = .ok (.goto (-46), 3) := by decide +kernel
theorem dX10_coat_54 : decode cX10_coat 54 = .ok (.return_, 1) := by decide +kernel
set_option maxRecDepth 20000 in
theorem ggX10_etch_X2_markOpen : GoodIn wsX10_etch wsX2_markOpen := goodIn_r _ [8, 9, 10, 11, 7, 12, 13, 14, 15, 16, 17, 18, 19, 20, 21, 22, 23, 24, 25, 26, 27, 28, 29, 30, 31, 32, 59, 60, 61] (by decide +kernel) (by decide +kernel)
set_option maxRecDepth 20000 in
theorem gX10_etch_X2_markOpen : GoodIn wsX10_etch (wsV RX10 29 RX2 yX2_markOpen wsX2_markOpen) := goodIn_app (goodIn_of _ (by decide +kernel)) ggX10_etch_X2_markOpen
set_option maxRecDepth 20000 in
theorem ggX10_etch_X10_pickExposed : GoodIn wsX10_etch wsX10_pickExposed := goodIn_r _ [37, 3, 2, 19, 20, 21, 38, 39, 40, 36, 41, 1, 31, 32, 42, 43, 44, 7, 45, 13, 46, 47, 48, 49, 50, 55, 56, 57, 58, 59, 60, 61] (by decide +kernel) (by decide +kernel)
set_option maxRecDepth 20000 in
theorem gX10_etch_X10_pickExposed : GoodIn wsX10_etch (wsV RX10 49 RX10 yX10_pickExposed wsX10_pickExposed) := goodIn_app (goodIn_of _ (by decide +kernel)) ggX10_etch_X10_pickExposed
set_option maxRecDepth 20000 in
theorem ggX10_etch_X10_putPicked : GoodIn wsX10_etch wsX10_putPicked := goodIn_r _ [54, 3, 2, 50, 55, 56, 57, 58] (by decide +kernel) (by decide +kernel)
set_option maxRecDepth 20000 in
theorem gX10_etch_X10_putPicked : GoodIn wsX10_etch (wsV RX10 45 RX10 yX10_putPicked wsX10_putPicked) := goodIn_app (goodIn_of _ (by decide +kernel)) ggX10_etch_X10_putPicked
theorem dX10_etch_0 : decode cX10_etch 0 = .ok (.iconst 1, 1) := by decide +kernel
theorem dX10_etch_1 : decode cX10_etch 1 = .ok (.istore_n 3, 1) := by decide +kernel
theorem dX10_etch_2 : decode cX10_etch 2 = .ok (.iconst 0, 1) := by decide +kernel
theorem dX10_etch_3 : decode cX10_etch 3 = .ok (.istore 4, 2) := by decide +kernel
theorem dX10_etch_5 : decode cX10_etch 5 = .ok (.iload 4, 2) := by decide +kernel
theorem dX10_etch_7 : decode cX10_etch 7 = .ok (.iload_n 2, 1) := by decide +kernel
theorem dX10_etch_8 : decode cX10_etch 8 = .ok (.if_icmp .ge 47, 3) := by decide +kernel
theorem dX10_etch_11 : decode cX10_etch 11 = .ok (.iload_n 3, 1) := by decide +kernel
theorem dX10_etch_12 : decode cX10_etch 12 = .ok (.ifCond .eq 43, 3) := by decide +kernel
theorem dX10_etch_15 : decode cX10_etch 15 = .ok (.aload_n 0, 1) := by decide +kernel
theorem dX10_etch_16 : decode cX10_etch 16 = .ok (.getfield 25, 3) := by decide +kernel
theorem dX10_etch_19 : decode cX10_etch 19 = .ok (.aload_n 0, 1) := by decide +kernel
theorem dX10_etch_20 : decode cX10_etch 20 = .ok (.getfield 24, 3) := by decide +kernel
theorem dX10_etch_23 : decode cX10_etch 23 = .ok (.invokevirtual 29, 3) := by decide +kernel
theorem dX10_etch_26 : decode cX10_etch 26 = .ok (.aload_n 0, 1) := by decide +kernel
theorem dX10_etch_27 : decode cX10_etch 27 = .ok (.iload_n 1, 1) := by decide +kernel
theorem dX10_etch_28 : decode cX10_etch 28 = .ok (.invokevirtual 49, 3) := by decide +kernel
theorem dX10_etch_31 : decode cX10_etch 31 = .ok (.aload_n 0, 1) := by decide +kernel
theorem dX10_etch_32 : decode cX10_etch 32 = .ok (.iconst 0, 1) := by decide +kernel
theorem dX10_etch_33 : decode cX10_etch 33 = .ok (.invokevirtual 45, 3) := by decide +kernel
theorem dX10_etch_36 : decode cX10_etch 36 = .ok (.aload_n 0, 1) := by decide +kernel
theorem dX10_etch_37 : decode cX10_etch 37 = .ok (.getfield 15, 3) := by decide +kernel
theorem dX10_etch_40 : decode cX10_etch 40 = .ok (.ifCond .le 7, 3) := by decide +kernel
theorem dX10_etch_43 : decode cX10_etch 43 = .ok (.iconst 1, 1) := by decide +kernel
theorem dX10_etch_44 : decode cX10_etch 44 = .ok (.goto 4, 3) := by decide +kernel
theorem dX10_etch_47 : decode cX10_etch 47 = .ok (.iconst 0, 1) := by decide +kernel
theorem dX10_etch_48 : decode cX10_etch 48 = .ok (.istore_n 3, 1) := by decide +kernel
theorem dX10_etch_49 : decode cX10_etch 49 = .ok (.iinc 4 1, 3) := by decide +kernel
theorem dX10_etch_52 : decode cX10_etch 52 = .ok (.goto (-47), 3) := by decide +kernel
theorem dX10_etch_55 : decode cX10_etch 55 = .ok (.return_, 1) := by decide +kernel
set_option maxRecDepth 20000 in
theorem ggX10_turn_X2_markOpen : GoodIn wsX10_turn wsX2_markOpen := goodIn_r _ [8, 9, 10, 11, 7, 12, 13, 14, 15, 16, 17, 18, 19, 20, 21, 22, 23, 24, 25, 26, 27, 28, 29, 30, 31, 32, 63, 64, 65] (by decide +kernel) (by decide +kernel)
set_option maxRecDepth 20000 in
theorem gX10_turn_X2_markOpen : GoodIn wsX10_turn (wsV RX10 29 RX2 yX2_markOpen wsX2_markOpen) := goodIn_app (goodIn_of _ (by decide +kernel)) ggX10_turn_X2_markOpen
set_option maxRecDepth 20000 in
theorem ggX10_turn_X10_pickExposed : GoodIn wsX10_turn wsX10_pickExposed := goodIn_r _ [37, 3, 2, 19, 20, 21, 38, 39, 40, 36, 41, 1, 31, 32, 42, 43, 44, 7, 45, 13, 46, 47, 48, 49, 50, 59, 60, 61, 62, 63, 64, 65] (by decide +kernel) (by decide +kernel)
set_option maxRecDepth 20000 in
theorem gX10_turn_X10_pickExposed : GoodIn wsX10_turn (wsV RX10 49 RX10 yX10_pickExposed wsX10_pickExposed) := goodIn_app (goodIn_of _ (by decide +kernel)) ggX10_turn_X10_pickExposed
set_option maxRecDepth 20000 in
theorem ggX10_turn_X10_putPicked : GoodIn wsX10_turn wsX10_putPicked := goodIn_r _ [54, 3, 2, 50, 59, 60, 61, 62] (by decide +kernel) (by decide +kernel)
set_option maxRecDepth 20000 in
theorem gX10_turn_X10_putPicked : GoodIn wsX10_turn (wsV RX10 45 RX10 yX10_putPicked wsX10_putPicked) := goodIn_app (goodIn_of _ (by decide +kernel)) ggX10_turn_X10_putPicked
set_option maxRecDepth 20000 in
theorem ggX10_turn_X10_turnBesidePicked : GoodIn wsX10_turn wsX10_turnBesidePicked := goodIn_r _ [58, 3, 50, 2, 31, 20, 32, 46, 47, 48, 36, 49, 59, 60, 61, 62] (by decide +kernel) (by decide +kernel)
set_option maxRecDepth 20000 in
theorem gX10_turn_X10_turnBesidePicked : GoodIn wsX10_turn (wsV RX10 52 RX10 yX10_turnBesidePicked wsX10_turnBesidePicked) := goodIn_app (goodIn_of _ (by decide +kernel)) ggX10_turn_X10_turnBesidePicked
theorem dX10_turn_0 : decode cX10_turn 0 = .ok (.iload_n 1, 1) := by decide +kernel
theorem dX10_turn_1 : decode cX10_turn 1 = .ok (.iload_n 2, 1) := by decide +kernel
theorem dX10_turn_2 : decode cX10_turn 2 = .ok (.if_icmp .ne 4, 3) := by decide +kernel
theorem dX10_turn_5 : decode cX10_turn 5 = .ok (.return_, 1) := by decide +kernel
theorem dX10_turn_6 : decode cX10_turn 6 = .ok (.aload_n 0, 1) := by decide +kernel
theorem dX10_turn_7 : decode cX10_turn 7 = .ok (.getfield 25, 3) := by decide +kernel
theorem dX10_turn_10 : decode cX10_turn 10 = .ok (.aload_n 0, 1) := by decide +kernel
theorem dX10_turn_11 : decode cX10_turn 11 = .ok (.getfield 24, 3) := by decide +kernel
theorem dX10_turn_14 : decode cX10_turn 14 = .ok (.invokevirtual 29, 3) := by decide +kernel
theorem dX10_turn_17 : decode cX10_turn 17 = .ok (.aload_n 0, 1) := by decide +kernel
theorem dX10_turn_18 : decode cX10_turn 18 = .ok (.iconst 1, 1) := by decide +kernel
theorem dX10_turn_19 : decode cX10_turn 19 = .ok (.iload_n 1, 1) := by decide +kernel
theorem dX10_turn_20 : decode cX10_turn 20 = .ok (.ishl, 1) := by decide +kernel
theorem dX10_turn_21 : decode cX10_turn 21 = .ok (.invokevirtual 49, 3) := by decide +kernel
theorem dX10_turn_24 : decode cX10_turn 24 = .ok (.aload_n 0, 1) := by decide +kernel
theorem dX10_turn_25 : decode cX10_turn 25 = .ok (.iload_n 2, 1) := by decide +kernel
theorem dX10_turn_26 : decode cX10_turn 26 = .ok (.invokevirtual 45, 3) := by decide +kernel
theorem dX10_turn_29 : decode cX10_turn 29 = .ok (.iconst 0, 1) := by decide +kernel
theorem dX10_turn_30 : decode cX10_turn 30 = .ok (.istore 4, 2) := by decide +kernel
theorem dX10_turn_32 : decode cX10_turn 32 = .ok (.iconst 1, 1) := by decide +kernel
theorem dX10_turn_33 : decode cX10_turn 33 = .ok (.istore 5, 2) := by decide +kernel
theorem dX10_turn_35 : decode cX10_turn 35 = .ok (.iload 5, 2) := by decide +kernel
theorem dX10_turn_37 : decode cX10_turn 37 = .ok (.iload_n 3, 1) := by decide +kernel
theorem dX10_turn_38 : decode cX10_turn 38 = .ok (.if_icmp .ge 28, 3) := by decide +kernel
theorem dX10_turn_41 : decode cX10_turn 41 = .ok (.iload 4, 2) := by decide +kernel
theorem dX10_turn_43 : decode cX10_turn 43 = .ok (.aload_n 0, 1) := by decide +kernel
theorem dX10_turn_44 : decode cX10_turn 44 = .ok (.getfield 15, 3) := by decide +kernel
theorem dX10_turn_47 : decode cX10_turn 47 = .ok (.if_icmp .ge 19, 3) := by decide +kernel
theorem dX10_turn_50 : decode cX10_turn 50 = .ok (.aload_n 0, 1) := by decide +kernel
theorem dX10_turn_51 : decode cX10_turn 51 = .ok (.iload 4, 2) := by decide +kernel
theorem dX10_turn_53 : decode cX10_turn 53 = .ok (.iload_n 1, 1) := by decide +kernel
theorem dX10_turn_54 : decode cX10_turn 54 = .ok (.iload_n 2, 1) := by decide +kernel
theorem dX10_turn_55 : decode cX10_turn 55 = .ok (.invokevirtual 52, 3) := by decide +kernel
theorem dX10_turn_58 : decode cX10_turn 58 = .ok (.istore 4, 2) := by decide +kernel
theorem dX10_turn_60 : decode cX10_turn 60 = .ok (.iinc 5 1, 3) := by decide +kernel
theorem dX10_turn_63 : decode cX10_turn 63 = .ok (.goto (-28), 3) := by decide +kernel
theorem dX10_turn_66 : decode cX10_turn 66 = .ok (.return_, 1) := by decide +kernel
set_option maxRecDepth 20000 in
theorem ggX10_fill_X2_markOpen : GoodIn wsX10_fill wsX2_markOpen := goodIn_r _ [7, 8, 9, 10, 6, 11, 12, 13, 14, 15, 16, 17, 18, 19, 20, 21, 22, 23, 24, 25, 26, 27, 28, 29, 30, 31, 40, 41, 42] (by decide +kernel) (by decide +kernel)
set_option maxRecDepth 20000 in
theorem gX10_fill_X2_markOpen : GoodIn wsX10_fill (wsV RX10 29 RX2 yX2_markOpen wsX2_markOpen) := goodIn_app (goodIn_of _ (by decide +kernel)) ggX10_fill_X2_markOpen
set_option maxRecDepth 20000 in
theorem ggX10_fill_X2_isMarked : GoodIn wsX10_fill wsX2_isMarked := goodIn_r _ [35, 12, 40, 41, 42] (by decide +kernel) (by decide +kernel)
set_option maxRecDepth 20000 in
theorem gX10_fill_X2_isMarked : GoodIn wsX10_fill (wsV RX10 56 RX2 yX2_isMarked wsX2_isMarked) := goodIn_app (goodIn_of _ (by decide +kernel)) ggX10_fill_X2_isMarked
theorem dX10_fill_0 : decode cX10_fill 0 = .ok (.aload_n 0, 1) := by decide +kernel
theorem dX10_fill_1 : decode cX10_fill 1 = .ok (.getfield 25, 3) := by decide +kernel
theorem dX10_fill_4 : decode cX10_fill 4 = .ok (.aload_n 0, 1) := by decide +kernel
theorem dX10_fill_5 : decode cX10_fill 5 = .ok (.getfield 24, 3) := by decide +kernel
theorem dX10_fill_8 : decode cX10_fill 8 = .ok (.invokevirtual 29, 3) := by decide +kernel
theorem dX10_fill_11 : decode cX10_fill 11 = .ok (.iconst 0, 1) := by decide +kernel
theorem dX10_fill_12 : decode cX10_fill 12 = .ok (.istore_n 3, 1) := by decide +kernel
theorem dX10_fill_13 : decode cX10_fill 13 = .ok (.iload_n 3, 1) := by decide +kernel
theorem dX10_fill_14 : decode cX10_fill 14 = .ok (.iload_n 2, 1) := by decide +kernel
theorem dX10_fill_15 : decode cX10_fill 15 = .ok (.sipush 144, 3) := by decide +kernel
theorem dX10_fill_18 : decode cX10_fill 18 = .ok (.imul, 1) := by decide +kernel
theorem dX10_fill_19 : decode cX10_fill 19 = .ok (.if_icmp .ge 34, 3) := by decide +kernel
theorem dX10_fill_22 : decode cX10_fill 22 = .ok (.iload_n 3, 1) := by decide +kernel
theorem dX10_fill_23 : decode cX10_fill 23 = .ok (.sipush 2880, 3) := by decide +kernel
theorem dX10_fill_26 : decode cX10_fill 26 = .ok (.if_icmp .ge 27, 3) := by decide +kernel
theorem dX10_fill_29 : decode cX10_fill 29 = .ok (.aload_n 0, 1) := by decide +kernel
theorem dX10_fill_30 : decode cX10_fill 30 = .ok (.getfield 25, 3) := by decide +kernel
theorem dX10_fill_33 : decode cX10_fill 33 = .ok (.iload_n 3, 1) := by decide +kernel
theorem dX10_fill_34 : decode cX10_fill 34 = .ok (.invokevirtual 56, 3) := by decide +kernel
theorem dX10_fill_37 : decode cX10_fill 37 = .ok (.ifCond .eq 10, 3) := by decide +kernel
theorem dX10_fill_40 : decode cX10_fill 40 = .ok (.aload_n 0, 1) := by decide +kernel
theorem dX10_fill_41 : decode cX10_fill 41 = .ok (.getfield 24, 3) := by decide +kernel
theorem dX10_fill_44 : decode cX10_fill 44 = .ok (.iload_n 3, 1) := by decide +kernel
theorem dX10_fill_45 : decode cX10_fill 45 = .ok (.iload_n 1, 1) := by decide +kernel
theorem dX10_fill_46 : decode cX10_fill 46 = .ok (.iastore, 1) := by decide +kernel
theorem dX10_fill_47 : decode cX10_fill 47 = .ok (.iinc 3 1, 3) := by decide +kernel
theorem dX10_fill_50 : decode cX10_fill 50 = .ok (.goto (-37), 3) := by decide +kernel
theorem dX10_fill_53 : decode cX10_fill 53 = .ok (.return_, 1) := by decide +kernel
theorem dX10_flatten_0 : decode cX10_flatten 0 = .ok (.iconst 0, 1) := by decide +kernel
theorem dX10_flatten_1 : decode cX10_flatten 1 = .ok (.iload_n 1, 1) := by decide +kernel
theorem dX10_flatten_2 : decode cX10_flatten 2 = .ok (.sipush 144, 3) := by decide +kernel
theorem dX10_flatten_5 : decode cX10_flatten 5 = .ok (.imul, 1) := by decide +kernel
theorem dX10_flatten_6 : decode cX10_flatten 6 = .ok (.invokestatic 60, 3) := by decide +kernel
theorem dX10_flatten_9 : decode cX10_flatten 9 = .ok (.istore_n 2, 1) := by decide +kernel
theorem dX10_flatten_10 : decode cX10_flatten 10 = .ok (.iload_n 2, 1) := by decide +kernel
theorem dX10_flatten_11 : decode cX10_flatten 11 = .ok (.sipush 2880, 3) := by decide +kernel
theorem dX10_flatten_14 : decode cX10_flatten 14 = .ok (.if_icmp .ge 16, 3) := by decide +kernel
theorem dX10_flatten_17 : decode cX10_flatten 17 = .ok (.aload_n 0, 1) := by decide +kernel
theorem dX10_flatten_18 : decode cX10_flatten 18 = .ok (.getfield 24, 3) := by decide +kernel
theorem dX10_flatten_21 : decode cX10_flatten 21 = .ok (.iload_n 2, 1) := by decide +kernel
theorem dX10_flatten_22 : decode cX10_flatten 22 = .ok (.iconst 0, 1) := by decide +kernel
theorem dX10_flatten_23 : decode cX10_flatten 23 = .ok (.iastore, 1) := by decide +kernel
theorem dX10_flatten_24 : decode cX10_flatten 24 = .ok (.iinc 2 1, 3) := by decide +kernel
theorem dX10_flatten_27 : decode cX10_flatten 27 = .ok (.goto (-17), 3) := by decide +kernel
theorem dX10_flatten_30 : decode cX10_flatten 30 = .ok (.return_, 1) := by decide +kernel
set_option maxRecDepth 20000 in
theorem ggX10_dropFloating_X2_markStanding : GoodIn wsX10_dropFloating wsX2_markStanding := goodIn_r _ [7, 8, 9, 10, 6, 11, 12, 13, 14, 15, 16, 17, 18, 19, 20, 21, 22, 23, 24, 25, 26, 27, 28, 29, 30, 31, 40, 41, 42] (by decide +kernel) (by decide +kernel)
set_option maxRecDepth 20000 in
theorem gX10_dropFloating_X2_markStanding : GoodIn wsX10_dropFloating (wsV RX10 39 RX2 yX2_markStanding wsX2_markStanding) := goodIn_app (goodIn_of _ (by decide +kernel)) ggX10_dropFloating_X2_markStanding
set_option maxRecDepth 20000 in
theorem ggX10_dropFloating_X2_isMarked : GoodIn wsX10_dropFloating wsX2_isMarked := goodIn_r _ [35, 12, 40, 41, 42] (by decide +kernel) (by decide +kernel)
set_option maxRecDepth 20000 in
theorem gX10_dropFloating_X2_isMarked : GoodIn wsX10_dropFloating (wsV RX10 56 RX2 yX2_isMarked wsX2_isMarked) := goodIn_app (goodIn_of _ (by decide +kernel)) ggX10_dropFloating_X2_isMarked
theorem dX10_dropFloating_0 : decode cX10_dropFloating 0 = .ok (.aload_n 0, 1) := by decide +kernel
theorem dX10_dropFloating_1 : decode cX10_dropFloating 1 = .ok (.getfield 25, 3) := by decide +kernel
theorem dX10_dropFloating_4 : decode cX10_dropFloating 4 = .ok (.aload_n 0, 1) := by decide +kernel
theorem dX10_dropFloating_5 : decode cX10_dropFloating 5 = .ok (.getfield 24, 3) := by decide +kernel
theorem dX10_dropFloating_8 : decode cX10_dropFloating 8 = .ok (.invokevirtual 39, 3) := by decide +kernel
theorem dX10_dropFloating_11 : decode cX10_dropFloating 11 = .ok (.iconst 0, 1) := by decide +kernel
theorem dX10_dropFloating_12 : decode cX10_dropFloating 12 = .ok (.istore_n 1, 1) := by decide +kernel
theorem dX10_dropFloating_13 : decode cX10_dropFloating 13 = .ok (.iload_n 1, 1) := by decide +kernel
theorem dX10_dropFloating_14 : decode cX10_dropFloating 14 = .ok (.sipush 2880, 3) := by decide +kernel
theorem dX10_dropFloating_17 : decode cX10_dropFloating 17 = .ok (.if_icmp .ge 27, 3) := by decide +kernel
theorem dX10_dropFloating_20 : decode cX10_dropFloating 20 = .ok (.aload_n 0, 1) := by decide +kernel
theorem dX10_dropFloating_21 : decode cX10_dropFloating 21 = .ok (.getfield 25, 3) := by decide +kernel
theorem dX10_dropFloating_24 : decode cX10_dropFloating 24 = .ok (.iload_n 1, 1) := by decide +kernel
theorem dX10_dropFloating_25 : decode cX10_dropFloating 25 = .ok (.invokevirtual 56, 3) := by decide +kernel
theorem dX10_dropFloating_28 : decode cX10_dropFloating 28 = .ok (.ifCond .ne 10, 3) := by decide +kernel
theorem dX10_dropFloating_31 : decode cX10_dropFloating 31 = .ok (.aload_n 0, 1) := by decide +kernel
theorem dX10_dropFloating_32 : decode cX10_dropFloating 32 = .ok (.getfield 24, 3) := by decide +kernel
theorem dX10_dropFloating_35 : decode cX10_dropFloating 35 = .ok (.iload_n 1, 1) := by decide +kernel
theorem dX10_dropFloating_36 : decode cX10_dropFloating 36 = .ok (.iconst 0, 1) := by decide +kernel
theorem dX10_dropFloating_37 : decode cX10_dropFloating 37 = .ok (.iastore, 1) := by decide +kernel
theorem dX10_dropFloating_38 : decode cX10_dropFloating 38 = .ok (.iinc 1 1, 3) := by decide +kernel
theorem dX10_dropFloating_41 : decode cX10_dropFloating 41 = .ok (.goto (-28), 3) := by decide +kernel
theorem dX10_dropFloating_44 : decode cX10_dropFloating 44 = .ok (.return_, 1) := by decide +kernel
set_option maxRecDepth 20000 in
theorem ggX10_countMarked_X2_isMarked : GoodIn wsX10_countMarked wsX2_isMarked := goodIn_r _ [7, 8, 16, 17, 18] (by decide +kernel) (by decide +kernel)
set_option maxRecDepth 20000 in
theorem gX10_countMarked_X2_isMarked : GoodIn wsX10_countMarked (wsV RX10 56 RX2 yX2_isMarked wsX2_isMarked) := goodIn_app (goodIn_of _ (by decide +kernel)) ggX10_countMarked_X2_isMarked
set_option maxRecDepth 20000 in
theorem ggX10_countMarked_X11_hasKind : GoodIn wsX10_countMarked wsX11_hasKind := goodIn_r _ [11] (by decide +kernel) (by decide +kernel)
set_option maxRecDepth 20000 in
theorem gX10_countMarked_X11_hasKind_n66 : GoodIn wsX10_countMarked (wsX11_hasKind) := ggX10_countMarked_X11_hasKind
theorem dX10_countMarked_0 : decode cX10_countMarked 0 = .ok (.iconst 0, 1) := by decide +kernel
theorem dX10_countMarked_1 : decode cX10_countMarked 1 = .ok (.istore_n 3, 1) := by decide +kernel
theorem dX10_countMarked_2 : decode cX10_countMarked 2 = .ok (.iconst 0, 1) := by decide +kernel
theorem dX10_countMarked_3 : decode cX10_countMarked 3 = .ok (.istore 4, 2) := by decide +kernel
theorem dX10_countMarked_5 : decode cX10_countMarked 5 = .ok (.iload 4, 2) := by decide +kernel
theorem dX10_countMarked_7 : decode cX10_countMarked 7 = .ok (.sipush 2880, 3) := by decide +kernel
theorem dX10_countMarked_10 : decode cX10_countMarked 10 = .ok (.if_icmp .ge 39, 3) := by decide +kernel
theorem dX10_countMarked_13 : decode cX10_countMarked 13 = .ok (.aload_n 0, 1) := by decide +kernel
theorem dX10_countMarked_14 : decode cX10_countMarked 14 = .ok (.getfield 25, 3) := by decide +kernel
theorem dX10_countMarked_17 : decode cX10_countMarked 17 = .ok (.iload 4, 2) := by decide +kernel
theorem dX10_countMarked_19 : decode cX10_countMarked 19 = .ok (.invokevirtual 56, 3) := by decide +kernel
theorem dX10_countMarked_22 : decode cX10_countMarked 22 = .ok (.iload_n 1, 1) := by decide +kernel
theorem dX10_countMarked_23 : decode cX10_countMarked 23 = .ok (.if_icmp .ne 20, 3) := by decide +kernel
theorem dX10_countMarked_26 : decode cX10_countMarked 26 = .ok (.iload_n 2, 1) := by decide +kernel
theorem dX10_countMarked_27 : decode cX10_countMarked 27 = .ok (.aload_n 0, 1) := by decide +kernel
theorem dX10_countMarked_28 : decode cX10_countMarked 28 = .ok (.getfield 24, 3) := by decide +kernel
theorem dX10_countMarked_31 : decode cX10_countMarked 31 = .ok (.iload 4, 2) := by decide +kernel
theorem dX10_countMarked_33 : decode cX10_countMarked 33 = .ok (.iaload, 1) := by decide +kernel
theorem dX10_countMarked_34 : decode cX10_countMarked 34 = .ok (.invokestatic 66, 3) := by decide +kernel
theorem dX10_countMarked_37 : decode cX10_countMarked 37 = .ok (.ifCond .eq 6, 3) := by decide +kernel
theorem dX10_countMarked_40 : decode cX10_countMarked 40 = .ok (.iinc 3 1, 3) := by decide +kernel
theorem dX10_countMarked_43 : decode cX10_countMarked 43 = .ok (.iinc 4 1, 3) := by decide +kernel
theorem dX10_countMarked_46 : decode cX10_countMarked 46 = .ok (.goto (-41), 3) := by decide +kernel
theorem dX10_countMarked_49 : decode cX10_countMarked 49 = .ok (.iload_n 3, 1) := by decide +kernel
theorem dX10_countMarked_50 : decode cX10_countMarked 50 = .ok (.ireturn, 1) := by decide +kernel
theorem dX10_pick_0 : decode cX10_pick 0 = .ok (.aload_n 0, 1) := by decide +kernel
theorem dX10_pick_1 : decode cX10_pick 1 = .ok (.getfield 15, 3) := by decide +kernel
theorem dX10_pick_4 : decode cX10_pick 4 = .ok (.sipush 2880, 3) := by decide +kernel
theorem dX10_pick_7 : decode cX10_pick 7 = .ok (.if_icmp .ge 23, 3) := by decide +kernel
theorem dX10_pick_10 : decode cX10_pick 10 = .ok (.aload_n 0, 1) := by decide +kernel
theorem dX10_pick_11 : decode cX10_pick 11 = .ok (.getfield 9, 3) := by decide +kernel
theorem dX10_pick_14 : decode cX10_pick 14 = .ok (.aload_n 0, 1) := by decide +kernel
theorem dX10_pick_15 : decode cX10_pick 15 = .ok (.getfield 15, 3) := by decide +kernel
theorem dX10_pick_18 : decode cX10_pick 18 = .ok (.iload_n 1, 1) := by decide +kernel
theorem dX10_pick_19 : decode cX10_pick 19 = .ok (.iastore, 1) := by decide +kernel
theorem dX10_pick_20 : decode cX10_pick 20 = .ok (.aload_n 0, 1) := by decide +kernel
theorem dX10_pick_21 : decode cX10_pick 21 = .ok (.dup, 1) := by decide +kernel
theorem dX10_pick_22 : decode cX10_pick 22 = .ok (.getfield 15, 3) := by decide +kernel
theorem dX10_pick_25 : decode cX10_pick 25 = .ok (.iconst 1, 1) := by decide +kernel
theorem dX10_pick_26 : decode cX10_pick 26 = .ok (.iadd, 1) := by decide +kernel
theorem dX10_pick_27 : decode cX10_pick 27 = .ok (.putfield 15, 3) := by decide +kernel
theorem dX10_pick_30 : decode cX10_pick 30 = .ok (.return_, 1) := by decide +kernel
theorem dX10_putPicked_0 : decode cX10_putPicked 0 = .ok (.iconst 0, 1) := by decide +kernel
theorem dX10_putPicked_1 : decode cX10_putPicked 1 = .ok (.istore_n 2, 1) := by decide +kernel
theorem dX10_putPicked_2 : decode cX10_putPicked 2 = .ok (.iload_n 2, 1) := by decide +kernel
theorem dX10_putPicked_3 : decode cX10_putPicked 3 = .ok (.aload_n 0, 1) := by decide +kernel
theorem dX10_putPicked_4 : decode cX10_putPicked 4 = .ok (.getfield 15, 3) := by decide +kernel
theorem dX10_putPicked_7 : decode cX10_putPicked 7 = .ok (.if_icmp .ge 28, 3) := by decide +kernel
theorem dX10_putPicked_10 : decode cX10_putPicked 10 = .ok (.iload_n 2, 1) := by decide +kernel
theorem dX10_putPicked_11 : decode cX10_putPicked 11 = .ok (.sipush 2880, 3) := by decide +kernel
theorem dX10_putPicked_14 : decode cX10_putPicked 14 = .ok (.if_icmp .ge 21, 3) := by decide +kernel
theorem dX10_putPicked_17 : decode cX10_putPicked 17 = .ok (.aload_n 0, 1) := by decide +kernel
theorem dX10_putPicked_18 : decode cX10_putPicked 18 = .ok (.getfield 24, 3) := by decide +kernel
theorem dX10_putPicked_21 : decode cX10_putPicked 21 = .ok (.aload_n 0, 1) := by decide +kernel
theorem dX10_putPicked_22 : decode cX10_putPicked 22 = .ok (.getfield 9, 3) := by decide +kernel
theorem dX10_putPicked_25 : decode cX10_putPicked 25 = .ok (.iload_n 2, 1) := by decide +kernel
theorem dX10_putPicked_26 : decode cX10_putPicked 26 = .ok (.iaload, 1) := by decide +kernel
theorem dX10_putPicked_27 : decode cX10_putPicked 27 = .ok (.iload_n 1, 1) := by decide +kernel
theorem dX10_putPicked_28 : decode cX10_putPicked 28 = .ok (.iastore, 1) := by decide +kernel
theorem dX10_putPicked_29 : decode cX10_putPicked 29 = .ok (.iinc 2 1, 3) := by decide +kernel
theorem dX10_putPicked_32 : decode cX10_putPicked 32 = .ok (.goto (-30), 3) := by decide +kernel
theorem dX10_putPicked_35 : decode cX10_putPicked 35 = .ok (.return_, 1) := by decide +kernel
set_option maxRecDepth 20000 in
theorem ggX10_pickSurface_X2_isMarked : GoodIn wsX10_pickSurface wsX2_isMarked := goodIn_r _ [7, 8, 27, 28, 29] (by decide +kernel) (by decide +kernel)
set_option maxRecDepth 20000 in
theorem gX10_pickSurface_X2_isMarked : GoodIn wsX10_pickSurface (wsV RX10 56 RX2 yX2_isMarked wsX2_isMarked) := goodIn_app (goodIn_of _ (by decide +kernel)) ggX10_pickSurface_X2_isMarked
set_option maxRecDepth 20000 in
theorem ggX10_pickSurface_X10_isBesideStuff : GoodIn wsX10_pickSurface wsX10_isBesideStuff := goodIn_r _ [13, 14, 15, 16, 17, 23, 24, 25, 26] (by decide +kernel) (by decide +kernel)
set_option maxRecDepth 20000 in
theorem gX10_pickSurface_X10_isBesideStuff : GoodIn wsX10_pickSurface (wsV RX10 70 RX10 yX10_isBesideStuff wsX10_isBesideStuff) := goodIn_app (goodIn_of _ (by decide +kernel)) ggX10_pickSurface_X10_isBesideStuff
set_option maxRecDepth 20000 in
theorem ggX10_pickSurface_X10_pick : GoodIn wsX10_pickSurface wsX10_pick := goodIn_r _ [21, 1, 22, 23, 24, 25, 26] (by decide +kernel) (by decide +kernel)
set_option maxRecDepth 20000 in
theorem gX10_pickSurface_X10_pick : GoodIn wsX10_pickSurface (wsV RX10 73 RX10 yX10_pick wsX10_pick) := goodIn_app (goodIn_of _ (by decide +kernel)) ggX10_pickSurface_X10_pick
theorem dX10_pickSurface_0 : decode cX10_pickSurface 0 = .ok (.aload_n 0, 1) := by decide +kernel
theorem dX10_pickSurface_1 : decode cX10_pickSurface 1 = .ok (.iconst 0, 1) := by decide +kernel
theorem dX10_pickSurface_2 : decode cX10_pickSurface 2 = .ok (.putfield 15, 3) := by decide +kernel
theorem dX10_pickSurface_5 : decode cX10_pickSurface 5 = .ok (.iconst 0, 1) := by decide +kernel
theorem dX10_pickSurface_6 : decode cX10_pickSurface 6 = .ok (.istore_n 1, 1) := by decide +kernel
theorem dX10_pickSurface_7 : decode cX10_pickSurface 7 = .ok (.iload_n 1, 1) := by decide +kernel
theorem dX10_pickSurface_8 : decode cX10_pickSurface 8 = .ok (.sipush 2880, 3) := by decide +kernel
theorem dX10_pickSurface_11 : decode cX10_pickSurface 11 = .ok (.if_icmp .ge 33, 3) := by decide +kernel
theorem dX10_pickSurface_14 : decode cX10_pickSurface 14 = .ok (.aload_n 0, 1) := by decide +kernel
theorem dX10_pickSurface_15 : decode cX10_pickSurface 15 = .ok (.getfield 25, 3) := by decide +kernel
theorem dX10_pickSurface_18 : decode cX10_pickSurface 18 = .ok (.iload_n 1, 1) := by decide +kernel
theorem dX10_pickSurface_19 : decode cX10_pickSurface 19 = .ok (.invokevirtual 56, 3) := by decide +kernel
theorem dX10_pickSurface_22 : decode cX10_pickSurface 22 = .ok (.ifCond .eq 16, 3) := by decide +kernel
theorem dX10_pickSurface_25 : decode cX10_pickSurface 25 = .ok (.aload_n 0, 1) := by decide +kernel
theorem dX10_pickSurface_26 : decode cX10_pickSurface 26 = .ok (.iload_n 1, 1) := by decide +kernel
theorem dX10_pickSurface_27 : decode cX10_pickSurface 27 = .ok (.invokevirtual 70, 3) := by decide +kernel
theorem dX10_pickSurface_30 : decode cX10_pickSurface 30 = .ok (.ifCond .eq 8, 3) := by decide +kernel
theorem dX10_pickSurface_33 : decode cX10_pickSurface 33 = .ok (.aload_n 0, 1) := by decide +kernel
theorem dX10_pickSurface_34 : decode cX10_pickSurface 34 = .ok (.iload_n 1, 1) := by decide +kernel
theorem dX10_pickSurface_35 : decode cX10_pickSurface 35 = .ok (.invokevirtual 73, 3) := by decide +kernel
theorem dX10_pickSurface_38 : decode cX10_pickSurface 38 = .ok (.iinc 1 1, 3) := by decide +kernel
theorem dX10_pickSurface_41 : decode cX10_pickSurface 41 = .ok (.goto (-34), 3) := by decide +kernel
theorem dX10_pickSurface_44 : decode cX10_pickSurface 44 = .ok (.return_, 1) := by decide +kernel
set_option maxRecDepth 20000 in
theorem ggX10_pickExposed_X11_hasKind : GoodIn wsX10_pickExposed wsX11_hasKind := goodIn_r _ [5] (by decide +kernel) (by decide +kernel)
set_option maxRecDepth 20000 in
theorem gX10_pickExposed_X11_hasKind_n66 : GoodIn wsX10_pickExposed (wsX11_hasKind) := ggX10_pickExposed_X11_hasKind
set_option maxRecDepth 20000 in
theorem ggX10_pickExposed_X10_isExposed : GoodIn wsX10_pickExposed wsX10_isExposed := goodIn_r _ [10, 11, 12, 4, 13, 14, 15, 16, 17, 18, 19, 25, 26, 27, 28, 29, 30, 31] (by decide +kernel) (by decide +kernel)
set_option maxRecDepth 20000 in
theorem gX10_pickExposed_X10_isExposed : GoodIn wsX10_pickExposed (wsV RX10 76 RX10 yX10_isExposed wsX10_isExposed) := goodIn_app (goodIn_of _ (by decide +kernel)) ggX10_pickExposed_X10_isExposed
set_option maxRecDepth 20000 in
theorem ggX10_pickExposed_X10_pick : GoodIn wsX10_pickExposed wsX10_pick := goodIn_r _ [23, 1, 24, 25, 26, 27, 28] (by decide +kernel) (by decide +kernel)
set_option maxRecDepth 20000 in
theorem gX10_pickExposed_X10_pick : GoodIn wsX10_pickExposed (wsV RX10 73 RX10 yX10_pick wsX10_pick) := goodIn_app (goodIn_of _ (by decide +kernel)) ggX10_pickExposed_X10_pick
theorem dX10_pickExposed_0 : decode cX10_pickExposed 0 = .ok (.aload_n 0, 1) := by decide +kernel
theorem dX10_pickExposed_1 : decode cX10_pickExposed 1 = .ok (.iconst 0, 1) := by decide +kernel
theorem dX10_pickExposed_2 : decode cX10_pickExposed 2 = .ok (.putfield 15, 3) := by decide +kernel
theorem dX10_pickExposed_5 : decode cX10_pickExposed 5 = .ok (.iconst 0, 1) := by decide +kernel
theorem dX10_pickExposed_6 : decode cX10_pickExposed 6 = .ok (.istore_n 2, 1) := by decide +kernel
theorem dX10_pickExposed_7 : decode cX10_pickExposed 7 = .ok (.iload_n 2, 1) := by decide +kernel
theorem dX10_pickExposed_8 : decode cX10_pickExposed 8 = .ok (.sipush 2880, 3) := by decide +kernel
theorem dX10_pickExposed_11 : decode cX10_pickExposed 11 = .ok (.if_icmp .ge 35, 3) := by decide +kernel
theorem dX10_pickExposed_14 : decode cX10_pickExposed 14 = .ok (.iload_n 1, 1) := by decide +kernel
theorem dX10_pickExposed_15 : decode cX10_pickExposed 15 = .ok (.aload_n 0, 1) := by decide +kernel
theorem dX10_pickExposed_16 : decode cX10_pickExposed 16 = .ok (.getfield 24, 3) := by decide +kernel
theorem dX10_pickExposed_19 : decode cX10_pickExposed 19 = .ok (.iload_n 2, 1) := by decide +kernel
theorem dX10_pickExposed_20 : decode cX10_pickExposed 20 = .ok (.iaload, 1) := by decide +kernel
theorem dX10_pickExposed_21 : decode cX10_pickExposed 21 = .ok (.invokestatic 66, 3) := by decide +kernel
theorem dX10_pickExposed_24 : decode cX10_pickExposed 24 = .ok (.ifCond .eq 16, 3) := by decide +kernel
theorem dX10_pickExposed_27 : decode cX10_pickExposed 27 = .ok (.aload_n 0, 1) := by decide +kernel
theorem dX10_pickExposed_28 : decode cX10_pickExposed 28 = .ok (.iload_n 2, 1) := by decide +kernel
theorem dX10_pickExposed_29 : decode cX10_pickExposed 29 = .ok (.invokevirtual 76, 3) := by decide +kernel
theorem dX10_pickExposed_32 : decode cX10_pickExposed 32 = .ok (.ifCond .eq 8, 3) := by decide +kernel
theorem dX10_pickExposed_35 : decode cX10_pickExposed 35 = .ok (.aload_n 0, 1) := by decide +kernel
theorem dX10_pickExposed_36 : decode cX10_pickExposed 36 = .ok (.iload_n 2, 1) := by decide +kernel
theorem dX10_pickExposed_37 : decode cX10_pickExposed 37 = .ok (.invokevirtual 73, 3) := by decide +kernel
theorem dX10_pickExposed_40 : decode cX10_pickExposed 40 = .ok (.iinc 2 1, 3) := by decide +kernel
theorem dX10_pickExposed_43 : decode cX10_pickExposed 43 = .ok (.goto (-36), 3) := by decide +kernel
theorem dX10_pickExposed_46 : decode cX10_pickExposed 46 = .ok (.return_, 1) := by decide +kernel
set_option maxRecDepth 20000 in
theorem ggX10_isBesideStuff_X11_beside : GoodIn wsX10_isBesideStuff wsX11_beside := goodIn_r _ [4] (by decide +kernel) (by decide +kernel)
set_option maxRecDepth 20000 in
theorem gX10_isBesideStuff_X11_beside_n79 : GoodIn wsX10_isBesideStuff (wsX11_beside) := ggX10_isBesideStuff_X11_beside
theorem dX10_isBesideStuff_0 : decode cX10_isBesideStuff 0 = .ok (.iconst 0, 1) := by decide +kernel
theorem dX10_isBesideStuff_1 : decode cX10_isBesideStuff 1 = .ok (.istore_n 2, 1) := by decide +kernel
theorem dX10_isBesideStuff_2 : decode cX10_isBesideStuff 2 = .ok (.iload_n 2, 1) := by decide +kernel
theorem dX10_isBesideStuff_3 : decode cX10_isBesideStuff 3 = .ok (.bipush 6, 2) := by decide +kernel
theorem dX10_isBesideStuff_5 : decode cX10_isBesideStuff 5 = .ok (.if_icmp .ge 31, 3) := by decide +kernel
theorem dX10_isBesideStuff_8 : decode cX10_isBesideStuff 8 = .ok (.iload_n 1, 1) := by decide +kernel
theorem dX10_isBesideStuff_9 : decode cX10_isBesideStuff 9 = .ok (.iload_n 2, 1) := by decide +kernel
theorem dX10_isBesideStuff_10 : decode cX10_isBesideStuff 10 = .ok (.invokestatic 79, 3) := by decide +kernel
theorem dX10_isBesideStuff_13 : decode cX10_isBesideStuff 13 = .ok (.istore_n 3, 1) := by decide +kernel
theorem dX10_isBesideStuff_14 : decode cX10_isBesideStuff 14 = .ok (.iload_n 3, 1) := by decide +kernel
theorem dX10_isBesideStuff_15 : decode cX10_isBesideStuff 15 = .ok (.iconst (-1), 1) := by decide +kernel
theorem dX10_isBesideStuff_16 : decode cX10_isBesideStuff 16 = .ok (.if_icmp .eq 14, 3) := by decide +kernel
theorem dX10_isBesideStuff_19 : decode cX10_isBesideStuff 19 = .ok (.aload_n 0, 1) := by decide +kernel
theorem dX10_isBesideStuff_20 : decode cX10_isBesideStuff 20 = .ok (.getfield 24, 3) := by decide +kernel
theorem dX10_isBesideStuff_23 : decode cX10_isBesideStuff 23 = .ok (.iload_n 3, 1) := by decide +kernel
theorem dX10_isBesideStuff_24 : decode cX10_isBesideStuff 24 = .ok (.iaload, 1) := by decide +kernel
theorem dX10_isBesideStuff_25 : decode cX10_isBesideStuff 25 = .ok (.ifCond .eq 5, 3) := by decide +kernel
theorem dX10_isBesideStuff_28 : decode cX10_isBesideStuff 28 = .ok (.iconst 1, 1) := by decide +kernel
theorem dX10_isBesideStuff_29 : decode cX10_isBesideStuff 29 = .ok (.ireturn, 1) := by decide +kernel
theorem dX10_isBesideStuff_30 : decode cX10_isBesideStuff 30 = .ok (.iinc 2 1, 3) := by decide +kernel
theorem dX10_isBesideStuff_33 : decode cX10_isBesideStuff 33 = .ok (.goto (-31), 3) := by decide +kernel
theorem dX10_isBesideStuff_36 : decode cX10_isBesideStuff 36 = .ok (.iconst 0, 1) := by decide +kernel
theorem dX10_isBesideStuff_37 : decode cX10_isBesideStuff 37 = .ok (.ireturn, 1) := by decide +kernel
set_option maxRecDepth 20000 in
theorem ggX10_isExposed_X11_beside : GoodIn wsX10_isExposed wsX11_beside := goodIn_r _ [4] (by decide +kernel) (by decide +kernel)
set_option maxRecDepth 20000 in
theorem gX10_isExposed_X11_beside_n79 : GoodIn wsX10_isExposed (wsX11_beside) := ggX10_isExposed_X11_beside
set_option maxRecDepth 20000 in
theorem ggX10_isExposed_X2_isMarked : GoodIn wsX10_isExposed wsX2_isMarked := goodIn_r _ [9, 10, 15, 16, 17] (by decide +kernel) (by decide +kernel)
set_option maxRecDepth 20000 in
theorem gX10_isExposed_X2_isMarked : GoodIn wsX10_isExposed (wsV RX10 56 RX2 yX2_isMarked wsX2_isMarked) := goodIn_app (goodIn_of _ (by decide +kernel)) ggX10_isExposed_X2_isMarked
theorem dX10_isExposed_0 : decode cX10_isExposed 0 = .ok (.iload_n 1, 1) := by decide +kernel
theorem dX10_isExposed_1 : decode cX10_isExposed 1 = .ok (.sipush 2736, 3) := by decide +kernel
theorem dX10_isExposed_4 : decode cX10_isExposed 4 = .ok (.if_icmp .lt 5, 3) := by decide +kernel
theorem dX10_isExposed_7 : decode cX10_isExposed 7 = .ok (.iconst 1, 1) := by decide +kernel
theorem dX10_isExposed_8 : decode cX10_isExposed 8 = .ok (.ireturn, 1) := by decide +kernel
theorem dX10_isExposed_9 : decode cX10_isExposed 9 = .ok (.iconst 0, 1) := by decide +kernel
theorem dX10_isExposed_10 : decode cX10_isExposed 10 = .ok (.istore_n 2, 1) := by decide +kernel
theorem dX10_isExposed_11 : decode cX10_isExposed 11 = .ok (.iload_n 2, 1) := by decide +kernel
theorem dX10_isExposed_12 : decode cX10_isExposed 12 = .ok (.bipush 6, 2) := by decide +kernel
theorem dX10_isExposed_14 : decode cX10_isExposed 14 = .ok (.if_icmp .ge 33, 3) := by decide +kernel
theorem dX10_isExposed_17 : decode cX10_isExposed 17 = .ok (.iload_n 1, 1) := by decide +kernel
theorem dX10_isExposed_18 : decode cX10_isExposed 18 = .ok (.iload_n 2, 1) := by decide +kernel
theorem dX10_isExposed_19 : decode cX10_isExposed 19 = .ok (.invokestatic 79, 3) := by decide +kernel
theorem dX10_isExposed_22 : decode cX10_isExposed 22 = .ok (.istore_n 3, 1) := by decide +kernel
theorem dX10_isExposed_23 : decode cX10_isExposed 23 = .ok (.iload_n 3, 1) := by decide +kernel
theorem dX10_isExposed_24 : decode cX10_isExposed 24 = .ok (.iconst (-1), 1) := by decide +kernel
theorem dX10_isExposed_25 : decode cX10_isExposed 25 = .ok (.if_icmp .eq 16, 3) := by decide +kernel
theorem dX10_isExposed_28 : decode cX10_isExposed 28 = .ok (.aload_n 0, 1) := by decide +kernel
theorem dX10_isExposed_29 : decode cX10_isExposed 29 = .ok (.getfield 25, 3) := by decide +kernel
theorem dX10_isExposed_32 : decode cX10_isExposed 32 = .ok (.iload_n 3, 1) := by decide +kernel
theorem dX10_isExposed_33 : decode cX10_isExposed 33 = .ok (.invokevirtual 56, 3) := by decide +kernel
theorem dX10_isExposed_36 : decode cX10_isExposed 36 = .ok (.ifCond .eq 5, 3) := by decide +kernel
theorem dX10_isExposed_39 : decode cX10_isExposed 39 = .ok (.iconst 1, 1) := by decide +kernel
theorem dX10_isExposed_40 : decode cX10_isExposed 40 = .ok (.ireturn, 1) := by decide +kernel
theorem dX10_isExposed_41 : decode cX10_isExposed 41 = .ok (.iinc 2 1, 3) := by decide +kernel
theorem dX10_isExposed_44 : decode cX10_isExposed 44 = .ok (.goto (-33), 3) := by decide +kernel
theorem dX10_isExposed_47 : decode cX10_isExposed 47 = .ok (.iconst 0, 1) := by decide +kernel
theorem dX10_isExposed_48 : decode cX10_isExposed 48 = .ok (.ireturn, 1) := by decide +kernel
set_option maxRecDepth 20000 in
theorem ggX10_turnBesidePicked_X11_beside : GoodIn wsX10_turnBesidePicked wsX11_beside := goodIn_r _ [6] (by decide +kernel) (by decide +kernel)
set_option maxRecDepth 20000 in
theorem gX10_turnBesidePicked_X11_beside_n79 : GoodIn wsX10_turnBesidePicked (wsX11_beside) := ggX10_turnBesidePicked_X11_beside
set_option maxRecDepth 20000 in
theorem ggX10_turnBesidePicked_X10_pick : GoodIn wsX10_turnBesidePicked wsX10_pick := goodIn_r _ [11, 1, 2, 12, 13, 14, 15] (by decide +kernel) (by decide +kernel)
set_option maxRecDepth 20000 in
theorem gX10_turnBesidePicked_X10_pick : GoodIn wsX10_turnBesidePicked (wsV RX10 73 RX10 yX10_pick wsX10_pick) := goodIn_app (goodIn_of _ (by decide +kernel)) ggX10_turnBesidePicked_X10_pick
theorem dX10_turnBesidePicked_0 : decode cX10_turnBesidePicked 0 = .ok (.aload_n 0, 1) := by decide +kernel
theorem dX10_turnBesidePicked_1 : decode cX10_turnBesidePicked 1 = .ok (.getfield 15, 3) := by decide +kernel
theorem dX10_turnBesidePicked_4 : decode cX10_turnBesidePicked 4 = .ok (.istore 4, 2) := by decide +kernel
theorem dX10_turnBesidePicked_6 : decode cX10_turnBesidePicked 6 = .ok (.iload_n 1, 1) := by decide +kernel
theorem dX10_turnBesidePicked_7 : decode cX10_turnBesidePicked 7 = .ok (.istore 5, 2) := by decide +kernel
theorem dX10_turnBesidePicked_9 : decode cX10_turnBesidePicked 9 = .ok (.iload 5, 2) := by decide +kernel
theorem dX10_turnBesidePicked_11 : decode cX10_turnBesidePicked 11 = .ok (.iload 4, 2) := by decide +kernel
theorem dX10_turnBesidePicked_13 : decode cX10_turnBesidePicked 13 = .ok (.if_icmp .ge 78, 3) := by decide +kernel
theorem dX10_turnBesidePicked_16 : decode cX10_turnBesidePicked 16 = .ok (.iload 5, 2) := by decide +kernel
theorem dX10_turnBesidePicked_18 : decode cX10_turnBesidePicked 18 = .ok (.sipush 2880, 3) := by decide +kernel
theorem dX10_turnBesidePicked_21 : decode cX10_turnBesidePicked 21 = .ok (.if_icmp .ge 70, 3) := by decide +kernel
theorem dX10_turnBesidePicked_24 : decode cX10_turnBesidePicked 24 = .ok (.iconst 0, 1) := by decide +kernel
theorem dX10_turnBesidePicked_25 : decode cX10_turnBesidePicked 25 = .ok (.istore 6, 2) := by decide +kernel
theorem dX10_turnBesidePicked_27 : decode cX10_turnBesidePicked 27 = .ok (.iload 6, 2) := by decide +kernel
theorem dX10_turnBesidePicked_29 : decode cX10_turnBesidePicked 29 = .ok (.bipush 6, 2) := by decide +kernel
theorem dX10_turnBesidePicked_31 : decode cX10_turnBesidePicked 31 = .ok (.if_icmp .ge 54, 3) := by decide +kernel
theorem dX10_turnBesidePicked_34 : decode cX10_turnBesidePicked 34 = .ok (.aload_n 0, 1) := by decide +kernel
theorem dX10_turnBesidePicked_35 : decode cX10_turnBesidePicked 35 = .ok (.getfield 9, 3) := by decide +kernel
theorem dX10_turnBesidePicked_38 : decode cX10_turnBesidePicked 38 = .ok (.iload 5, 2) := by decide +kernel
theorem dX10_turnBesidePicked_40 : decode cX10_turnBesidePicked 40 = .ok (.iaload, 1) := by decide +kernel
theorem dX10_turnBesidePicked_41 : decode cX10_turnBesidePicked 41 = .ok (.iload 6, 2) := by decide +kernel
theorem dX10_turnBesidePicked_43 : decode cX10_turnBesidePicked 43 = .ok (.invokestatic 79, 3) := by decide +kernel
theorem dX10_turnBesidePicked_46 : decode cX10_turnBesidePicked 46 = .ok (.istore 7, 2) := by decide +kernel
theorem dX10_turnBesidePicked_48 : decode cX10_turnBesidePicked 48 = .ok (.iload 7, 2) := by decide +kernel
theorem dX10_turnBesidePicked_50 : decode cX10_turnBesidePicked 50 = .ok (.iconst (-1), 1) := by decide +kernel
theorem dX10_turnBesidePicked_51 : decode cX10_turnBesidePicked 51 = .ok (.if_icmp .eq 28, 3) := by decide +kernel
theorem dX10_turnBesidePicked_54 : decode cX10_turnBesidePicked 54 = .ok (.aload_n 0, 1) := by decide +kernel
theorem dX10_turnBesidePicked_55 : decode cX10_turnBesidePicked 55 = .ok (.getfield 24, 3) := by decide +kernel
theorem dX10_turnBesidePicked_58 : decode cX10_turnBesidePicked 58 = .ok (.iload 7, 2) := by decide +kernel
theorem dX10_turnBesidePicked_60 : decode cX10_turnBesidePicked 60 = .ok (.iaload, 1) := by decide +kernel
theorem dX10_turnBesidePicked_61 : decode cX10_turnBesidePicked 61 = .ok (.iload_n 2, 1) := by decide +kernel
theorem dX10_turnBesidePicked_62 : decode cX10_turnBesidePicked 62 = .ok (.if_icmp .ne 17, 3) := by decide +kernel
theorem dX10_turnBesidePicked_65 : decode cX10_turnBesidePicked 65 = .ok (.aload_n 0, 1) := by decide +kernel
theorem dX10_turnBesidePicked_66 : decode cX10_turnBesidePicked 66 = .ok (.getfield 24, 3) := by decide +kernel
theorem dX10_turnBesidePicked_69 : decode cX10_turnBesidePicked 69 = .ok (.iload 7, 2) := by decide +kernel
theorem dX10_turnBesidePicked_71 : decode cX10_turnBesidePicked 71 = .ok (.iload_n 3, 1) := by decide +kernel
theorem dX10_turnBesidePicked_72 : decode cX10_turnBesidePicked 72 = .ok (.iastore, 1) := by decide +kernel
theorem dX10_turnBesidePicked_73 : decode cX10_turnBesidePicked 73 = .ok (.aload_n 0, 1) := by decide +kernel
theorem dX10_turnBesidePicked_74 : decode cX10_turnBesidePicked 74 = .ok (.iload 7, 2) := by decide +kernel
theorem dX10_turnBesidePicked_76 : decode cX10_turnBesidePicked 76 = .ok (.invokevirtual 73, 3) := by decide +kernel
theorem dX10_turnBesidePicked_79 : decode cX10_turnBesidePicked 79 = .ok (.iinc 6 1, 3) := by decide +kernel
theorem dX10_turnBesidePicked_82 : decode cX10_turnBesidePicked 82 = .ok (.goto (-55), 3) := by decide +kernel
theorem dX10_turnBesidePicked_85 : decode cX10_turnBesidePicked 85 = .ok (.iinc 5 1, 3) := by decide +kernel
theorem dX10_turnBesidePicked_88 : decode cX10_turnBesidePicked 88 = .ok (.goto (-79), 3) := by decide +kernel
theorem dX10_turnBesidePicked_91 : decode cX10_turnBesidePicked 91 = .ok (.iload 4, 2) := by decide +kernel
theorem dX10_turnBesidePicked_93 : decode cX10_turnBesidePicked 93 = .ok (.ireturn, 1) := by decide +kernel
set_option maxRecDepth 20000 in
theorem ggX11_init_X0_init : GoodIn wsX11_init wsX0_init := goodIn_r _ [50, 51, 2, 3, 44, 52, 142] (by decide +kernel) (by decide +kernel)
set_option maxRecDepth 20000 in
theorem gX11_init_X0_init : GoodIn wsX11_init (wsX0_init) := ggX11_init_X0_init
set_option maxRecDepth 20000 in
theorem ggX11_init_X2_init : GoodIn wsX11_init wsX2_init := goodIn_r _ [54, 55, 2, 3, 44, 56, 57, 58, 156, 157, 158] (by decide +kernel) (by decide +kernel)
set_option maxRecDepth 20000 in
theorem gX11_init_X2_init_n18 : GoodIn wsX11_init (wsX2_init) := ggX11_init_X2_init
set_option maxRecDepth 20000 in
theorem ggX11_init_X10_init : GoodIn wsX11_init wsX10_init := goodIn_r _ [61, 62, 2, 3, 44, 63, 64, 65, 66, 159, 160, 161, 162, 142] (by decide +kernel) (by decide +kernel)
set_option maxRecDepth 20000 in
theorem gX11_init_X10_init : GoodIn wsX11_init (wsX10_init) := ggX11_init_X10_init
set_option maxRecDepth 20000 in
theorem ggX11_init_X4_init : GoodIn wsX11_init wsX4_init := goodIn_r _ [68, 69, 2, 3, 70, 71, 163] (by decide +kernel) (by decide +kernel)
set_option maxRecDepth 20000 in
theorem gX11_init_X4_init_n34 : GoodIn wsX11_init (wsX4_init) := ggX11_init_X4_init
set_option maxRecDepth 20000 in
theorem ggX11_init_X8_init : GoodIn wsX11_init wsX8_init := goodIn_r _ [73, 74, 2, 3, 44, 75, 76, 164, 165] (by decide +kernel) (by decide +kernel)
set_option maxRecDepth 20000 in
theorem gX11_init_X8_init_n41 : GoodIn wsX11_init (wsX8_init) := ggX11_init_X8_init
set_option maxRecDepth 20000 in
theorem ggX11_init_X9_init : GoodIn wsX11_init wsX9_init := goodIn_r _ [79, 80, 2, 3, 81, 82, 83, 84, 166, 167, 168, 169] (by decide +kernel) (by decide +kernel)
set_option maxRecDepth 20000 in
theorem gX11_init_X9_init : GoodIn wsX11_init (wsX9_init) := ggX11_init_X9_init
set_option maxRecDepth 20000 in
theorem ggX11_init_X5_init : GoodIn wsX11_init wsX5_init := goodIn_r _ [87, 88, 2, 3, 89, 90, 44, 91, 92, 93, 94, 95, 96, 97, 98, 99, 100, 101, 102, 103, 104, 105, 106, 170, 171, 172, 173, 197, 198, 199, 200, 201, 202, 203, 204] (by decide +kernel) (by decide +kernel)
set_option maxRecDepth 20000 in
theorem gX11_init_X5_init : GoodIn wsX11_init (wsX5_init) := ggX11_init_X5_init
set_option maxRecDepth 20000 in
theorem ggX11_init_X6_init : GoodIn wsX11_init wsX6_init := goodIn_r _ [109, 110, 2, 3, 44, 111, 112, 113, 114, 115, 116, 117, 118, 119, 120, 121, 174, 175, 176, 177, 178, 179, 180, 181, 182, 183, 184] (by decide +kernel) (by decide +kernel)
set_option maxRecDepth 20000 in
theorem gX11_init_X6_init : GoodIn wsX11_init (wsX6_init) := ggX11_init_X6_init
set_option maxRecDepth 20000 in
theorem ggX11_init_X3_init : GoodIn wsX11_init wsX3_init := goodIn_r _ [123, 124, 2, 3, 125, 44, 126, 127, 128, 185, 186, 187] (by decide +kernel) (by decide +kernel)
set_option maxRecDepth 20000 in
theorem gX11_init_X3_init_n73 : GoodIn wsX11_init (wsX3_init) := ggX11_init_X3_init
set_option maxRecDepth 20000 in
theorem ggX11_init_X1_init : GoodIn wsX11_init wsX1_init := goodIn_r _ [131, 132, 2, 3, 44, 133, 134, 70, 135, 136, 137, 138, 139, 140, 141, 188, 189, 190, 191, 192, 193, 194, 195, 196] (by decide +kernel) (by decide +kernel)
set_option maxRecDepth 20000 in
theorem gX11_init_X1_init : GoodIn wsX11_init (wsX1_init) := ggX11_init_X1_init
theorem dX11_init_0 : decode cX11_init 0 = .ok (.aload_n 0, 1) := by decide +kernel
theorem dX11_init_1 : decode cX11_init 1 = .ok (.invokespecial 3, 3) := by decide +kernel
theorem dX11_init_4 : decode cX11_init 4 = .ok (.aload_n 0, 1) := by decide +kernel
theorem dX11_init_5 : decode cX11_init 5 = .ok (.new 9, 3) := by decide +kernel
theorem dX11_init_8 : decode cX11_init 8 = .ok (.dup, 1) := by decide +kernel
theorem dX11_init_9 : decode cX11_init 9 = .ok (.invokespecial 11, 3) := by decide +kernel
theorem dX11_init_12 : decode cX11_init 12 = .ok (.putfield 12, 3) := by decide +kernel
theorem dX11_init_15 : decode cX11_init 15 = .ok (.aload_n 0, 1) := by decide +kernel
theorem dX11_init_16 : decode cX11_init 16 = .ok (.new 16, 3) := by decide +kernel
theorem dX11_init_19 : decode cX11_init 19 = .ok (.dup, 1) := by decide +kernel
theorem dX11_init_20 : decode cX11_init 20 = .ok (.invokespecial 18, 3) := by decide +kernel
theorem dX11_init_23 : decode cX11_init 23 = .ok (.putfield 19, 3) := by decide +kernel
theorem dX11_init_26 : decode cX11_init 26 = .ok (.aload_n 0, 1) := by decide +kernel
theorem dX11_init_27 : decode cX11_init 27 = .ok (.new 23, 3) := by decide +kernel
theorem dX11_init_30 : decode cX11_init 30 = .ok (.dup, 1) := by decide +kernel
theorem dX11_init_31 : decode cX11_init 31 = .ok (.aload_n 0, 1) := by decide +kernel
theorem dX11_init_32 : decode cX11_init 32 = .ok (.getfield 12, 3) := by decide +kernel
theorem dX11_init_35 : decode cX11_init 35 = .ok (.aload_n 0, 1) := by decide +kernel
theorem dX11_init_36 : decode cX11_init 36 = .ok (.getfield 19, 3) := by decide +kernel
theorem dX11_init_39 : decode cX11_init 39 = .ok (.invokespecial 25, 3) := by decide +kernel
theorem dX11_init_42 : decode cX11_init 42 = .ok (.putfield 28, 3) := by decide +kernel
theorem dX11_init_45 : decode cX11_init 45 = .ok (.aload_n 0, 1) := by decide +kernel
theorem dX11_init_46 : decode cX11_init 46 = .ok (.new 32, 3) := by decide +kernel
theorem dX11_init_49 : decode cX11_init 49 = .ok (.dup, 1) := by decide +kernel
theorem dX11_init_50 : decode cX11_init 50 = .ok (.invokespecial 34, 3) := by decide +kernel
theorem dX11_init_53 : decode cX11_init 53 = .ok (.putfield 35, 3) := by decide +kernel
theorem dX11_init_56 : decode cX11_init 56 = .ok (.aload_n 0, 1) := by decide +kernel
theorem dX11_init_57 : decode cX11_init 57 = .ok (.new 39, 3) := by decide +kernel
theorem dX11_init_60 : decode cX11_init 60 = .ok (.dup, 1) := by decide +kernel
theorem dX11_init_61 : decode cX11_init 61 = .ok (.invokespecial 41, 3) := by decide +kernel
theorem dX11_init_64 : decode cX11_init 64 = .ok (.putfield 42, 3) := by decide +kernel
theorem dX11_init_67 : decode cX11_init 67 = .ok (.aload_n 0, 1) := by decide +kernel
theorem dX11_init_68 : decode cX11_init 68 = .ok (.new 46, 3) := by decide +kernel
theorem dX11_init_71 : decode cX11_init 71 = .ok (.dup, 1) := by decide +kernel
theorem dX11_init_72 : decode cX11_init 72 = .ok (.aload_n 0, 1) := by decide +kernel
theorem dX11_init_73 : decode cX11_init 73 = .ok (.getfield 42, 3) := by decide +kernel
theorem dX11_init_76 : decode cX11_init 76 = .ok (.invokespecial 48, 3) := by decide +kernel
theorem dX11_init_79 : decode cX11_init 79 = .ok (.putfield 51, 3) := by decide +kernel
theorem dX11_init_82 : decode cX11_init 82 = .ok (.aload_n 0, 1) := by decide +kernel
theorem dX11_init_83 : decode cX11_init 83 = .ok (.new 55, 3) := by decide +kernel
theorem dX11_init_86 : decode cX11_init 86 = .ok (.dup, 1) := by decide +kernel
theorem dX11_init_87 : decode cX11_init 87 = .ok (.invokespecial 57, 3) := by decide +kernel
theorem dX11_init_90 : decode cX11_init 90 = .ok (.putfield 58, 3) := by decide +kernel
theorem dX11_init_93 : decode cX11_init 93 = .ok (.aload_n 0, 1) := by decide +kernel
theorem dX11_init_94 : decode cX11_init 94 = .ok (.new 62, 3) := by decide +kernel
theorem dX11_init_97 : decode cX11_init 97 = .ok (.dup, 1) := by decide +kernel
theorem dX11_init_98 : decode cX11_init 98 = .ok (.aload_n 0, 1) := by decide +kernel
theorem dX11_init_99 : decode cX11_init 99 = .ok (.getfield 12, 3) := by decide +kernel
theorem dX11_init_102 : decode cX11_init 102 = .ok (.aload_n 0, 1) := by decide +kernel
theorem dX11_init_103 : decode cX11_init 103 = .ok (.getfield 28, 3) := by decide +kernel
theorem dX11_init_106 : decode cX11_init 106 = .ok (.aload_n 0, 1) := by decide +kernel
theorem dX11_init_107 : decode cX11_init 107 = .ok (.getfield 35, 3) := by decide +kernel
theorem dX11_init_110 : decode cX11_init 110 = .ok (.invokespecial 64, 3) := by decide +kernel
theorem dX11_init_113 : decode cX11_init 113 = .ok (.putfield 67, 3) := by decide +kernel
theorem dX11_init_116 : decode cX11_init 116 = .ok (.aload_n 0, 1) := by decide +kernel
theorem dX11_init_117 : decode cX11_init 117 = .ok (.new 71, 3) := by decide +kernel
theorem dX11_init_120 : decode cX11_init 120 = .ok (.dup, 1) := by decide +kernel
theorem dX11_init_121 : decode cX11_init 121 = .ok (.invokespecial 73, 3) := by decide +kernel
theorem dX11_init_124 : decode cX11_init 124 = .ok (.putfield 74, 3) := by decide +kernel
theorem dX11_init_127 : decode cX11_init 127 = .ok (.aload_n 0, 1) := by decide +kernel
theorem dX11_init_128 : decode cX11_init 128 = .ok (.new 78, 3) := by decide +kernel
theorem dX11_init_131 : decode cX11_init 131 = .ok (.dup, 1) := by decide +kernel
theorem dX11_init_132 : decode cX11_init 132 = .ok (.aload_n 0, 1) := by decide +kernel
theorem dX11_init_133 : decode cX11_init 133 = .ok (.getfield 12, 3) := by decide +kernel
theorem dX11_init_136 : decode cX11_init 136 = .ok (.invokespecial 80, 3) := by decide +kernel
theorem dX11_init_139 : decode cX11_init 139 = .ok (.putfield 83, 3) := by decide +kernel
theorem dX11_init_142 : decode cX11_init 142 = .ok (.aload_n 0, 1) := by decide +kernel
theorem dX11_init_143 : decode cX11_init 143 = .ok (.sipush 260, 3) := by decide +kernel
theorem dX11_init_146 : decode cX11_init 146 = .ok (.newarray .int, 2) := by decide +kernel
theorem dX11_init_148 : decode cX11_init 148 = .ok (.putfield 87, 3) := by decide +kernel
theorem dX11_init_151 : decode cX11_init 151 = .ok (.aload_n 0, 1) := by decide +kernel
theorem dX11_init_152 : decode cX11_init 152 = .ok (.iconst 0, 1) := by decide +kernel
theorem dX11_init_153 : decode cX11_init 153 = .ok (.putfield 91, 3) := by decide +kernel
theorem dX11_init_156 : decode cX11_init 156 = .ok (.aload_n 0, 1) := by decide +kernel
theorem dX11_init_157 : decode cX11_init 157 = .ok (.iconst (-1), 1) := by decide +kernel
theorem dX11_init_158 : decode cX11_init 158 = .ok (.putfield 95, 3) := by decide +kernel
theorem dX11_init_161 : decode cX11_init 161 = .ok (.return_, 1) := by decide +kernel
set_option maxRecDepth 20000 in
theorem ggX11_rect_X11_within : GoodIn wsX11_rect wsX11_within := goodIn_r _ [5] (by decide +kernel) (by decide +kernel)
set_option maxRecDepth 20000 in
theorem gX11_rect_X11_within : GoodIn wsX11_rect (va_wsS RX11 98 yX11_within wsX11_within) := goodIn_app (goodIn_of _ (by decide +kernel)) ggX11_rect_X11_within
set_option maxRecDepth 20000 in
theorem ggX11_rect_X4_put : GoodIn wsX11_rect wsX4_put := goodIn_r _ [10, 11, 33] (by decide +kernel) (by decide +kernel)
set_option maxRecDepth 20000 in
theorem gX11_rect_X4_put : GoodIn wsX11_rect (wsV RX11 102 RX4 yX4_put wsX4_put) := goodIn_app (goodIn_of _ (by decide +kernel)) ggX11_rect_X4_put
set_option maxRecDepth 20000 in
theorem ggX11_rect_X4_size : GoodIn wsX11_rect wsX4_size := goodIn_r _ [15, 16, 17, 18, 9, 19, 11, 33] (by decide +kernel) (by decide +kernel)
set_option maxRecDepth 20000 in
theorem gX11_rect_X4_size : GoodIn wsX11_rect (wsV RX11 106 RX4 yX4_size wsX4_size) := goodIn_app (goodIn_of _ (by decide +kernel)) ggX11_rect_X4_size
theorem dX11_rect_0 : decode cX11_rect 0 = .ok (.iload_n 1, 1) := by decide +kernel
theorem dX11_rect_1 : decode cX11_rect 1 = .ok (.iconst 0, 1) := by decide +kernel
theorem dX11_rect_2 : decode cX11_rect 2 = .ok (.bipush 7, 2) := by decide +kernel
theorem dX11_rect_4 : decode cX11_rect 4 = .ok (.invokestatic 98, 3) := by decide +kernel
theorem dX11_rect_7 : decode cX11_rect 7 = .ok (.ifCond .ne 6, 3) := by decide +kernel
theorem dX11_rect_10 : decode cX11_rect 10 = .ok (.bipush (-101), 2) := by decide +kernel
theorem dX11_rect_12 : decode cX11_rect 12 = .ok (.ireturn, 1) := by decide +kernel
theorem dX11_rect_13 : decode cX11_rect 13 = .ok (.iload_n 2, 1) := by decide +kernel
theorem dX11_rect_14 : decode cX11_rect 14 = .ok (.ifCond .lt 33, 3) := by decide +kernel
theorem dX11_rect_17 : decode cX11_rect 17 = .ok (.iload 4, 2) := by decide +kernel
theorem dX11_rect_19 : decode cX11_rect 19 = .ok (.iload_n 2, 1) := by decide +kernel
theorem dX11_rect_20 : decode cX11_rect 20 = .ok (.if_icmp .lt 27, 3) := by decide +kernel
theorem dX11_rect_23 : decode cX11_rect 23 = .ok (.iload 4, 2) := by decide +kernel
theorem dX11_rect_25 : decode cX11_rect 25 = .ok (.bipush 12, 2) := by decide +kernel
theorem dX11_rect_27 : decode cX11_rect 27 = .ok (.if_icmp .ge 20, 3) := by decide +kernel
theorem dX11_rect_30 : decode cX11_rect 30 = .ok (.iload_n 3, 1) := by decide +kernel
theorem dX11_rect_31 : decode cX11_rect 31 = .ok (.ifCond .lt 16, 3) := by decide +kernel
theorem dX11_rect_34 : decode cX11_rect 34 = .ok (.iload 5, 2) := by decide +kernel
theorem dX11_rect_36 : decode cX11_rect 36 = .ok (.iload_n 3, 1) := by decide +kernel
theorem dX11_rect_37 : decode cX11_rect 37 = .ok (.if_icmp .lt 10, 3) := by decide +kernel
theorem dX11_rect_40 : decode cX11_rect 40 = .ok (.iload 5, 2) := by decide +kernel
theorem dX11_rect_42 : decode cX11_rect 42 = .ok (.bipush 12, 2) := by decide +kernel
theorem dX11_rect_44 : decode cX11_rect 44 = .ok (.if_icmp .lt 6, 3) := by decide +kernel
theorem dX11_rect_47 : decode cX11_rect 47 = .ok (.bipush (-102), 2) := by decide +kernel
theorem dX11_rect_49 : decode cX11_rect 49 = .ok (.ireturn, 1) := by decide +kernel
theorem dX11_rect_50 : decode cX11_rect 50 = .ok (.iload_n 3, 1) := by decide +kernel
theorem dX11_rect_51 : decode cX11_rect 51 = .ok (.istore 7, 2) := by decide +kernel
theorem dX11_rect_53 : decode cX11_rect 53 = .ok (.iload 7, 2) := by decide +kernel
theorem dX11_rect_55 : decode cX11_rect 55 = .ok (.iload 5, 2) := by decide +kernel
theorem dX11_rect_57 : decode cX11_rect 57 = .ok (.if_icmp .gt 43, 3) := by decide +kernel
theorem dX11_rect_60 : decode cX11_rect 60 = .ok (.iload_n 2, 1) := by decide +kernel
theorem dX11_rect_61 : decode cX11_rect 61 = .ok (.istore 8, 2) := by decide +kernel
theorem dX11_rect_63 : decode cX11_rect 63 = .ok (.iload 8, 2) := by decide +kernel
theorem dX11_rect_65 : decode cX11_rect 65 = .ok (.iload 4, 2) := by decide +kernel
theorem dX11_rect_67 : decode cX11_rect 67 = .ok (.if_icmp .gt 27, 3) := by decide +kernel
theorem dX11_rect_70 : decode cX11_rect 70 = .ok (.aload_n 0, 1) := by decide +kernel
theorem dX11_rect_71 : decode cX11_rect 71 = .ok (.getfield 35, 3) := by decide +kernel
theorem dX11_rect_74 : decode cX11_rect 74 = .ok (.iload_n 1, 1) := by decide +kernel
theorem dX11_rect_75 : decode cX11_rect 75 = .ok (.bipush 12, 2) := by decide +kernel
theorem dX11_rect_77 : decode cX11_rect 77 = .ok (.iload 7, 2) := by decide +kernel
theorem dX11_rect_79 : decode cX11_rect 79 = .ok (.imul, 1) := by decide +kernel
theorem dX11_rect_80 : decode cX11_rect 80 = .ok (.iload 8, 2) := by decide +kernel
theorem dX11_rect_82 : decode cX11_rect 82 = .ok (.iadd, 1) := by decide +kernel
theorem dX11_rect_83 : decode cX11_rect 83 = .ok (.iload 6, 2) := by decide +kernel
theorem dX11_rect_85 : decode cX11_rect 85 = .ok (.invokevirtual 102, 3) := by decide +kernel
theorem dX11_rect_88 : decode cX11_rect 88 = .ok (.iinc 8 1, 3) := by decide +kernel
theorem dX11_rect_91 : decode cX11_rect 91 = .ok (.goto (-28), 3) := by decide +kernel
theorem dX11_rect_94 : decode cX11_rect 94 = .ok (.iinc 7 1, 3) := by decide +kernel
theorem dX11_rect_97 : decode cX11_rect 97 = .ok (.goto (-44), 3) := by decide +kernel
theorem dX11_rect_100 : decode cX11_rect 100 = .ok (.aload_n 0, 1) := by decide +kernel
theorem dX11_rect_101 : decode cX11_rect 101 = .ok (.getfield 35, 3) := by decide +kernel
theorem dX11_rect_104 : decode cX11_rect 104 = .ok (.iload_n 1, 1) := by decide +kernel
theorem dX11_rect_105 : decode cX11_rect 105 = .ok (.invokevirtual 106, 3) := by decide +kernel
theorem dX11_rect_108 : decode cX11_rect 108 = .ok (.ireturn, 1) := by decide +kernel
set_option maxRecDepth 20000 in
theorem ggX11_masked_X11_within : GoodIn wsX11_masked wsX11_within := goodIn_r _ [5] (by decide +kernel) (by decide +kernel)
set_option maxRecDepth 20000 in
theorem gX11_masked_X11_within : GoodIn wsX11_masked (va_wsS RX11 98 yX11_within wsX11_within) := goodIn_app (goodIn_of _ (by decide +kernel)) ggX11_masked_X11_within
set_option maxRecDepth 20000 in
theorem ggX11_masked_X11_isPlace : GoodIn wsX11_masked wsX11_isPlace := goodIn_r _ [8, 2, 3, 4, 5] (by decide +kernel) (by decide +kernel)
set_option maxRecDepth 20000 in
theorem gX11_masked_X11_isPlace : GoodIn wsX11_masked (va_wsS RX11 110 yX11_isPlace wsX11_isPlace) := goodIn_app (goodIn_of _ (by decide +kernel)) ggX11_masked_X11_isPlace
set_option maxRecDepth 20000 in
theorem ggX11_masked_X4_has : GoodIn wsX11_masked wsX4_has := goodIn_r _ [13, 14, 28] (by decide +kernel) (by decide +kernel)
set_option maxRecDepth 20000 in
theorem gX11_masked_X4_has : GoodIn wsX11_masked (wsV RX11 114 RX4 yX4_has wsX4_has) := goodIn_app (goodIn_of _ (by decide +kernel)) ggX11_masked_X4_has
theorem dX11_masked_0 : decode cX11_masked 0 = .ok (.iload_n 1, 1) := by decide +kernel
theorem dX11_masked_1 : decode cX11_masked 1 = .ok (.iconst 0, 1) := by decide +kernel
theorem dX11_masked_2 : decode cX11_masked 2 = .ok (.bipush 7, 2) := by decide +kernel
theorem dX11_masked_4 : decode cX11_masked 4 = .ok (.invokestatic 98, 3) := by decide +kernel
theorem dX11_masked_7 : decode cX11_masked 7 = .ok (.ifCond .eq 10, 3) := by decide +kernel
theorem dX11_masked_10 : decode cX11_masked 10 = .ok (.iload_n 2, 1) := by decide +kernel
theorem dX11_masked_11 : decode cX11_masked 11 = .ok (.invokestatic 110, 3) := by decide +kernel
theorem dX11_masked_14 : decode cX11_masked 14 = .ok (.ifCond .ne 6, 3) := by decide +kernel
theorem dX11_masked_17 : decode cX11_masked 17 = .ok (.bipush (-101), 2) := by decide +kernel
theorem dX11_masked_19 : decode cX11_masked 19 = .ok (.ireturn, 1) := by decide +kernel
theorem dX11_masked_20 : decode cX11_masked 20 = .ok (.aload_n 0, 1) := by decide +kernel
theorem dX11_masked_21 : decode cX11_masked 21 = .ok (.getfield 35, 3) := by decide +kernel
theorem dX11_masked_24 : decode cX11_masked 24 = .ok (.iload_n 1, 1) := by decide +kernel
theorem dX11_masked_25 : decode cX11_masked 25 = .ok (.iload_n 2, 1) := by decide +kernel
theorem dX11_masked_26 : decode cX11_masked 26 = .ok (.invokevirtual 114, 3) := by decide +kernel
theorem dX11_masked_29 : decode cX11_masked 29 = .ok (.ifCond .eq 7, 3) := by decide +kernel
theorem dX11_masked_32 : decode cX11_masked 32 = .ok (.iconst 1, 1) := by decide +kernel
theorem dX11_masked_33 : decode cX11_masked 33 = .ok (.goto 4, 3) := by decide +kernel
theorem dX11_masked_36 : decode cX11_masked 36 = .ok (.iconst 0, 1) := by decide +kernel
theorem dX11_masked_37 : decode cX11_masked 37 = .ok (.ireturn, 1) := by decide +kernel
set_option maxRecDepth 20000 in
theorem ggX11_turned_X11_within : GoodIn wsX11_turned wsX11_within := goodIn_r _ [5] (by decide +kernel) (by decide +kernel)
set_option maxRecDepth 20000 in
theorem gX11_turned_X11_within : GoodIn wsX11_turned (va_wsS RX11 98 yX11_within wsX11_within) := goodIn_app (goodIn_of _ (by decide +kernel)) ggX11_turned_X11_within
set_option maxRecDepth 20000 in
theorem ggX11_turned_X4_has : GoodIn wsX11_turned wsX4_has := goodIn_r _ [10, 11, 34] (by decide +kernel) (by decide +kernel)
set_option maxRecDepth 20000 in
theorem gX11_turned_X4_has : GoodIn wsX11_turned (wsV RX11 114 RX4 yX4_has wsX4_has) := goodIn_app (goodIn_of _ (by decide +kernel)) ggX11_turned_X4_has
set_option maxRecDepth 20000 in
theorem ggX11_turned_X4_put : GoodIn wsX11_turned wsX4_put := goodIn_r _ [15, 11, 34] (by decide +kernel) (by decide +kernel)
set_option maxRecDepth 20000 in
theorem gX11_turned_X4_put : GoodIn wsX11_turned (wsV RX11 102 RX4 yX4_put wsX4_put) := goodIn_app (goodIn_of _ (by decide +kernel)) ggX11_turned_X4_put
set_option maxRecDepth 20000 in
theorem ggX11_turned_X4_size : GoodIn wsX11_turned wsX4_size := goodIn_r _ [19, 20, 7, 8, 9, 10, 11, 34] (by decide +kernel) (by decide +kernel)
set_option maxRecDepth 20000 in
theorem gX11_turned_X4_size : GoodIn wsX11_turned (wsV RX11 106 RX4 yX4_size wsX4_size) := goodIn_app (goodIn_of _ (by decide +kernel)) ggX11_turned_X4_size
theorem dX11_turned_0 : decode cX11_turned 0 = .ok (.iload_n 1, 1) := by decide +kernel
theorem dX11_turned_1 : decode cX11_turned 1 = .ok (.iconst 0, 1) := by decide +kernel
theorem dX11_turned_2 : decode cX11_turned 2 = .ok (.bipush 7, 2) := by decide +kernel
theorem dX11_turned_4 : decode cX11_turned 4 = .ok (.invokestatic 98, 3) := by decide +kernel
theorem dX11_turned_7 : decode cX11_turned 7 = .ok (.ifCond .ne 6, 3) := by decide +kernel
theorem dX11_turned_10 : decode cX11_turned 10 = .ok (.bipush (-101), 2) := by decide +kernel
theorem dX11_turned_12 : decode cX11_turned 12 = .ok (.ireturn, 1) := by decide +kernel
theorem dX11_turned_13 : decode cX11_turned 13 = .ok (.iconst 0, 1) := by decide +kernel
theorem dX11_turned_14 : decode cX11_turned 14 = .ok (.istore_n 2, 1) := by decide +kernel
theorem dX11_turned_15 : decode cX11_turned 15 = .ok (.iload_n 2, 1) := by decide +kernel
theorem dX11_turned_16 : decode cX11_turned 16 = .ok (.sipush 144, 3) := by decide +kernel
theorem dX11_turned_19 : decode cX11_turned 19 = .ok (.if_icmp .ge 35, 3) := by decide +kernel
theorem dX11_turned_22 : decode cX11_turned 22 = .ok (.aload_n 0, 1) := by decide +kernel
theorem dX11_turned_23 : decode cX11_turned 23 = .ok (.getfield 35, 3) := by decide +kernel
theorem dX11_turned_26 : decode cX11_turned 26 = .ok (.iload_n 1, 1) := by decide +kernel
theorem dX11_turned_27 : decode cX11_turned 27 = .ok (.iload_n 2, 1) := by decide +kernel
theorem dX11_turned_28 : decode cX11_turned 28 = .ok (.aload_n 0, 1) := by decide +kernel
theorem dX11_turned_29 : decode cX11_turned 29 = .ok (.getfield 35, 3) := by decide +kernel
theorem dX11_turned_32 : decode cX11_turned 32 = .ok (.iload_n 1, 1) := by decide +kernel
theorem dX11_turned_33 : decode cX11_turned 33 = .ok (.iload_n 2, 1) := by decide +kernel
theorem dX11_turned_34 : decode cX11_turned 34 = .ok (.invokevirtual 114, 3) := by decide +kernel
theorem dX11_turned_37 : decode cX11_turned 37 = .ok (.ifCond .ne 7, 3) := by decide +kernel
theorem dX11_turned_40 : decode cX11_turned 40 = .ok (.iconst 1, 1) := by decide +kernel
theorem dX11_turned_41 : decode cX11_turned 41 = .ok (.goto 4, 3) := by decide +kernel
theorem dX11_turned_44 : decode cX11_turned 44 = .ok (.iconst 0, 1) := by decide +kernel
theorem dX11_turned_45 : decode cX11_turned 45 = .ok (.invokevirtual 102, 3) := by decide +kernel
theorem dX11_turned_48 : decode cX11_turned 48 = .ok (.iinc 2 1, 3) := by decide +kernel
theorem dX11_turned_51 : decode cX11_turned 51 = .ok (.goto (-36), 3) := by decide +kernel
theorem dX11_turned_54 : decode cX11_turned 54 = .ok (.aload_n 0, 1) := by decide +kernel
theorem dX11_turned_55 : decode cX11_turned 55 = .ok (.getfield 35, 3) := by decide +kernel
theorem dX11_turned_58 : decode cX11_turned 58 = .ok (.iload_n 1, 1) := by decide +kernel
theorem dX11_turned_59 : decode cX11_turned 59 = .ok (.invokevirtual 106, 3) := by decide +kernel
theorem dX11_turned_62 : decode cX11_turned 62 = .ok (.ireturn, 1) := by decide +kernel
set_option maxRecDepth 20000 in
theorem ggX11_feed_X8_append : GoodIn wsX11_feed wsX8_append := goodIn_r _ [6, 7, 8, 22, 23] (by decide +kernel) (by decide +kernel)
set_option maxRecDepth 20000 in
theorem gX11_feed_X8_append : GoodIn wsX11_feed (wsV RX11 121 RX8 yX8_append wsX8_append) := goodIn_app (goodIn_of _ (by decide +kernel)) ggX11_feed_X8_append
theorem dX11_feed_0 : decode cX11_feed 0 = .ok (.aload_n 0, 1) := by decide +kernel
theorem dX11_feed_1 : decode cX11_feed 1 = .ok (.getfield 42, 3) := by decide +kernel
theorem dX11_feed_4 : decode cX11_feed 4 = .ok (.getfield 118, 3) := by decide +kernel
theorem dX11_feed_7 : decode cX11_feed 7 = .ok (.bipush 20, 2) := by decide +kernel
theorem dX11_feed_9 : decode cX11_feed 9 = .ok (.iadd, 1) := by decide +kernel
theorem dX11_feed_10 : decode cX11_feed 10 = .ok (.sipush 600, 3) := by decide +kernel
theorem dX11_feed_13 : decode cX11_feed 13 = .ok (.if_icmp .le 6, 3) := by decide +kernel
theorem dX11_feed_16 : decode cX11_feed 16 = .ok (.bipush (-104), 2) := by decide +kernel
theorem dX11_feed_18 : decode cX11_feed 18 = .ok (.ireturn, 1) := by decide +kernel
theorem dX11_feed_19 : decode cX11_feed 19 = .ok (.aload_n 0, 1) := by decide +kernel
theorem dX11_feed_20 : decode cX11_feed 20 = .ok (.getfield 42, 3) := by decide +kernel
theorem dX11_feed_23 : decode cX11_feed 23 = .ok (.iload_n 1, 1) := by decide +kernel
theorem dX11_feed_24 : decode cX11_feed 24 = .ok (.invokevirtual 121, 3) := by decide +kernel
theorem dX11_feed_27 : decode cX11_feed 27 = .ok (.aload_n 0, 1) := by decide +kernel
theorem dX11_feed_28 : decode cX11_feed 28 = .ok (.getfield 42, 3) := by decide +kernel
theorem dX11_feed_31 : decode cX11_feed 31 = .ok (.iload_n 2, 1) := by decide +kernel
theorem dX11_feed_32 : decode cX11_feed 32 = .ok (.invokevirtual 121, 3) := by decide +kernel
theorem dX11_feed_35 : decode cX11_feed 35 = .ok (.aload_n 0, 1) := by decide +kernel
theorem dX11_feed_36 : decode cX11_feed 36 = .ok (.getfield 42, 3) := by decide +kernel
theorem dX11_feed_39 : decode cX11_feed 39 = .ok (.iload_n 3, 1) := by decide +kernel
theorem dX11_feed_40 : decode cX11_feed 40 = .ok (.invokevirtual 121, 3) := by decide +kernel
theorem dX11_feed_43 : decode cX11_feed 43 = .ok (.aload_n 0, 1) := by decide +kernel
theorem dX11_feed_44 : decode cX11_feed 44 = .ok (.getfield 42, 3) := by decide +kernel
theorem dX11_feed_47 : decode cX11_feed 47 = .ok (.iload 4, 2) := by decide +kernel
theorem dX11_feed_49 : decode cX11_feed 49 = .ok (.invokevirtual 121, 3) := by decide +kernel
theorem dX11_feed_52 : decode cX11_feed 52 = .ok (.aload_n 0, 1) := by decide +kernel
theorem dX11_feed_53 : decode cX11_feed 53 = .ok (.getfield 42, 3) := by decide +kernel
theorem dX11_feed_56 : decode cX11_feed 56 = .ok (.iload 5, 2) := by decide +kernel
theorem dX11_feed_58 : decode cX11_feed 58 = .ok (.invokevirtual 121, 3) := by decide +kernel
theorem dX11_feed_61 : decode cX11_feed 61 = .ok (.aload_n 0, 1) := by decide +kernel
theorem dX11_feed_62 : decode cX11_feed 62 = .ok (.getfield 42, 3) := by decide +kernel
theorem dX11_feed_65 : decode cX11_feed 65 = .ok (.getfield 118, 3) := by decide +kernel
theorem dX11_feed_68 : decode cX11_feed 68 = .ok (.ireturn, 1) := by decide +kernel
set_option maxRecDepth 20000 in
theorem ggX11_cut_X11_within : GoodIn wsX11_cut wsX11_within := goodIn_r _ [5] (by decide +kernel) (by decide +kernel)
set_option maxRecDepth 20000 in
theorem gX11_cut_X11_within : GoodIn wsX11_cut (va_wsS RX11 98 yX11_within wsX11_within) := goodIn_app (goodIn_of _ (by decide +kernel)) ggX11_cut_X11_within
theorem dX11_cut_0 : decode cX11_cut 0 = .ok (.iload_n 1, 1) := by decide +kernel
theorem dX11_cut_1 : decode cX11_cut 1 = .ok (.iconst 0, 1) := by decide +kernel
theorem dX11_cut_2 : decode cX11_cut 2 = .ok (.aload_n 0, 1) := by decide +kernel
theorem dX11_cut_3 : decode cX11_cut 3 = .ok (.getfield 42, 3) := by decide +kernel
theorem dX11_cut_6 : decode cX11_cut 6 = .ok (.getfield 118, 3) := by decide +kernel
theorem dX11_cut_9 : decode cX11_cut 9 = .ok (.invokestatic 98, 3) := by decide +kernel
theorem dX11_cut_12 : decode cX11_cut 12 = .ok (.ifCond .ne 6, 3) := by decide +kernel
theorem dX11_cut_15 : decode cX11_cut 15 = .ok (.bipush (-102), 2) := by decide +kernel
theorem dX11_cut_17 : decode cX11_cut 17 = .ok (.ireturn, 1) := by decide +kernel
theorem dX11_cut_18 : decode cX11_cut 18 = .ok (.aload_n 0, 1) := by decide +kernel
theorem dX11_cut_19 : decode cX11_cut 19 = .ok (.getfield 42, 3) := by decide +kernel
theorem dX11_cut_22 : decode cX11_cut 22 = .ok (.getfield 118, 3) := by decide +kernel
theorem dX11_cut_25 : decode cX11_cut 25 = .ok (.iload_n 1, 1) := by decide +kernel
theorem dX11_cut_26 : decode cX11_cut 26 = .ok (.isub, 1) := by decide +kernel
theorem dX11_cut_27 : decode cX11_cut 27 = .ok (.istore_n 2, 1) := by decide +kernel
theorem dX11_cut_28 : decode cX11_cut 28 = .ok (.aload_n 0, 1) := by decide +kernel
theorem dX11_cut_29 : decode cX11_cut 29 = .ok (.getfield 42, 3) := by decide +kernel
theorem dX11_cut_32 : decode cX11_cut 32 = .ok (.iload_n 1, 1) := by decide +kernel
theorem dX11_cut_33 : decode cX11_cut 33 = .ok (.putfield 118, 3) := by decide +kernel
theorem dX11_cut_36 : decode cX11_cut 36 = .ok (.iload_n 2, 1) := by decide +kernel
theorem dX11_cut_37 : decode cX11_cut 37 = .ok (.ireturn, 1) := by decide +kernel
set_option maxRecDepth 20000 in
theorem ggX11_run_X5_read : GoodIn wsX11_run wsX5_read := goodIn_r _ [11, 12, 13, 14, 15, 16, 17, 18, 19, 20, 21, 22, 23, 24, 25, 26, 27, 28, 29, 30, 31, 32, 33, 34, 35, 36, 37, 38, 39, 40, 41, 42, 43, 44, 45, 46, 10, 47, 48, 49, 50, 51, 52, 53, 54, 55, 56, 57, 58, 59, 60, 61, 62, 63, 64, 65, 66, 67, 68, 69, 70, 71, 72, 73, 74, 75, 76, 77, 78, 79, 80, 81, 82, 83, 84, 85, 86, 87, 88, 89, 90, 91, 92, 93, 94, 95, 96, 97, 98, 99, 100, 101, 102, 103, 104, 105, 106, 107, 108, 109, 110, 111, 112, 113, 114, 115, 116, 117, 118, 119, 120, 121, 122, 123, 124, 125, 126, 127, 128, 129, 130, 131, 132, 133, 134, 135, 136, 137, 138, 139, 140, 141, 142, 143, 144, 145, 146, 147, 148, 149, 150, 151, 152, 153, 377, 378, 379, 380, 361, 362, 363, 364, 381, 382, 383, 384, 385, 386, 387, 388, 389, 390] (by decide +kernel) (by decide +kernel)
set_option maxRecDepth 20000 in
theorem gX11_run_X5_read : GoodIn wsX11_run (wsV RX11 125 RX5 yX5_read wsX5_read) := goodIn_app (goodIn_of _ (by decide +kernel)) ggX11_run_X5_read
set_option maxRecDepth 20000 in
theorem ggX11_run_X3_note : GoodIn wsX11_run wsX3_note := goodIn_r _ [158, 159, 160, 161, 162, 163, 164, 391, 392, 393] (by decide +kernel) (by decide +kernel)
set_option maxRecDepth 20000 in
theorem gX11_run_X3_note : GoodIn wsX11_run (wsV RX11 135 RX3 yX3_note wsX3_note) := goodIn_app (goodIn_of _ (by decide +kernel)) ggX11_run_X3_note
set_option maxRecDepth 20000 in
theorem ggX11_run_X6_perform : GoodIn wsX11_run wsX6_perform := goodIn_r _ [169, 170, 171, 172, 173, 174, 175, 176, 177, 168, 178, 179, 180, 181, 182, 183, 184, 185, 186, 187, 188, 189, 190, 191, 192, 193, 194, 195, 196, 197, 198, 199, 200, 201, 138, 34, 139, 202, 203, 204, 205, 206, 207, 208, 209, 210, 211, 212, 213, 214, 215, 216, 217, 218, 219, 220, 221, 222, 223, 224, 225, 226, 227, 228, 229, 230, 231, 232, 233, 234, 235, 236, 237, 238, 239, 240, 241, 242, 243, 244, 245, 246, 247, 248, 249, 250, 251, 252, 253, 254, 255, 256, 257, 258, 259, 260, 261, 262, 263, 264, 265, 266, 267, 268, 269, 270, 271, 272, 273, 274, 275, 276, 277, 278, 279, 280, 281, 282, 283, 284, 285, 286, 287, 288, 289, 290, 291, 292, 293, 294, 295, 296, 297, 298, 299, 300, 301, 302, 303, 304, 305, 306, 307, 308, 309, 310, 311, 312, 313, 314, 315, 316, 317, 318, 319, 320, 321, 322, 323, 324, 325, 326, 327, 328, 329, 330, 331, 332, 333, 334, 335, 366, 367, 368, 369, 370, 371, 372, 373, 374, 375, 376, 377, 378, 379, 380, 383, 384, 385, 386, 387, 388, 389, 390, 365, 394, 395, 396, 397, 398, 399, 400, 401] (by decide +kernel) (by decide +kernel)
set_option maxRecDepth 20000 in
theorem gX11_run_X6_perform : GoodIn wsX11_run (wsV RX11 139 RX6 yX6_perform wsX6_perform) := goodIn_app (goodIn_of _ (by decide +kernel)) ggX11_run_X6_perform
set_option maxRecDepth 20000 in
theorem ggX11_run_X3_bringBack : GoodIn wsX11_run wsX3_bringBack := goodIn_r _ [339, 159, 160, 161, 162, 163, 164, 391, 392, 393] (by decide +kernel) (by decide +kernel)
set_option maxRecDepth 20000 in
theorem gX11_run_X3_bringBack : GoodIn wsX11_run (wsV RX11 143 RX3 yX3_bringBack wsX3_bringBack) := goodIn_app (goodIn_of _ (by decide +kernel)) ggX11_run_X3_bringBack
set_option maxRecDepth 20000 in
theorem ggX11_run_X3_keepNoted : GoodIn wsX11_run wsX3_keepNoted := goodIn_r _ [343, 160, 344, 345, 346, 299, 347, 391, 392, 393] (by decide +kernel) (by decide +kernel)
set_option maxRecDepth 20000 in
theorem gX11_run_X3_keepNoted : GoodIn wsX11_run (wsV RX11 149 RX3 yX3_keepNoted wsX3_keepNoted) := goodIn_app (goodIn_of _ (by decide +kernel)) ggX11_run_X3_keepNoted
theorem dX11_run_0 : decode cX11_run 0 = .ok (.aload_n 0, 1) := by decide +kernel
theorem dX11_run_1 : decode cX11_run 1 = .ok (.getfield 58, 3) := by decide +kernel
theorem dX11_run_4 : decode cX11_run 4 = .ok (.aload_n 0, 1) := by decide +kernel
theorem dX11_run_5 : decode cX11_run 5 = .ok (.getfield 51, 3) := by decide +kernel
theorem dX11_run_8 : decode cX11_run 8 = .ok (.invokevirtual 125, 3) := by decide +kernel
theorem dX11_run_11 : decode cX11_run 11 = .ok (.istore_n 1, 1) := by decide +kernel
theorem dX11_run_12 : decode cX11_run 12 = .ok (.iload_n 1, 1) := by decide +kernel
theorem dX11_run_13 : decode cX11_run 13 = .ok (.ifCond .eq 19, 3) := by decide +kernel
theorem dX11_run_16 : decode cX11_run 16 = .ok (.aload_n 0, 1) := by decide +kernel
theorem dX11_run_17 : decode cX11_run 17 = .ok (.aload_n 0, 1) := by decide +kernel
theorem dX11_run_18 : decode cX11_run 18 = .ok (.getfield 51, 3) := by decide +kernel
theorem dX11_run_21 : decode cX11_run 21 = .ok (.getfield 129, 3) := by decide +kernel
theorem dX11_run_24 : decode cX11_run 24 = .ok (.putfield 95, 3) := by decide +kernel
theorem dX11_run_27 : decode cX11_run 27 = .ok (.bipush (-10), 2) := by decide +kernel
theorem dX11_run_29 : decode cX11_run 29 = .ok (.iload_n 1, 1) := by decide +kernel
theorem dX11_run_30 : decode cX11_run 30 = .ok (.isub, 1) := by decide +kernel
theorem dX11_run_31 : decode cX11_run 31 = .ok (.ireturn, 1) := by decide +kernel
theorem dX11_run_32 : decode cX11_run 32 = .ok (.aload_n 0, 1) := by decide +kernel
theorem dX11_run_33 : decode cX11_run 33 = .ok (.getfield 74, 3) := by decide +kernel
theorem dX11_run_36 : decode cX11_run 36 = .ok (.aload_n 0, 1) := by decide +kernel
theorem dX11_run_37 : decode cX11_run 37 = .ok (.getfield 12, 3) := by decide +kernel
theorem dX11_run_40 : decode cX11_run 40 = .ok (.getfield 132, 3) := by decide +kernel
theorem dX11_run_43 : decode cX11_run 43 = .ok (.invokevirtual 135, 3) := by decide +kernel
theorem dX11_run_46 : decode cX11_run 46 = .ok (.aload_n 0, 1) := by decide +kernel
theorem dX11_run_47 : decode cX11_run 47 = .ok (.getfield 67, 3) := by decide +kernel
theorem dX11_run_50 : decode cX11_run 50 = .ok (.aload_n 0, 1) := by decide +kernel
theorem dX11_run_51 : decode cX11_run 51 = .ok (.getfield 58, 3) := by decide +kernel
theorem dX11_run_54 : decode cX11_run 54 = .ok (.invokevirtual 139, 3) := by decide +kernel
theorem dX11_run_57 : decode cX11_run 57 = .ok (.istore_n 2, 1) := by decide +kernel
theorem dX11_run_58 : decode cX11_run 58 = .ok (.iload_n 2, 1) := by decide +kernel
theorem dX11_run_59 : decode cX11_run 59 = .ok (.ifCond .eq 33, 3) := by decide +kernel
theorem dX11_run_62 : decode cX11_run 62 = .ok (.aload_n 0, 1) := by decide +kernel
theorem dX11_run_63 : decode cX11_run 63 = .ok (.getfield 74, 3) := by decide +kernel
theorem dX11_run_66 : decode cX11_run 66 = .ok (.aload_n 0, 1) := by decide +kernel
theorem dX11_run_67 : decode cX11_run 67 = .ok (.getfield 12, 3) := by decide +kernel
theorem dX11_run_70 : decode cX11_run 70 = .ok (.getfield 132, 3) := by decide +kernel
theorem dX11_run_73 : decode cX11_run 73 = .ok (.invokevirtual 143, 3) := by decide +kernel
theorem dX11_run_76 : decode cX11_run 76 = .ok (.aload_n 0, 1) := by decide +kernel
theorem dX11_run_77 : decode cX11_run 77 = .ok (.aload_n 0, 1) := by decide +kernel
theorem dX11_run_78 : decode cX11_run 78 = .ok (.getfield 67, 3) := by decide +kernel
theorem dX11_run_81 : decode cX11_run 81 = .ok (.getfield 146, 3) := by decide +kernel
theorem dX11_run_84 : decode cX11_run 84 = .ok (.putfield 95, 3) := by decide +kernel
theorem dX11_run_87 : decode cX11_run 87 = .ok (.bipush (-20), 2) := by decide +kernel
theorem dX11_run_89 : decode cX11_run 89 = .ok (.iload_n 2, 1) := by decide +kernel
theorem dX11_run_90 : decode cX11_run 90 = .ok (.isub, 1) := by decide +kernel
theorem dX11_run_91 : decode cX11_run 91 = .ok (.ireturn, 1) := by decide +kernel
theorem dX11_run_92 : decode cX11_run 92 = .ok (.aload_n 0, 1) := by decide +kernel
theorem dX11_run_93 : decode cX11_run 93 = .ok (.getfield 74, 3) := by decide +kernel
theorem dX11_run_96 : decode cX11_run 96 = .ok (.invokevirtual 149, 3) := by decide +kernel
theorem dX11_run_99 : decode cX11_run 99 = .ok (.aload_n 0, 1) := by decide +kernel
theorem dX11_run_100 : decode cX11_run 100 = .ok (.iconst (-1), 1) := by decide +kernel
theorem dX11_run_101 : decode cX11_run 101 = .ok (.putfield 95, 3) := by decide +kernel
theorem dX11_run_104 : decode cX11_run 104 = .ok (.aload_n 0, 1) := by decide +kernel
theorem dX11_run_105 : decode cX11_run 105 = .ok (.getfield 67, 3) := by decide +kernel
theorem dX11_run_108 : decode cX11_run 108 = .ok (.getfield 152, 3) := by decide +kernel
theorem dX11_run_111 : decode cX11_run 111 = .ok (.ireturn, 1) := by decide +kernel
theorem dX11_place_0 : decode cX11_place 0 = .ok (.aload_n 0, 1) := by decide +kernel
theorem dX11_place_1 : decode cX11_place 1 = .ok (.getfield 95, 3) := by decide +kernel
theorem dX11_place_4 : decode cX11_place 4 = .ok (.ireturn, 1) := by decide +kernel
set_option maxRecDepth 20000 in
theorem ggX11_undo_X3_stepBack : GoodIn wsX11_undo wsX3_stepBack := goodIn_r _ [7, 8, 9, 33, 34, 35] (by decide +kernel) (by decide +kernel)
set_option maxRecDepth 20000 in
theorem gX11_undo_X3_stepBack : GoodIn wsX11_undo (wsV RX11 155 RX3 yX3_stepBack wsX3_stepBack) := goodIn_app (goodIn_of _ (by decide +kernel)) ggX11_undo_X3_stepBack
set_option maxRecDepth 20000 in
theorem ggX11_undo_X3_bringBack : GoodIn wsX11_undo wsX3_bringBack := goodIn_r _ [13, 14, 9, 15, 16, 17, 18, 33, 34, 35] (by decide +kernel) (by decide +kernel)
set_option maxRecDepth 20000 in
theorem gX11_undo_X3_bringBack : GoodIn wsX11_undo (wsV RX11 143 RX3 yX3_bringBack wsX3_bringBack) := goodIn_app (goodIn_of _ (by decide +kernel)) ggX11_undo_X3_bringBack
theorem dX11_undo_0 : decode cX11_undo 0 = .ok (.aload_n 0, 1) := by decide +kernel
theorem dX11_undo_1 : decode cX11_undo 1 = .ok (.getfield 74, 3) := by decide +kernel
theorem dX11_undo_4 : decode cX11_undo 4 = .ok (.invokevirtual 155, 3) := by decide +kernel
theorem dX11_undo_7 : decode cX11_undo 7 = .ok (.ifCond .ne 5, 3) := by decide +kernel
theorem dX11_undo_10 : decode cX11_undo 10 = .ok (.iconst 0, 1) := by decide +kernel
theorem dX11_undo_11 : decode cX11_undo 11 = .ok (.ireturn, 1) := by decide +kernel
theorem dX11_undo_12 : decode cX11_undo 12 = .ok (.aload_n 0, 1) := by decide +kernel
theorem dX11_undo_13 : decode cX11_undo 13 = .ok (.getfield 74, 3) := by decide +kernel
theorem dX11_undo_16 : decode cX11_undo 16 = .ok (.aload_n 0, 1) := by decide +kernel
theorem dX11_undo_17 : decode cX11_undo 17 = .ok (.getfield 12, 3) := by decide +kernel
theorem dX11_undo_20 : decode cX11_undo 20 = .ok (.getfield 132, 3) := by decide +kernel
theorem dX11_undo_23 : decode cX11_undo 23 = .ok (.invokevirtual 143, 3) := by decide +kernel
theorem dX11_undo_26 : decode cX11_undo 26 = .ok (.iconst 1, 1) := by decide +kernel
theorem dX11_undo_27 : decode cX11_undo 27 = .ok (.ireturn, 1) := by decide +kernel
set_option maxRecDepth 20000 in
theorem ggX11_at_X11_isPlace : GoodIn wsX11_at wsX11_isPlace := goodIn_r _ [5, 6, 7, 4, 8] (by decide +kernel) (by decide +kernel)
set_option maxRecDepth 20000 in
theorem gX11_at_X11_isPlace : GoodIn wsX11_at (va_wsS RX11 110 yX11_isPlace wsX11_isPlace) := goodIn_app (goodIn_of _ (by decide +kernel)) ggX11_at_X11_isPlace
set_option maxRecDepth 20000 in
theorem ggX11_at_X11_isHeight : GoodIn wsX11_at wsX11_isHeight := goodIn_r _ [11, 6, 7, 4, 8] (by decide +kernel) (by decide +kernel)
set_option maxRecDepth 20000 in
theorem gX11_at_X11_isHeight : GoodIn wsX11_at (va_wsS RX11 159 yX11_isHeight wsX11_isHeight) := goodIn_app (goodIn_of _ (by decide +kernel)) ggX11_at_X11_isHeight
theorem dX11_at_0 : decode cX11_at 0 = .ok (.iload_n 1, 1) := by decide +kernel
theorem dX11_at_1 : decode cX11_at 1 = .ok (.invokestatic 110, 3) := by decide +kernel
theorem dX11_at_4 : decode cX11_at 4 = .ok (.ifCond .eq 10, 3) := by decide +kernel
theorem dX11_at_7 : decode cX11_at 7 = .ok (.iload_n 2, 1) := by decide +kernel
theorem dX11_at_8 : decode cX11_at 8 = .ok (.invokestatic 159, 3) := by decide +kernel
theorem dX11_at_11 : decode cX11_at 11 = .ok (.ifCond .ne 6, 3) := by decide +kernel
theorem dX11_at_14 : decode cX11_at 14 = .ok (.bipush (-101), 2) := by decide +kernel
theorem dX11_at_16 : decode cX11_at 16 = .ok (.ireturn, 1) := by decide +kernel
theorem dX11_at_17 : decode cX11_at 17 = .ok (.aload_n 0, 1) := by decide +kernel
theorem dX11_at_18 : decode cX11_at 18 = .ok (.getfield 12, 3) := by decide +kernel
theorem dX11_at_21 : decode cX11_at 21 = .ok (.getfield 132, 3) := by decide +kernel
theorem dX11_at_24 : decode cX11_at 24 = .ok (.iload_n 2, 1) := by decide +kernel
theorem dX11_at_25 : decode cX11_at 25 = .ok (.sipush 144, 3) := by decide +kernel
theorem dX11_at_28 : decode cX11_at 28 = .ok (.imul, 1) := by decide +kernel
theorem dX11_at_29 : decode cX11_at 29 = .ok (.iload_n 1, 1) := by decide +kernel
theorem dX11_at_30 : decode cX11_at 30 = .ok (.iadd, 1) := by decide +kernel
theorem dX11_at_31 : decode cX11_at 31 = .ok (.iaload, 1) := by decide +kernel
theorem dX11_at_32 : decode cX11_at 32 = .ok (.ireturn, 1) := by decide +kernel
set_option maxRecDepth 20000 in
theorem ggX11_top_X11_isPlace : GoodIn wsX11_top wsX11_isPlace := goodIn_r _ [5, 6, 7, 4, 8] (by decide +kernel) (by decide +kernel)
set_option maxRecDepth 20000 in
theorem gX11_top_X11_isPlace : GoodIn wsX11_top (va_wsS RX11 110 yX11_isPlace wsX11_isPlace) := goodIn_app (goodIn_of _ (by decide +kernel)) ggX11_top_X11_isPlace
set_option maxRecDepth 20000 in
theorem ggX11_top_X0_highest : GoodIn wsX11_top wsX0_highest := goodIn_r _ [13, 14, 28] (by decide +kernel) (by decide +kernel)
set_option maxRecDepth 20000 in
theorem gX11_top_X0_highest : GoodIn wsX11_top (wsV RX11 162 RX0 yX0_highest wsX0_highest) := goodIn_app (goodIn_of _ (by decide +kernel)) ggX11_top_X0_highest
theorem dX11_top_0 : decode cX11_top 0 = .ok (.iload_n 1, 1) := by decide +kernel
theorem dX11_top_1 : decode cX11_top 1 = .ok (.invokestatic 110, 3) := by decide +kernel
theorem dX11_top_4 : decode cX11_top 4 = .ok (.ifCond .eq 14, 3) := by decide +kernel
theorem dX11_top_7 : decode cX11_top 7 = .ok (.aload_n 0, 1) := by decide +kernel
theorem dX11_top_8 : decode cX11_top 8 = .ok (.getfield 12, 3) := by decide +kernel
theorem dX11_top_11 : decode cX11_top 11 = .ok (.iload_n 1, 1) := by decide +kernel
theorem dX11_top_12 : decode cX11_top 12 = .ok (.invokevirtual 162, 3) := by decide +kernel
theorem dX11_top_15 : decode cX11_top 15 = .ok (.goto 5, 3) := by decide +kernel
theorem dX11_top_18 : decode cX11_top 18 = .ok (.bipush (-101), 2) := by decide +kernel
theorem dX11_top_20 : decode cX11_top 20 = .ok (.ireturn, 1) := by decide +kernel
set_option maxRecDepth 20000 in
theorem ggX11_volume_X11_within : GoodIn wsX11_volume wsX11_within := goodIn_r _ [6] (by decide +kernel) (by decide +kernel)
set_option maxRecDepth 20000 in
theorem gX11_volume_X11_within : GoodIn wsX11_volume (va_wsS RX11 98 yX11_within wsX11_within) := goodIn_app (goodIn_of _ (by decide +kernel)) ggX11_volume_X11_within
set_option maxRecDepth 20000 in
theorem ggX11_volume_X10_countOpen : GoodIn wsX11_volume wsX10_countOpen := goodIn_r _ [11, 12, 13, 14, 15, 16, 17, 18, 19, 20, 21, 22, 23, 24, 25, 26, 27, 28, 29, 5, 30, 31, 32, 33, 34, 35, 36, 37, 38, 39, 40, 41, 42, 43, 44, 10, 45, 46, 47, 48, 49, 77, 78, 79, 80, 81, 82, 83] (by decide +kernel) (by decide +kernel)
set_option maxRecDepth 20000 in
theorem gX11_volume_X10_countOpen : GoodIn wsX11_volume (wsV RX11 165 RX10 yX10_countOpen wsX10_countOpen) := goodIn_app (goodIn_of _ (by decide +kernel)) ggX11_volume_X10_countOpen
set_option maxRecDepth 20000 in
theorem ggX11_volume_X10_countFloating : GoodIn wsX11_volume wsX10_countFloating := goodIn_r _ [53, 12, 13, 54, 55, 56, 17, 57, 19, 20, 21, 22, 23, 24, 25, 26, 27, 28, 29, 5, 30, 31, 32, 33, 34, 35, 36, 37, 38, 39, 40, 41, 42, 43, 44, 10, 45, 46, 47, 48, 49, 77, 78, 79, 80, 81, 82, 83] (by decide +kernel) (by decide +kernel)
set_option maxRecDepth 20000 in
theorem gX11_volume_X10_countFloating : GoodIn wsX11_volume (wsV RX11 169 RX10 yX10_countFloating wsX10_countFloating) := goodIn_app (goodIn_of _ (by decide +kernel)) ggX11_volume_X10_countFloating
set_option maxRecDepth 20000 in
theorem ggX11_volume_X0_count : GoodIn wsX11_volume wsX0_count := goodIn_r _ [62, 63, 29, 5, 30, 84] (by decide +kernel) (by decide +kernel)
set_option maxRecDepth 20000 in
theorem gX11_volume_X0_count : GoodIn wsX11_volume (wsV RX11 172 RX0 yX0_count wsX0_count) := goodIn_app (goodIn_of _ (by decide +kernel)) ggX11_volume_X0_count
theorem dX11_volume_0 : decode cX11_volume 0 = .ok (.iload_n 1, 1) := by decide +kernel
theorem dX11_volume_1 : decode cX11_volume 1 = .ok (.iconst 0, 1) := by decide +kernel
theorem dX11_volume_2 : decode cX11_volume 2 = .ok (.bipush 11, 2) := by decide +kernel
theorem dX11_volume_4 : decode cX11_volume 4 = .ok (.invokestatic 98, 3) := by decide +kernel
theorem dX11_volume_7 : decode cX11_volume 7 = .ok (.ifCond .ne 6, 3) := by decide +kernel
theorem dX11_volume_10 : decode cX11_volume 10 = .ok (.bipush (-102), 2) := by decide +kernel
theorem dX11_volume_12 : decode cX11_volume 12 = .ok (.ireturn, 1) := by decide +kernel
theorem dX11_volume_13 : decode cX11_volume 13 = .ok (.iload_n 1, 1) := by decide +kernel
theorem dX11_volume_14 : decode cX11_volume 14 = .ok (.tableswitch 74 8 11 #[30, 38, 46, 57], 30) := by decide +kernel
theorem dX11_volume_44 : decode cX11_volume 44 = .ok (.aload_n 0, 1) := by decide +kernel
theorem dX11_volume_45 : decode cX11_volume 45 = .ok (.getfield 28, 3) := by decide +kernel
theorem dX11_volume_48 : decode cX11_volume 48 = .ok (.invokevirtual 165, 3) := by decide +kernel
theorem dX11_volume_51 : decode cX11_volume 51 = .ok (.ireturn, 1) := by decide +kernel
theorem dX11_volume_52 : decode cX11_volume 52 = .ok (.aload_n 0, 1) := by decide +kernel
theorem dX11_volume_53 : decode cX11_volume 53 = .ok (.getfield 28, 3) := by decide +kernel
theorem dX11_volume_56 : decode cX11_volume 56 = .ok (.invokevirtual 169, 3) := by decide +kernel
theorem dX11_volume_59 : decode cX11_volume 59 = .ok (.ireturn, 1) := by decide +kernel
theorem dX11_volume_60 : decode cX11_volume 60 = .ok (.aload_n 0, 1) := by decide +kernel
theorem dX11_volume_61 : decode cX11_volume 61 = .ok (.getfield 12, 3) := by decide +kernel
theorem dX11_volume_64 : decode cX11_volume 64 = .ok (.sipush 254, 3) := by decide +kernel
theorem dX11_volume_67 : decode cX11_volume 67 = .ok (.invokevirtual 172, 3) := by decide +kernel
theorem dX11_volume_70 : decode cX11_volume 70 = .ok (.ireturn, 1) := by decide +kernel
theorem dX11_volume_71 : decode cX11_volume 71 = .ok (.aload_n 0, 1) := by decide +kernel
theorem dX11_volume_72 : decode cX11_volume 72 = .ok (.getfield 12, 3) := by decide +kernel
theorem dX11_volume_75 : decode cX11_volume 75 = .ok (.iconst 1, 1) := by decide +kernel
theorem dX11_volume_76 : decode cX11_volume 76 = .ok (.invokevirtual 172, 3) := by decide +kernel
theorem dX11_volume_79 : decode cX11_volume 79 = .ok (.aload_n 0, 1) := by decide +kernel
theorem dX11_volume_80 : decode cX11_volume 80 = .ok (.getfield 28, 3) := by decide +kernel
theorem dX11_volume_83 : decode cX11_volume 83 = .ok (.invokevirtual 165, 3) := by decide +kernel
theorem dX11_volume_86 : decode cX11_volume 86 = .ok (.isub, 1) := by decide +kernel
theorem dX11_volume_87 : decode cX11_volume 87 = .ok (.ireturn, 1) := by decide +kernel
theorem dX11_volume_88 : decode cX11_volume 88 = .ok (.aload_n 0, 1) := by decide +kernel
theorem dX11_volume_89 : decode cX11_volume 89 = .ok (.getfield 12, 3) := by decide +kernel
theorem dX11_volume_92 : decode cX11_volume 92 = .ok (.iconst 1, 1) := by decide +kernel
theorem dX11_volume_93 : decode cX11_volume 93 = .ok (.iload_n 1, 1) := by decide +kernel
theorem dX11_volume_94 : decode cX11_volume 94 = .ok (.ishl, 1) := by decide +kernel
theorem dX11_volume_95 : decode cX11_volume 95 = .ok (.invokevirtual 172, 3) := by decide +kernel
theorem dX11_volume_98 : decode cX11_volume 98 = .ok (.ireturn, 1) := by decide +kernel
set_option maxRecDepth 20000 in
theorem ggX11_span_X11_isPlace : GoodIn wsX11_span wsX11_isPlace := goodIn_r _ [5, 6, 7, 4, 8] (by decide +kernel) (by decide +kernel)
set_option maxRecDepth 20000 in
theorem gX11_span_X11_isPlace : GoodIn wsX11_span (va_wsS RX11 110 yX11_isPlace wsX11_isPlace) := goodIn_app (goodIn_of _ (by decide +kernel)) ggX11_span_X11_isPlace
set_option maxRecDepth 20000 in
theorem ggX11_span_X0_countSpans : GoodIn wsX11_span wsX0_countSpans := goodIn_r _ [13, 14, 15, 16, 12, 17, 18, 19, 20, 21, 22, 44] (by decide +kernel) (by decide +kernel)
set_option maxRecDepth 20000 in
theorem gX11_span_X0_countSpans : GoodIn wsX11_span (wsV RX11 175 RX0 yX0_countSpans wsX0_countSpans) := goodIn_app (goodIn_of _ (by decide +kernel)) ggX11_span_X0_countSpans
set_option maxRecDepth 20000 in
theorem ggX11_span_X0_lowOfSpan : GoodIn wsX11_span wsX0_lowOfSpan := goodIn_r _ [26, 14, 15, 16, 12, 17, 18, 19, 20, 21, 22, 44] (by decide +kernel) (by decide +kernel)
set_option maxRecDepth 20000 in
theorem gX11_span_X0_lowOfSpan : GoodIn wsX11_span (wsV RX11 178 RX0 yX0_lowOfSpan wsX0_lowOfSpan) := goodIn_app (goodIn_of _ (by decide +kernel)) ggX11_span_X0_lowOfSpan
set_option maxRecDepth 20000 in
theorem ggX11_span_X0_endOfSpan : GoodIn wsX11_span wsX0_endOfSpan := goodIn_r _ [30, 18, 44] (by decide +kernel) (by decide +kernel)
set_option maxRecDepth 20000 in
theorem gX11_span_X0_endOfSpan : GoodIn wsX11_span (wsV RX11 182 RX0 yX0_endOfSpan wsX0_endOfSpan) := goodIn_app (goodIn_of _ (by decide +kernel)) ggX11_span_X0_endOfSpan
theorem dX11_span_0 : decode cX11_span 0 = .ok (.iload_n 1, 1) := by decide +kernel
theorem dX11_span_1 : decode cX11_span 1 = .ok (.invokestatic 110, 3) := by decide +kernel
theorem dX11_span_4 : decode cX11_span 4 = .ok (.ifCond .ne 6, 3) := by decide +kernel
theorem dX11_span_7 : decode cX11_span 7 = .ok (.bipush (-101), 2) := by decide +kernel
theorem dX11_span_9 : decode cX11_span 9 = .ok (.ireturn, 1) := by decide +kernel
theorem dX11_span_10 : decode cX11_span 10 = .ok (.iload_n 2, 1) := by decide +kernel
theorem dX11_span_11 : decode cX11_span 11 = .ok (.iconst (-1), 1) := by decide +kernel
theorem dX11_span_12 : decode cX11_span 12 = .ok (.if_icmp .ne 12, 3) := by decide +kernel
theorem dX11_span_15 : decode cX11_span 15 = .ok (.aload_n 0, 1) := by decide +kernel
theorem dX11_span_16 : decode cX11_span 16 = .ok (.getfield 12, 3) := by decide +kernel
theorem dX11_span_19 : decode cX11_span 19 = .ok (.iload_n 1, 1) := by decide +kernel
theorem dX11_span_20 : decode cX11_span 20 = .ok (.invokevirtual 175, 3) := by decide +kernel
theorem dX11_span_23 : decode cX11_span 23 = .ok (.ireturn, 1) := by decide +kernel
theorem dX11_span_24 : decode cX11_span 24 = .ok (.aload_n 0, 1) := by decide +kernel
theorem dX11_span_25 : decode cX11_span 25 = .ok (.getfield 12, 3) := by decide +kernel
theorem dX11_span_28 : decode cX11_span 28 = .ok (.iload_n 1, 1) := by decide +kernel
theorem dX11_span_29 : decode cX11_span 29 = .ok (.iload_n 2, 1) := by decide +kernel
theorem dX11_span_30 : decode cX11_span 30 = .ok (.invokevirtual 178, 3) := by decide +kernel
theorem dX11_span_33 : decode cX11_span 33 = .ok (.istore 4, 2) := by decide +kernel
theorem dX11_span_35 : decode cX11_span 35 = .ok (.iload 4, 2) := by decide +kernel
theorem dX11_span_37 : decode cX11_span 37 = .ok (.iconst (-1), 1) := by decide +kernel
theorem dX11_span_38 : decode cX11_span 38 = .ok (.if_icmp .ne 6, 3) := by decide +kernel
theorem dX11_span_41 : decode cX11_span 41 = .ok (.bipush (-101), 2) := by decide +kernel
theorem dX11_span_43 : decode cX11_span 43 = .ok (.ireturn, 1) := by decide +kernel
theorem dX11_span_44 : decode cX11_span 44 = .ok (.iload_n 3, 1) := by decide +kernel
theorem dX11_span_45 : decode cX11_span 45 = .ok (.tableswitch 61 0 2 #[27, 44, 58], 27) := by decide +kernel
theorem dX11_span_72 : decode cX11_span 72 = .ok (.aload_n 0, 1) := by decide +kernel
theorem dX11_span_73 : decode cX11_span 73 = .ok (.getfield 12, 3) := by decide +kernel
theorem dX11_span_76 : decode cX11_span 76 = .ok (.getfield 132, 3) := by decide +kernel
theorem dX11_span_79 : decode cX11_span 79 = .ok (.iload 4, 2) := by decide +kernel
theorem dX11_span_81 : decode cX11_span 81 = .ok (.sipush 144, 3) := by decide +kernel
theorem dX11_span_84 : decode cX11_span 84 = .ok (.imul, 1) := by decide +kernel
theorem dX11_span_85 : decode cX11_span 85 = .ok (.iload_n 1, 1) := by decide +kernel
theorem dX11_span_86 : decode cX11_span 86 = .ok (.iadd, 1) := by decide +kernel
theorem dX11_span_87 : decode cX11_span 87 = .ok (.iaload, 1) := by decide +kernel
theorem dX11_span_88 : decode cX11_span 88 = .ok (.ireturn, 1) := by decide +kernel
theorem dX11_span_89 : decode cX11_span 89 = .ok (.aload_n 0, 1) := by decide +kernel
theorem dX11_span_90 : decode cX11_span 90 = .ok (.getfield 12, 3) := by decide +kernel
theorem dX11_span_93 : decode cX11_span 93 = .ok (.iload_n 1, 1) := by decide +kernel
theorem dX11_span_94 : decode cX11_span 94 = .ok (.iload 4, 2) := by decide +kernel
theorem dX11_span_96 : decode cX11_span 96 = .ok (.invokevirtual 182, 3) := by decide +kernel
theorem dX11_span_99 : decode cX11_span 99 = .ok (.iload 4, 2) := by decide +kernel
theorem dX11_span_101 : decode cX11_span 101 = .ok (.isub, 1) := by decide +kernel
theorem dX11_span_102 : decode cX11_span 102 = .ok (.ireturn, 1) := by decide +kernel
theorem dX11_span_103 : decode cX11_span 103 = .ok (.iload 4, 2) := by decide +kernel
theorem dX11_span_105 : decode cX11_span 105 = .ok (.ireturn, 1) := by decide +kernel
theorem dX11_span_106 : decode cX11_span 106 = .ok (.bipush (-102), 2) := by decide +kernel
theorem dX11_span_108 : decode cX11_span 108 = .ok (.ireturn, 1) := by decide +kernel
set_option maxRecDepth 20000 in
theorem ggX11_thin_X11_within : GoodIn wsX11_thin wsX11_within := goodIn_r _ [5] (by decide +kernel) (by decide +kernel)
set_option maxRecDepth 20000 in
theorem gX11_thin_X11_within : GoodIn wsX11_thin (va_wsS RX11 98 yX11_within wsX11_within) := goodIn_app (goodIn_of _ (by decide +kernel)) ggX11_thin_X11_within
set_option maxRecDepth 20000 in
theorem ggX11_thin_X0_hasThinSpan : GoodIn wsX11_thin wsX0_hasThinSpan := goodIn_r _ [10, 11, 12, 13, 14, 9, 15, 16, 17, 18, 19, 33] (by decide +kernel) (by decide +kernel)
set_option maxRecDepth 20000 in
theorem gX11_thin_X0_hasThinSpan : GoodIn wsX11_thin (wsV RX11 185 RX0 yX0_hasThinSpan wsX0_hasThinSpan) := goodIn_app (goodIn_of _ (by decide +kernel)) ggX11_thin_X0_hasThinSpan
theorem dX11_thin_0 : decode cX11_thin 0 = .ok (.iload_n 1, 1) := by decide +kernel
theorem dX11_thin_1 : decode cX11_thin 1 = .ok (.iconst 1, 1) := by decide +kernel
theorem dX11_thin_2 : decode cX11_thin 2 = .ok (.bipush 7, 2) := by decide +kernel
theorem dX11_thin_4 : decode cX11_thin 4 = .ok (.invokestatic 98, 3) := by decide +kernel
theorem dX11_thin_7 : decode cX11_thin 7 = .ok (.ifCond .eq 13, 3) := by decide +kernel
theorem dX11_thin_10 : decode cX11_thin 10 = .ok (.iload_n 2, 1) := by decide +kernel
theorem dX11_thin_11 : decode cX11_thin 11 = .ok (.iconst 1, 1) := by decide +kernel
theorem dX11_thin_12 : decode cX11_thin 12 = .ok (.bipush 20, 2) := by decide +kernel
theorem dX11_thin_14 : decode cX11_thin 14 = .ok (.invokestatic 98, 3) := by decide +kernel
theorem dX11_thin_17 : decode cX11_thin 17 = .ok (.ifCond .ne 6, 3) := by decide +kernel
theorem dX11_thin_20 : decode cX11_thin 20 = .ok (.bipush (-102), 2) := by decide +kernel
theorem dX11_thin_22 : decode cX11_thin 22 = .ok (.ireturn, 1) := by decide +kernel
theorem dX11_thin_23 : decode cX11_thin 23 = .ok (.iconst 0, 1) := by decide +kernel
theorem dX11_thin_24 : decode cX11_thin 24 = .ok (.istore_n 3, 1) := by decide +kernel
theorem dX11_thin_25 : decode cX11_thin 25 = .ok (.iload_n 3, 1) := by decide +kernel
theorem dX11_thin_26 : decode cX11_thin 26 = .ok (.sipush 144, 3) := by decide +kernel
theorem dX11_thin_29 : decode cX11_thin 29 = .ok (.if_icmp .ge 24, 3) := by decide +kernel
theorem dX11_thin_32 : decode cX11_thin 32 = .ok (.aload_n 0, 1) := by decide +kernel
theorem dX11_thin_33 : decode cX11_thin 33 = .ok (.getfield 12, 3) := by decide +kernel
theorem dX11_thin_36 : decode cX11_thin 36 = .ok (.iload_n 3, 1) := by decide +kernel
theorem dX11_thin_37 : decode cX11_thin 37 = .ok (.iload_n 1, 1) := by decide +kernel
theorem dX11_thin_38 : decode cX11_thin 38 = .ok (.iload_n 2, 1) := by decide +kernel
theorem dX11_thin_39 : decode cX11_thin 39 = .ok (.invokevirtual 185, 3) := by decide +kernel
theorem dX11_thin_42 : decode cX11_thin 42 = .ok (.ifCond .eq 5, 3) := by decide +kernel
theorem dX11_thin_45 : decode cX11_thin 45 = .ok (.iload_n 3, 1) := by decide +kernel
theorem dX11_thin_46 : decode cX11_thin 46 = .ok (.ireturn, 1) := by decide +kernel
theorem dX11_thin_47 : decode cX11_thin 47 = .ok (.iinc 3 1, 3) := by decide +kernel
theorem dX11_thin_50 : decode cX11_thin 50 = .ok (.goto (-25), 3) := by decide +kernel
theorem dX11_thin_53 : decode cX11_thin 53 = .ok (.iconst (-1), 1) := by decide +kernel
theorem dX11_thin_54 : decode cX11_thin 54 = .ok (.ireturn, 1) := by decide +kernel
set_option maxRecDepth 20000 in
theorem ggX11_nets_X11_isSet : GoodIn wsX11_nets wsX11_isSet := goodIn_r _ [6, 7, 8, 5, 9] (by decide +kernel) (by decide +kernel)
set_option maxRecDepth 20000 in
theorem gX11_nets_X11_isSet : GoodIn wsX11_nets (va_wsS RX11 188 yX11_isSet wsX11_isSet) := goodIn_app (goodIn_of _ (by decide +kernel)) ggX11_nets_X11_isSet
set_option maxRecDepth 20000 in
theorem ggX11_nets_X11_kindsOf : GoodIn wsX11_nets wsX11_kindsOf := goodIn_r _ [12] (by decide +kernel) (by decide +kernel)
set_option maxRecDepth 20000 in
theorem gX11_nets_X11_kindsOf : GoodIn wsX11_nets (va_wsS RX11 191 yX11_kindsOf wsX11_kindsOf) := goodIn_app (goodIn_of _ (by decide +kernel)) ggX11_nets_X11_kindsOf
set_option maxRecDepth 20000 in
theorem ggX11_nets_X2_markNets : GoodIn wsX11_nets wsX2_markNets := goodIn_r _ [17, 18, 19, 20, 21, 22, 23, 24, 5, 25, 26, 27, 28, 16, 29, 30, 31, 32, 33, 34, 35, 36, 51, 52, 53] (by decide +kernel) (by decide +kernel)
set_option maxRecDepth 20000 in
theorem gX11_nets_X2_markNets : GoodIn wsX11_nets (wsV RX11 194 RX2 yX2_markNets wsX2_markNets) := goodIn_app (goodIn_of _ (by decide +kernel)) ggX11_nets_X2_markNets
theorem dX11_nets_0 : decode cX11_nets 0 = .ok (.iload_n 1, 1) := by decide +kernel
theorem dX11_nets_1 : decode cX11_nets 1 = .ok (.invokestatic 188, 3) := by decide +kernel
theorem dX11_nets_4 : decode cX11_nets 4 = .ok (.ifCond .eq 24, 3) := by decide +kernel
theorem dX11_nets_7 : decode cX11_nets 7 = .ok (.aload_n 0, 1) := by decide +kernel
theorem dX11_nets_8 : decode cX11_nets 8 = .ok (.getfield 19, 3) := by decide +kernel
theorem dX11_nets_11 : decode cX11_nets 11 = .ok (.aload_n 0, 1) := by decide +kernel
theorem dX11_nets_12 : decode cX11_nets 12 = .ok (.getfield 12, 3) := by decide +kernel
theorem dX11_nets_15 : decode cX11_nets 15 = .ok (.getfield 132, 3) := by decide +kernel
theorem dX11_nets_18 : decode cX11_nets 18 = .ok (.iload_n 1, 1) := by decide +kernel
theorem dX11_nets_19 : decode cX11_nets 19 = .ok (.invokestatic 191, 3) := by decide +kernel
theorem dX11_nets_22 : decode cX11_nets 22 = .ok (.invokevirtual 194, 3) := by decide +kernel
theorem dX11_nets_25 : decode cX11_nets 25 = .ok (.goto 5, 3) := by decide +kernel
theorem dX11_nets_28 : decode cX11_nets 28 = .ok (.bipush (-102), 2) := by decide +kernel
theorem dX11_nets_30 : decode cX11_nets 30 = .ok (.ireturn, 1) := by decide +kernel
set_option maxRecDepth 20000 in
theorem ggX11_netOf_X11_isPlace : GoodIn wsX11_netOf wsX11_isPlace := goodIn_r _ [6, 7, 8, 5, 9] (by decide +kernel) (by decide +kernel)
set_option maxRecDepth 20000 in
theorem gX11_netOf_X11_isPlace : GoodIn wsX11_netOf (va_wsS RX11 110 yX11_isPlace wsX11_isPlace) := goodIn_app (goodIn_of _ (by decide +kernel)) ggX11_netOf_X11_isPlace
set_option maxRecDepth 20000 in
theorem ggX11_netOf_X11_isHeight : GoodIn wsX11_netOf wsX11_isHeight := goodIn_r _ [12, 7, 8, 5, 9] (by decide +kernel) (by decide +kernel)
set_option maxRecDepth 20000 in
theorem gX11_netOf_X11_isHeight : GoodIn wsX11_netOf (va_wsS RX11 159 yX11_isHeight wsX11_isHeight) := goodIn_app (goodIn_of _ (by decide +kernel)) ggX11_netOf_X11_isHeight
set_option maxRecDepth 20000 in
theorem ggX11_netOf_X11_isSet : GoodIn wsX11_netOf wsX11_isSet := goodIn_r _ [15, 7, 8, 5, 9] (by decide +kernel) (by decide +kernel)
set_option maxRecDepth 20000 in
theorem gX11_netOf_X11_isSet : GoodIn wsX11_netOf (va_wsS RX11 188 yX11_isSet wsX11_isSet) := goodIn_app (goodIn_of _ (by decide +kernel)) ggX11_netOf_X11_isSet
set_option maxRecDepth 20000 in
theorem ggX11_netOf_X11_kindsOf : GoodIn wsX11_netOf wsX11_kindsOf := goodIn_r _ [18] (by decide +kernel) (by decide +kernel)
set_option maxRecDepth 20000 in
theorem gX11_netOf_X11_kindsOf : GoodIn wsX11_netOf (va_wsS RX11 191 yX11_kindsOf wsX11_kindsOf) := goodIn_app (goodIn_of _ (by decide +kernel)) ggX11_netOf_X11_kindsOf
set_option maxRecDepth 20000 in
theorem ggX11_netOf_X2_markNets : GoodIn wsX11_netOf wsX2_markNets := goodIn_r _ [23, 24, 25, 26, 27, 28, 29, 30, 5, 31, 32, 33, 34, 22, 35, 36, 37, 38, 39, 40, 41, 42, 61, 62, 63] (by decide +kernel) (by decide +kernel)
set_option maxRecDepth 20000 in
theorem gX11_netOf_X2_markNets : GoodIn wsX11_netOf (wsV RX11 194 RX2 yX2_markNets wsX2_markNets) := goodIn_app (goodIn_of _ (by decide +kernel)) ggX11_netOf_X2_markNets
set_option maxRecDepth 20000 in
theorem ggX11_netOf_X2_netAt : GoodIn wsX11_netOf wsX2_netAt := goodIn_r _ [46, 24, 61, 62, 63] (by decide +kernel) (by decide +kernel)
set_option maxRecDepth 20000 in
theorem gX11_netOf_X2_netAt : GoodIn wsX11_netOf (wsV RX11 198 RX2 yX2_netAt wsX2_netAt) := goodIn_app (goodIn_of _ (by decide +kernel)) ggX11_netOf_X2_netAt
theorem dX11_netOf_0 : decode cX11_netOf 0 = .ok (.iload_n 1, 1) := by decide +kernel
theorem dX11_netOf_1 : decode cX11_netOf 1 = .ok (.invokestatic 110, 3) := by decide +kernel
theorem dX11_netOf_4 : decode cX11_netOf 4 = .ok (.ifCond .eq 10, 3) := by decide +kernel
theorem dX11_netOf_7 : decode cX11_netOf 7 = .ok (.iload_n 2, 1) := by decide +kernel
theorem dX11_netOf_8 : decode cX11_netOf 8 = .ok (.invokestatic 159, 3) := by decide +kernel
theorem dX11_netOf_11 : decode cX11_netOf 11 = .ok (.ifCond .ne 6, 3) := by decide +kernel
theorem dX11_netOf_14 : decode cX11_netOf 14 = .ok (.bipush (-101), 2) := by decide +kernel
theorem dX11_netOf_16 : decode cX11_netOf 16 = .ok (.ireturn, 1) := by decide +kernel
theorem dX11_netOf_17 : decode cX11_netOf 17 = .ok (.iload_n 3, 1) := by decide +kernel
theorem dX11_netOf_18 : decode cX11_netOf 18 = .ok (.invokestatic 188, 3) := by decide +kernel
theorem dX11_netOf_21 : decode cX11_netOf 21 = .ok (.ifCond .ne 6, 3) := by decide +kernel
theorem dX11_netOf_24 : decode cX11_netOf 24 = .ok (.bipush (-102), 2) := by decide +kernel
theorem dX11_netOf_26 : decode cX11_netOf 26 = .ok (.ireturn, 1) := by decide +kernel
theorem dX11_netOf_27 : decode cX11_netOf 27 = .ok (.aload_n 0, 1) := by decide +kernel
theorem dX11_netOf_28 : decode cX11_netOf 28 = .ok (.getfield 19, 3) := by decide +kernel
theorem dX11_netOf_31 : decode cX11_netOf 31 = .ok (.aload_n 0, 1) := by decide +kernel
theorem dX11_netOf_32 : decode cX11_netOf 32 = .ok (.getfield 12, 3) := by decide +kernel
theorem dX11_netOf_35 : decode cX11_netOf 35 = .ok (.getfield 132, 3) := by decide +kernel
theorem dX11_netOf_38 : decode cX11_netOf 38 = .ok (.iload_n 3, 1) := by decide +kernel
theorem dX11_netOf_39 : decode cX11_netOf 39 = .ok (.invokestatic 191, 3) := by decide +kernel
theorem dX11_netOf_42 : decode cX11_netOf 42 = .ok (.invokevirtual 194, 3) := by decide +kernel
theorem dX11_netOf_45 : decode cX11_netOf 45 = .ok (.pop, 1) := by decide +kernel
theorem dX11_netOf_46 : decode cX11_netOf 46 = .ok (.aload_n 0, 1) := by decide +kernel
theorem dX11_netOf_47 : decode cX11_netOf 47 = .ok (.getfield 19, 3) := by decide +kernel
theorem dX11_netOf_50 : decode cX11_netOf 50 = .ok (.iload_n 2, 1) := by decide +kernel
theorem dX11_netOf_51 : decode cX11_netOf 51 = .ok (.sipush 144, 3) := by decide +kernel
theorem dX11_netOf_54 : decode cX11_netOf 54 = .ok (.imul, 1) := by decide +kernel
theorem dX11_netOf_55 : decode cX11_netOf 55 = .ok (.iload_n 1, 1) := by decide +kernel
theorem dX11_netOf_56 : decode cX11_netOf 56 = .ok (.iadd, 1) := by decide +kernel
theorem dX11_netOf_57 : decode cX11_netOf 57 = .ok (.invokevirtual 198, 3) := by decide +kernel
theorem dX11_netOf_60 : decode cX11_netOf 60 = .ok (.ireturn, 1) := by decide +kernel
set_option maxRecDepth 20000 in
theorem ggX11_net_X11_isSet : GoodIn wsX11_net wsX11_isSet := goodIn_r _ [6, 7, 8, 5, 9] (by decide +kernel) (by decide +kernel)
set_option maxRecDepth 20000 in
theorem gX11_net_X11_isSet : GoodIn wsX11_net (va_wsS RX11 188 yX11_isSet wsX11_isSet) := goodIn_app (goodIn_of _ (by decide +kernel)) ggX11_net_X11_isSet
set_option maxRecDepth 20000 in
theorem ggX11_net_X11_kindsOf : GoodIn wsX11_net wsX11_kindsOf := goodIn_r _ [12] (by decide +kernel) (by decide +kernel)
set_option maxRecDepth 20000 in
theorem gX11_net_X11_kindsOf : GoodIn wsX11_net (va_wsS RX11 191 yX11_kindsOf wsX11_kindsOf) := goodIn_app (goodIn_of _ (by decide +kernel)) ggX11_net_X11_kindsOf
set_option maxRecDepth 20000 in
theorem ggX11_net_X2_markNets : GoodIn wsX11_net wsX2_markNets := goodIn_r _ [17, 18, 19, 20, 21, 22, 23, 24, 5, 25, 26, 27, 28, 16, 29, 30, 31, 32, 33, 34, 35, 36, 71, 72, 73] (by decide +kernel) (by decide +kernel)
set_option maxRecDepth 20000 in
theorem gX11_net_X2_markNets : GoodIn wsX11_net (wsV RX11 194 RX2 yX2_markNets wsX2_markNets) := goodIn_app (goodIn_of _ (by decide +kernel)) ggX11_net_X2_markNets
set_option maxRecDepth 20000 in
theorem ggX11_net_X11_within : GoodIn wsX11_net wsX11_within := goodIn_r _ [9] (by decide +kernel) (by decide +kernel)
set_option maxRecDepth 20000 in
theorem gX11_net_X11_within : GoodIn wsX11_net (va_wsS RX11 98 yX11_within wsX11_within) := goodIn_app (goodIn_of _ (by decide +kernel)) ggX11_net_X11_within
set_option maxRecDepth 20000 in
theorem ggX11_net_X2_leastOfNet : GoodIn wsX11_net wsX2_leastOfNet := goodIn_r _ [40, 18, 71, 72, 73] (by decide +kernel) (by decide +kernel)
set_option maxRecDepth 20000 in
theorem gX11_net_X2_leastOfNet : GoodIn wsX11_net (wsV RX11 201 RX2 yX2_leastOfNet wsX2_leastOfNet) := goodIn_app (goodIn_of _ (by decide +kernel)) ggX11_net_X2_leastOfNet
set_option maxRecDepth 20000 in
theorem ggX11_net_X2_sizeOfNet : GoodIn wsX11_net wsX2_sizeOfNet := goodIn_r _ [44, 18, 71, 72, 73] (by decide +kernel) (by decide +kernel)
set_option maxRecDepth 20000 in
theorem gX11_net_X2_sizeOfNet : GoodIn wsX11_net (wsV RX11 204 RX2 yX2_sizeOfNet wsX2_sizeOfNet) := goodIn_app (goodIn_of _ (by decide +kernel)) ggX11_net_X2_sizeOfNet
set_option maxRecDepth 20000 in
theorem ggX11_net_X2_greatestOfNet : GoodIn wsX11_net wsX2_greatestOfNet := goodIn_r _ [48, 18, 71, 72, 73] (by decide +kernel) (by decide +kernel)
set_option maxRecDepth 20000 in
theorem gX11_net_X2_greatestOfNet : GoodIn wsX11_net (wsV RX11 207 RX2 yX2_greatestOfNet wsX2_greatestOfNet) := goodIn_app (goodIn_of _ (by decide +kernel)) ggX11_net_X2_greatestOfNet
set_option maxRecDepth 20000 in
theorem ggX11_net_X2_placesOfNet : GoodIn wsX11_net wsX2_placesOfNet := goodIn_r _ [52, 53, 54, 55, 16, 56, 18, 71, 72, 73] (by decide +kernel) (by decide +kernel)
set_option maxRecDepth 20000 in
theorem gX11_net_X2_placesOfNet : GoodIn wsX11_net (wsV RX11 210 RX2 yX2_placesOfNet wsX2_placesOfNet) := goodIn_app (goodIn_of _ (by decide +kernel)) ggX11_net_X2_placesOfNet
theorem dX11_net_0 : decode cX11_net 0 = .ok (.iload_n 2, 1) := by decide +kernel
theorem dX11_net_1 : decode cX11_net 1 = .ok (.invokestatic 188, 3) := by decide +kernel
theorem dX11_net_4 : decode cX11_net 4 = .ok (.ifCond .ne 6, 3) := by decide +kernel
theorem dX11_net_7 : decode cX11_net 7 = .ok (.bipush (-102), 2) := by decide +kernel
theorem dX11_net_9 : decode cX11_net 9 = .ok (.ireturn, 1) := by decide +kernel
theorem dX11_net_10 : decode cX11_net 10 = .ok (.iload_n 1, 1) := by decide +kernel
theorem dX11_net_11 : decode cX11_net 11 = .ok (.iconst 0, 1) := by decide +kernel
theorem dX11_net_12 : decode cX11_net 12 = .ok (.aload_n 0, 1) := by decide +kernel
theorem dX11_net_13 : decode cX11_net 13 = .ok (.getfield 19, 3) := by decide +kernel
theorem dX11_net_16 : decode cX11_net 16 = .ok (.aload_n 0, 1) := by decide +kernel
theorem dX11_net_17 : decode cX11_net 17 = .ok (.getfield 12, 3) := by decide +kernel
theorem dX11_net_20 : decode cX11_net 20 = .ok (.getfield 132, 3) := by decide +kernel
theorem dX11_net_23 : decode cX11_net 23 = .ok (.iload_n 2, 1) := by decide +kernel
theorem dX11_net_24 : decode cX11_net 24 = .ok (.invokestatic 191, 3) := by decide +kernel
theorem dX11_net_27 : decode cX11_net 27 = .ok (.invokevirtual 194, 3) := by decide +kernel
theorem dX11_net_30 : decode cX11_net 30 = .ok (.iconst 1, 1) := by decide +kernel
theorem dX11_net_31 : decode cX11_net 31 = .ok (.isub, 1) := by decide +kernel
theorem dX11_net_32 : decode cX11_net 32 = .ok (.invokestatic 98, 3) := by decide +kernel
theorem dX11_net_35 : decode cX11_net 35 = .ok (.ifCond .ne 6, 3) := by decide +kernel
theorem dX11_net_38 : decode cX11_net 38 = .ok (.bipush (-101), 2) := by decide +kernel
theorem dX11_net_40 : decode cX11_net 40 = .ok (.ireturn, 1) := by decide +kernel
theorem dX11_net_41 : decode cX11_net 41 = .ok (.iload_n 3, 1) := by decide +kernel
theorem dX11_net_42 : decode cX11_net 42 = .ok (.tableswitch 87 0 4 #[34, 43, 52, 65, 78], 34) := by decide +kernel
theorem dX11_net_76 : decode cX11_net 76 = .ok (.aload_n 0, 1) := by decide +kernel
theorem dX11_net_77 : decode cX11_net 77 = .ok (.getfield 19, 3) := by decide +kernel
theorem dX11_net_80 : decode cX11_net 80 = .ok (.iload_n 1, 1) := by decide +kernel
theorem dX11_net_81 : decode cX11_net 81 = .ok (.invokevirtual 201, 3) := by decide +kernel
theorem dX11_net_84 : decode cX11_net 84 = .ok (.ireturn, 1) := by decide +kernel
theorem dX11_net_85 : decode cX11_net 85 = .ok (.aload_n 0, 1) := by decide +kernel
theorem dX11_net_86 : decode cX11_net 86 = .ok (.getfield 19, 3) := by decide +kernel
theorem dX11_net_89 : decode cX11_net 89 = .ok (.iload_n 1, 1) := by decide +kernel
theorem dX11_net_90 : decode cX11_net 90 = .ok (.invokevirtual 204, 3) := by decide +kernel
theorem dX11_net_93 : decode cX11_net 93 = .ok (.ireturn, 1) := by decide +kernel
theorem dX11_net_94 : decode cX11_net 94 = .ok (.aload_n 0, 1) := by decide +kernel
theorem dX11_net_95 : decode cX11_net 95 = .ok (.getfield 19, 3) := by decide +kernel
theorem dX11_net_98 : decode cX11_net 98 = .ok (.iload_n 1, 1) := by decide +kernel
theorem dX11_net_99 : decode cX11_net 99 = .ok (.invokevirtual 201, 3) := by decide +kernel
theorem dX11_net_102 : decode cX11_net 102 = .ok (.sipush 144, 3) := by decide +kernel
theorem dX11_net_105 : decode cX11_net 105 = .ok (.idiv, 1) := by decide +kernel
theorem dX11_net_106 : decode cX11_net 106 = .ok (.ireturn, 1) := by decide +kernel
theorem dX11_net_107 : decode cX11_net 107 = .ok (.aload_n 0, 1) := by decide +kernel
theorem dX11_net_108 : decode cX11_net 108 = .ok (.getfield 19, 3) := by decide +kernel
theorem dX11_net_111 : decode cX11_net 111 = .ok (.iload_n 1, 1) := by decide +kernel
theorem dX11_net_112 : decode cX11_net 112 = .ok (.invokevirtual 207, 3) := by decide +kernel
theorem dX11_net_115 : decode cX11_net 115 = .ok (.sipush 144, 3) := by decide +kernel
theorem dX11_net_118 : decode cX11_net 118 = .ok (.idiv, 1) := by decide +kernel
theorem dX11_net_119 : decode cX11_net 119 = .ok (.ireturn, 1) := by decide +kernel
theorem dX11_net_120 : decode cX11_net 120 = .ok (.aload_n 0, 1) := by decide +kernel
theorem dX11_net_121 : decode cX11_net 121 = .ok (.getfield 19, 3) := by decide +kernel
theorem dX11_net_124 : decode cX11_net 124 = .ok (.iload_n 1, 1) := by decide +kernel
theorem dX11_net_125 : decode cX11_net 125 = .ok (.invokevirtual 210, 3) := by decide +kernel
theorem dX11_net_128 : decode cX11_net 128 = .ok (.ireturn, 1) := by decide +kernel
theorem dX11_net_129 : decode cX11_net 129 = .ok (.bipush (-102), 2) := by decide +kernel
theorem dX11_net_131 : decode cX11_net 131 = .ok (.ireturn, 1) := by decide +kernel
set_option maxRecDepth 20000 in
theorem ggX11_joined_X11_isPlace : GoodIn wsX11_joined wsX11_isPlace := goodIn_r _ [6, 7, 8, 5, 9] (by decide +kernel) (by decide +kernel)
set_option maxRecDepth 20000 in
theorem gX11_joined_X11_isPlace : GoodIn wsX11_joined (va_wsS RX11 110 yX11_isPlace wsX11_isPlace) := goodIn_app (goodIn_of _ (by decide +kernel)) ggX11_joined_X11_isPlace
set_option maxRecDepth 20000 in
theorem ggX11_joined_X11_isSet : GoodIn wsX11_joined wsX11_isSet := goodIn_r _ [12, 7, 8, 5, 9] (by decide +kernel) (by decide +kernel)
set_option maxRecDepth 20000 in
theorem gX11_joined_X11_isSet : GoodIn wsX11_joined (va_wsS RX11 188 yX11_isSet wsX11_isSet) := goodIn_app (goodIn_of _ (by decide +kernel)) ggX11_joined_X11_isSet
set_option maxRecDepth 20000 in
theorem ggX11_joined_X0_highest : GoodIn wsX11_joined wsX0_highest := goodIn_r _ [17, 18, 63] (by decide +kernel) (by decide +kernel)
set_option maxRecDepth 20000 in
theorem gX11_joined_X0_highest : GoodIn wsX11_joined (wsV RX11 162 RX0 yX0_highest wsX0_highest) := goodIn_app (goodIn_of _ (by decide +kernel)) ggX11_joined_X0_highest
set_option maxRecDepth 20000 in
theorem ggX11_joined_X11_kindsOf : GoodIn wsX11_joined wsX11_kindsOf := goodIn_r _ [21] (by decide +kernel) (by decide +kernel)
set_option maxRecDepth 20000 in
theorem gX11_joined_X11_kindsOf : GoodIn wsX11_joined (va_wsS RX11 191 yX11_kindsOf wsX11_kindsOf) := goodIn_app (goodIn_of _ (by decide +kernel)) ggX11_joined_X11_kindsOf
set_option maxRecDepth 20000 in
theorem ggX11_joined_X2_markNets : GoodIn wsX11_joined wsX2_markNets := goodIn_r _ [26, 27, 28, 29, 30, 31, 32, 33, 5, 34, 35, 36, 37, 25, 38, 39, 40, 41, 42, 43, 44, 45, 64, 65, 66] (by decide +kernel) (by decide +kernel)
set_option maxRecDepth 20000 in
theorem gX11_joined_X2_markNets : GoodIn wsX11_joined (wsV RX11 194 RX2 yX2_markNets wsX2_markNets) := goodIn_app (goodIn_of _ (by decide +kernel)) ggX11_joined_X2_markNets
set_option maxRecDepth 20000 in
theorem ggX11_joined_X2_netAt : GoodIn wsX11_joined wsX2_netAt := goodIn_r _ [49, 27, 64, 65, 66] (by decide +kernel) (by decide +kernel)
set_option maxRecDepth 20000 in
theorem gX11_joined_X2_netAt : GoodIn wsX11_joined (wsV RX11 198 RX2 yX2_netAt wsX2_netAt) := goodIn_app (goodIn_of _ (by decide +kernel)) ggX11_joined_X2_netAt
theorem dX11_joined_0 : decode cX11_joined 0 = .ok (.iload_n 1, 1) := by decide +kernel
theorem dX11_joined_1 : decode cX11_joined 1 = .ok (.invokestatic 110, 3) := by decide +kernel
theorem dX11_joined_4 : decode cX11_joined 4 = .ok (.ifCond .eq 10, 3) := by decide +kernel
theorem dX11_joined_7 : decode cX11_joined 7 = .ok (.iload_n 2, 1) := by decide +kernel
theorem dX11_joined_8 : decode cX11_joined 8 = .ok (.invokestatic 110, 3) := by decide +kernel
theorem dX11_joined_11 : decode cX11_joined 11 = .ok (.ifCond .ne 6, 3) := by decide +kernel
theorem dX11_joined_14 : decode cX11_joined 14 = .ok (.bipush (-101), 2) := by decide +kernel
theorem dX11_joined_16 : decode cX11_joined 16 = .ok (.ireturn, 1) := by decide +kernel
theorem dX11_joined_17 : decode cX11_joined 17 = .ok (.iload_n 3, 1) := by decide +kernel
theorem dX11_joined_18 : decode cX11_joined 18 = .ok (.invokestatic 188, 3) := by decide +kernel
theorem dX11_joined_21 : decode cX11_joined 21 = .ok (.ifCond .ne 6, 3) := by decide +kernel
theorem dX11_joined_24 : decode cX11_joined 24 = .ok (.bipush (-102), 2) := by decide +kernel
theorem dX11_joined_26 : decode cX11_joined 26 = .ok (.ireturn, 1) := by decide +kernel
theorem dX11_joined_27 : decode cX11_joined 27 = .ok (.aload_n 0, 1) := by decide +kernel
theorem dX11_joined_28 : decode cX11_joined 28 = .ok (.getfield 12, 3) := by decide +kernel
theorem dX11_joined_31 : decode cX11_joined 31 = .ok (.iload_n 1, 1) := by decide +kernel
theorem dX11_joined_32 : decode cX11_joined 32 = .ok (.invokevirtual 162, 3) := by decide +kernel
theorem dX11_joined_35 : decode cX11_joined 35 = .ok (.istore 4, 2) := by decide +kernel
theorem dX11_joined_37 : decode cX11_joined 37 = .ok (.aload_n 0, 1) := by decide +kernel
theorem dX11_joined_38 : decode cX11_joined 38 = .ok (.getfield 12, 3) := by decide +kernel
theorem dX11_joined_41 : decode cX11_joined 41 = .ok (.iload_n 2, 1) := by decide +kernel
theorem dX11_joined_42 : decode cX11_joined 42 = .ok (.invokevirtual 162, 3) := by decide +kernel
theorem dX11_joined_45 : decode cX11_joined 45 = .ok (.istore 5, 2) := by decide +kernel
theorem dX11_joined_47 : decode cX11_joined 47 = .ok (.iload 4, 2) := by decide +kernel
theorem dX11_joined_49 : decode cX11_joined 49 = .ok (.iconst (-1), 1) := by decide +kernel
theorem dX11_joined_50 : decode cX11_joined 50 = .ok (.if_icmp .eq 9, 3) := by decide +kernel
theorem dX11_joined_53 : decode cX11_joined 53 = .ok (.iload 5, 2) := by decide +kernel
theorem dX11_joined_55 : decode cX11_joined 55 = .ok (.iconst (-1), 1) := by decide +kernel
theorem dX11_joined_56 : decode cX11_joined 56 = .ok (.if_icmp .ne 5, 3) := by decide +kernel
theorem dX11_joined_59 : decode cX11_joined 59 = .ok (.iconst 0, 1) := by decide +kernel
theorem dX11_joined_60 : decode cX11_joined 60 = .ok (.ireturn, 1) := by decide +kernel
theorem dX11_joined_61 : decode cX11_joined 61 = .ok (.aload_n 0, 1) := by decide +kernel
theorem dX11_joined_62 : decode cX11_joined 62 = .ok (.getfield 19, 3) := by decide +kernel
theorem dX11_joined_65 : decode cX11_joined 65 = .ok (.aload_n 0, 1) := by decide +kernel
theorem dX11_joined_66 : decode cX11_joined 66 = .ok (.getfield 12, 3) := by decide +kernel
theorem dX11_joined_69 : decode cX11_joined 69 = .ok (.getfield 132, 3) := by decide +kernel
theorem dX11_joined_72 : decode cX11_joined 72 = .ok (.iload_n 3, 1) := by decide +kernel
theorem dX11_joined_73 : decode cX11_joined 73 = .ok (.invokestatic 191, 3) := by decide +kernel
theorem dX11_joined_76 : decode cX11_joined 76 = .ok (.invokevirtual 194, 3) := by decide +kernel
theorem dX11_joined_79 : decode cX11_joined 79 = .ok (.pop, 1) := by decide +kernel
theorem dX11_joined_80 : decode cX11_joined 80 = .ok (.aload_n 0, 1) := by decide +kernel
theorem dX11_joined_81 : decode cX11_joined 81 = .ok (.getfield 19, 3) := by decide +kernel
theorem dX11_joined_84 : decode cX11_joined 84 = .ok (.iload 4, 2) := by decide +kernel
theorem dX11_joined_86 : decode cX11_joined 86 = .ok (.sipush 144, 3) := by decide +kernel
theorem dX11_joined_89 : decode cX11_joined 89 = .ok (.imul, 1) := by decide +kernel
theorem dX11_joined_90 : decode cX11_joined 90 = .ok (.iload_n 1, 1) := by decide +kernel
theorem dX11_joined_91 : decode cX11_joined 91 = .ok (.iadd, 1) := by decide +kernel
theorem dX11_joined_92 : decode cX11_joined 92 = .ok (.invokevirtual 198, 3) := by decide +kernel
theorem dX11_joined_95 : decode cX11_joined 95 = .ok (.istore 6, 2) := by decide +kernel
theorem dX11_joined_97 : decode cX11_joined 97 = .ok (.iload 6, 2) := by decide +kernel
theorem dX11_joined_99 : decode cX11_joined 99 = .ok (.iconst (-1), 1) := by decide +kernel
theorem dX11_joined_100 : decode cX11_joined 100 = .ok (.if_icmp .eq 27, 3) := by decide +kernel
theorem dX11_joined_103 : decode cX11_joined 103 = .ok (.iload 6, 2) := by decide +kernel
theorem dX11_joined_105 : decode cX11_joined 105 = .ok (.aload_n 0, 1) := by decide +kernel
theorem dX11_joined_106 : decode cX11_joined 106 = .ok (.getfield 19, 3) := by decide +kernel
theorem dX11_joined_109 : decode cX11_joined 109 = .ok (.iload 5, 2) := by decide +kernel
theorem dX11_joined_111 : decode cX11_joined 111 = .ok (.sipush 144, 3) := by decide +kernel
theorem dX11_joined_114 : decode cX11_joined 114 = .ok (.imul, 1) := by decide +kernel
theorem dX11_joined_115 : decode cX11_joined 115 = .ok (.iload_n 2, 1) := by decide +kernel
theorem dX11_joined_116 : decode cX11_joined 116 = .ok (.iadd, 1) := by decide +kernel
theorem dX11_joined_117 : decode cX11_joined 117 = .ok (.invokevirtual 198, 3) := by decide +kernel
theorem dX11_joined_120 : decode cX11_joined 120 = .ok (.if_icmp .ne 7, 3) := by decide +kernel
theorem dX11_joined_123 : decode cX11_joined 123 = .ok (.iconst 1, 1) := by decide +kernel
theorem dX11_joined_124 : decode cX11_joined 124 = .ok (.goto 4, 3) := by decide +kernel
theorem dX11_joined_127 : decode cX11_joined 127 = .ok (.iconst 0, 1) := by decide +kernel
theorem dX11_joined_128 : decode cX11_joined 128 = .ok (.ireturn, 1) := by decide +kernel
set_option maxRecDepth 20000 in
theorem ggX11_device_X1_takeOrder : GoodIn wsX11_device wsX1_takeOrder := goodIn_r _ [6, 7, 8, 9, 10, 11, 65, 66, 67, 68, 69, 70, 71, 72, 73] (by decide +kernel) (by decide +kernel)
set_option maxRecDepth 20000 in
theorem gX11_device_X1_takeOrder : GoodIn wsX11_device (wsV RX11 213 RX1 yX1_takeOrder wsX1_takeOrder) := goodIn_app (goodIn_of _ (by decide +kernel)) ggX11_device_X1_takeOrder
set_option maxRecDepth 20000 in
theorem ggX11_device_X11_within : GoodIn wsX11_device wsX11_within := goodIn_r _ [11] (by decide +kernel) (by decide +kernel)
set_option maxRecDepth 20000 in
theorem gX11_device_X11_within : GoodIn wsX11_device (va_wsS RX11 98 yX11_within wsX11_within) := goodIn_app (goodIn_of _ (by decide +kernel)) ggX11_device_X11_within
set_option maxRecDepth 20000 in
theorem ggX11_device_X1_find : GoodIn wsX11_device wsX1_find := goodIn_r _ [16, 17, 18, 19, 20, 21, 22, 23, 24, 25, 26, 27, 28, 5, 29, 30, 31, 32, 33, 34, 35, 36, 37, 38, 39, 40, 7, 8, 41, 42, 43, 44, 45, 46, 47, 48, 49, 50, 10, 51, 65, 66, 67, 68, 69, 70, 71, 72, 73, 74] (by decide +kernel) (by decide +kernel)
set_option maxRecDepth 20000 in
theorem gX11_device_X1_find : GoodIn wsX11_device (wsV RX11 216 RX1 yX1_find wsX1_find) := goodIn_app (goodIn_of _ (by decide +kernel)) ggX11_device_X1_find
theorem dX11_device_0 : decode cX11_device 0 = .ok (.aload_n 0, 1) := by decide +kernel
theorem dX11_device_1 : decode cX11_device 1 = .ok (.getfield 83, 3) := by decide +kernel
theorem dX11_device_4 : decode cX11_device 4 = .ok (.iload_n 1, 1) := by decide +kernel
theorem dX11_device_5 : decode cX11_device 5 = .ok (.invokevirtual 213, 3) := by decide +kernel
theorem dX11_device_8 : decode cX11_device 8 = .ok (.ifCond .eq 12, 3) := by decide +kernel
theorem dX11_device_11 : decode cX11_device 11 = .ok (.iload_n 2, 1) := by decide +kernel
theorem dX11_device_12 : decode cX11_device 12 = .ok (.iconst 0, 1) := by decide +kernel
theorem dX11_device_13 : decode cX11_device 13 = .ok (.iconst 3, 1) := by decide +kernel
theorem dX11_device_14 : decode cX11_device 14 = .ok (.invokestatic 98, 3) := by decide +kernel
theorem dX11_device_17 : decode cX11_device 17 = .ok (.ifCond .ne 6, 3) := by decide +kernel
theorem dX11_device_20 : decode cX11_device 20 = .ok (.bipush (-102), 2) := by decide +kernel
theorem dX11_device_22 : decode cX11_device 22 = .ok (.ireturn, 1) := by decide +kernel
theorem dX11_device_23 : decode cX11_device 23 = .ok (.aload_n 0, 1) := by decide +kernel
theorem dX11_device_24 : decode cX11_device 24 = .ok (.getfield 83, 3) := by decide +kernel
theorem dX11_device_27 : decode cX11_device 27 = .ok (.invokevirtual 216, 3) := by decide +kernel
theorem dX11_device_30 : decode cX11_device 30 = .ok (.iload_n 2, 1) := by decide +kernel
theorem dX11_device_31 : decode cX11_device 31 = .ok (.tableswitch 49 0 2 #[25, 33, 41], 25) := by decide +kernel
theorem dX11_device_56 : decode cX11_device 56 = .ok (.aload_n 0, 1) := by decide +kernel
theorem dX11_device_57 : decode cX11_device 57 = .ok (.getfield 83, 3) := by decide +kernel
theorem dX11_device_60 : decode cX11_device 60 = .ok (.getfield 219, 3) := by decide +kernel
theorem dX11_device_63 : decode cX11_device 63 = .ok (.ireturn, 1) := by decide +kernel
theorem dX11_device_64 : decode cX11_device 64 = .ok (.aload_n 0, 1) := by decide +kernel
theorem dX11_device_65 : decode cX11_device 65 = .ok (.getfield 83, 3) := by decide +kernel
theorem dX11_device_68 : decode cX11_device 68 = .ok (.getfield 222, 3) := by decide +kernel
theorem dX11_device_71 : decode cX11_device 71 = .ok (.ireturn, 1) := by decide +kernel
theorem dX11_device_72 : decode cX11_device 72 = .ok (.aload_n 0, 1) := by decide +kernel
theorem dX11_device_73 : decode cX11_device 73 = .ok (.getfield 83, 3) := by decide +kernel
theorem dX11_device_76 : decode cX11_device 76 = .ok (.getfield 225, 3) := by decide +kernel
theorem dX11_device_79 : decode cX11_device 79 = .ok (.ireturn, 1) := by decide +kernel
theorem dX11_device_80 : decode cX11_device 80 = .ok (.aload_n 0, 1) := by decide +kernel
theorem dX11_device_81 : decode cX11_device 81 = .ok (.getfield 83, 3) := by decide +kernel
theorem dX11_device_84 : decode cX11_device 84 = .ok (.getfield 228, 3) := by decide +kernel
theorem dX11_device_87 : decode cX11_device 87 = .ok (.ireturn, 1) := by decide +kernel
set_option maxRecDepth 20000 in
theorem ggX11_section_X11_within : GoodIn wsX11_section wsX11_within := goodIn_r _ [7] (by decide +kernel) (by decide +kernel)
set_option maxRecDepth 20000 in
theorem gX11_section_X11_within : GoodIn wsX11_section (va_wsS RX11 98 yX11_within wsX11_within) := goodIn_app (goodIn_of _ (by decide +kernel)) ggX11_section_X11_within
set_option maxRecDepth 20000 in
theorem ggX11_section_X2_markOpen : GoodIn wsX11_section wsX2_markOpen := goodIn_r _ [12, 13, 14, 15, 11, 16, 17, 18, 19, 20, 21, 22, 23, 6, 24, 25, 26, 27, 28, 29, 30, 31, 32, 33, 34, 35, 63, 64, 65] (by decide +kernel) (by decide +kernel)
set_option maxRecDepth 20000 in
theorem gX11_section_X2_markOpen : GoodIn wsX11_section (wsV RX11 231 RX2 yX2_markOpen wsX2_markOpen) := goodIn_app (goodIn_of _ (by decide +kernel)) ggX11_section_X2_markOpen
set_option maxRecDepth 20000 in
theorem ggX11_section_X11_signOf : GoodIn wsX11_section wsX11_signOf := goodIn_r _ [39, 2, 1, 40, 41, 42, 11, 43, 17, 49, 50, 51, 52, 53, 54, 55, 56, 57, 58, 59, 60, 61, 62, 63, 64, 65] (by decide +kernel) (by decide +kernel)
set_option maxRecDepth 20000 in
theorem gX11_section_X11_signOf : GoodIn wsX11_section (wsV RX11 234 RX11 yX11_signOf wsX11_signOf) := goodIn_app (goodIn_of _ (by decide +kernel)) ggX11_section_X11_signOf
set_option maxRecDepth 20000 in
theorem ggX11_section_X11_print : GoodIn wsX11_section wsX11_print := goodIn_r _ [47, 3, 48, 49, 50, 51, 52, 53, 54, 55, 56, 57, 58, 59, 60, 61] (by decide +kernel) (by decide +kernel)
set_option maxRecDepth 20000 in
theorem gX11_section_X11_print : GoodIn wsX11_section (wsV RX11 237 RX11 yX11_print wsX11_print) := goodIn_app (goodIn_of _ (by decide +kernel)) ggX11_section_X11_print
theorem dX11_section_0 : decode cX11_section 0 = .ok (.iload_n 1, 1) := by decide +kernel
theorem dX11_section_1 : decode cX11_section 1 = .ok (.iconst 0, 1) := by decide +kernel
theorem dX11_section_2 : decode cX11_section 2 = .ok (.iconst 1, 1) := by decide +kernel
theorem dX11_section_3 : decode cX11_section 3 = .ok (.invokestatic 98, 3) := by decide +kernel
theorem dX11_section_6 : decode cX11_section 6 = .ok (.ifCond .eq 13, 3) := by decide +kernel
theorem dX11_section_9 : decode cX11_section 9 = .ok (.iload_n 2, 1) := by decide +kernel
theorem dX11_section_10 : decode cX11_section 10 = .ok (.iconst 0, 1) := by decide +kernel
theorem dX11_section_11 : decode cX11_section 11 = .ok (.bipush 11, 2) := by decide +kernel
theorem dX11_section_13 : decode cX11_section 13 = .ok (.invokestatic 98, 3) := by decide +kernel
theorem dX11_section_16 : decode cX11_section 16 = .ok (.ifCond .ne 6, 3) := by decide +kernel
theorem dX11_section_19 : decode cX11_section 19 = .ok (.bipush (-102), 2) := by decide +kernel
theorem dX11_section_21 : decode cX11_section 21 = .ok (.ireturn, 1) := by decide +kernel
theorem dX11_section_22 : decode cX11_section 22 = .ok (.aload_n 0, 1) := by decide +kernel
theorem dX11_section_23 : decode cX11_section 23 = .ok (.getfield 19, 3) := by decide +kernel
theorem dX11_section_26 : decode cX11_section 26 = .ok (.aload_n 0, 1) := by decide +kernel
theorem dX11_section_27 : decode cX11_section 27 = .ok (.getfield 12, 3) := by decide +kernel
theorem dX11_section_30 : decode cX11_section 30 = .ok (.getfield 132, 3) := by decide +kernel
theorem dX11_section_33 : decode cX11_section 33 = .ok (.invokevirtual 231, 3) := by decide +kernel
theorem dX11_section_36 : decode cX11_section 36 = .ok (.aload_n 0, 1) := by decide +kernel
theorem dX11_section_37 : decode cX11_section 37 = .ok (.iconst 0, 1) := by decide +kernel
theorem dX11_section_38 : decode cX11_section 38 = .ok (.putfield 91, 3) := by decide +kernel
theorem dX11_section_41 : decode cX11_section 41 = .ok (.bipush 19, 2) := by decide +kernel
theorem dX11_section_43 : decode cX11_section 43 = .ok (.istore_n 3, 1) := by decide +kernel
theorem dX11_section_44 : decode cX11_section 44 = .ok (.iload_n 3, 1) := by decide +kernel
theorem dX11_section_45 : decode cX11_section 45 = .ok (.ifCond .lt 70, 3) := by decide +kernel
theorem dX11_section_48 : decode cX11_section 48 = .ok (.iconst 0, 1) := by decide +kernel
theorem dX11_section_49 : decode cX11_section 49 = .ok (.istore 4, 2) := by decide +kernel
theorem dX11_section_51 : decode cX11_section 51 = .ok (.iload 4, 2) := by decide +kernel
theorem dX11_section_53 : decode cX11_section 53 = .ok (.bipush 12, 2) := by decide +kernel
theorem dX11_section_55 : decode cX11_section 55 = .ok (.if_icmp .ge 48, 3) := by decide +kernel
theorem dX11_section_58 : decode cX11_section 58 = .ok (.iload_n 1, 1) := by decide +kernel
theorem dX11_section_59 : decode cX11_section 59 = .ok (.ifCond .ne 13, 3) := by decide +kernel
theorem dX11_section_62 : decode cX11_section 62 = .ok (.bipush 12, 2) := by decide +kernel
theorem dX11_section_64 : decode cX11_section 64 = .ok (.iload_n 2, 1) := by decide +kernel
theorem dX11_section_65 : decode cX11_section 65 = .ok (.imul, 1) := by decide +kernel
theorem dX11_section_66 : decode cX11_section 66 = .ok (.iload 4, 2) := by decide +kernel
theorem dX11_section_68 : decode cX11_section 68 = .ok (.iadd, 1) := by decide +kernel
theorem dX11_section_69 : decode cX11_section 69 = .ok (.goto 10, 3) := by decide +kernel
theorem dX11_section_72 : decode cX11_section 72 = .ok (.bipush 12, 2) := by decide +kernel
theorem dX11_section_74 : decode cX11_section 74 = .ok (.iload 4, 2) := by decide +kernel
theorem dX11_section_76 : decode cX11_section 76 = .ok (.imul, 1) := by decide +kernel
theorem dX11_section_77 : decode cX11_section 77 = .ok (.iload_n 2, 1) := by decide +kernel
theorem dX11_section_78 : decode cX11_section 78 = .ok (.iadd, 1) := by decide +kernel
theorem dX11_section_79 : decode cX11_section 79 = .ok (.istore 5, 2) := by decide +kernel
theorem dX11_section_81 : decode cX11_section 81 = .ok (.aload_n 0, 1) := by decide +kernel
theorem dX11_section_82 : decode cX11_section 82 = .ok (.aload_n 0, 1) := by decide +kernel
theorem dX11_section_83 : decode cX11_section 83 = .ok (.iload_n 3, 1) := by decide +kernel
theorem dX11_section_84 : decode cX11_section 84 = .ok (.sipush 144, 3) := by decide +kernel
theorem dX11_section_87 : decode cX11_section 87 = .ok (.imul, 1) := by decide +kernel
theorem dX11_section_88 : decode cX11_section 88 = .ok (.iload 5, 2) := by decide +kernel
theorem dX11_section_90 : decode cX11_section 90 = .ok (.iadd, 1) := by decide +kernel
theorem dX11_section_91 : decode cX11_section 91 = .ok (.invokevirtual 234, 3) := by decide +kernel
theorem dX11_section_94 : decode cX11_section 94 = .ok (.invokevirtual 237, 3) := by decide +kernel
theorem dX11_section_97 : decode cX11_section 97 = .ok (.iinc 4 1, 3) := by decide +kernel
theorem dX11_section_100 : decode cX11_section 100 = .ok (.goto (-49), 3) := by decide +kernel
theorem dX11_section_103 : decode cX11_section 103 = .ok (.aload_n 0, 1) := by decide +kernel
theorem dX11_section_104 : decode cX11_section 104 = .ok (.bipush 10, 2) := by decide +kernel
theorem dX11_section_106 : decode cX11_section 106 = .ok (.invokevirtual 237, 3) := by decide +kernel
theorem dX11_section_109 : decode cX11_section 109 = .ok (.iinc 3 (-1), 3) := by decide +kernel
theorem dX11_section_112 : decode cX11_section 112 = .ok (.goto (-68), 3) := by decide +kernel
theorem dX11_section_115 : decode cX11_section 115 = .ok (.aload_n 0, 1) := by decide +kernel
theorem dX11_section_116 : decode cX11_section 116 = .ok (.getfield 91, 3) := by decide +kernel
theorem dX11_section_119 : decode cX11_section 119 = .ok (.ireturn, 1) := by decide +kernel
set_option maxRecDepth 20000 in
theorem ggX11_out_X11_within : GoodIn wsX11_out wsX11_within := goodIn_r _ [6] (by decide +kernel) (by decide +kernel)
set_option maxRecDepth 20000 in
theorem gX11_out_X11_within : GoodIn wsX11_out (va_wsS RX11 98 yX11_within wsX11_within) := goodIn_app (goodIn_of _ (by decide +kernel)) ggX11_out_X11_within
theorem dX11_out_0 : decode cX11_out 0 = .ok (.iload_n 1, 1) := by decide +kernel
theorem dX11_out_1 : decode cX11_out 1 = .ok (.iconst 0, 1) := by decide +kernel
theorem dX11_out_2 : decode cX11_out 2 = .ok (.aload_n 0, 1) := by decide +kernel
theorem dX11_out_3 : decode cX11_out 3 = .ok (.getfield 91, 3) := by decide +kernel
theorem dX11_out_6 : decode cX11_out 6 = .ok (.iconst 1, 1) := by decide +kernel
theorem dX11_out_7 : decode cX11_out 7 = .ok (.isub, 1) := by decide +kernel
theorem dX11_out_8 : decode cX11_out 8 = .ok (.invokestatic 98, 3) := by decide +kernel
theorem dX11_out_11 : decode cX11_out 11 = .ok (.ifCond .eq 12, 3) := by decide +kernel
theorem dX11_out_14 : decode cX11_out 14 = .ok (.aload_n 0, 1) := by decide +kernel
theorem dX11_out_15 : decode cX11_out 15 = .ok (.getfield 87, 3) := by decide +kernel
theorem dX11_out_18 : decode cX11_out 18 = .ok (.iload_n 1, 1) := by decide +kernel
theorem dX11_out_19 : decode cX11_out 19 = .ok (.iaload, 1) := by decide +kernel
theorem dX11_out_20 : decode cX11_out 20 = .ok (.goto 4, 3) := by decide +kernel
theorem dX11_out_23 : decode cX11_out 23 = .ok (.iconst (-1), 1) := by decide +kernel
theorem dX11_out_24 : decode cX11_out 24 = .ok (.ireturn, 1) := by decide +kernel
theorem dX11_digest_0 : decode cX11_digest 0 = .ok (.bipush 7, 2) := by decide +kernel
theorem dX11_digest_2 : decode cX11_digest 2 = .ok (.istore_n 1, 1) := by decide +kernel
theorem dX11_digest_3 : decode cX11_digest 3 = .ok (.iconst 0, 1) := by decide +kernel
theorem dX11_digest_4 : decode cX11_digest 4 = .ok (.istore_n 2, 1) := by decide +kernel
theorem dX11_digest_5 : decode cX11_digest 5 = .ok (.iload_n 2, 1) := by decide +kernel
theorem dX11_digest_6 : decode cX11_digest 6 = .ok (.sipush 2880, 3) := by decide +kernel
theorem dX11_digest_9 : decode cX11_digest 9 = .ok (.if_icmp .ge 24, 3) := by decide +kernel
theorem dX11_digest_12 : decode cX11_digest 12 = .ok (.bipush 31, 2) := by decide +kernel
theorem dX11_digest_14 : decode cX11_digest 14 = .ok (.iload_n 1, 1) := by decide +kernel
theorem dX11_digest_15 : decode cX11_digest 15 = .ok (.imul, 1) := by decide +kernel
theorem dX11_digest_16 : decode cX11_digest 16 = .ok (.aload_n 0, 1) := by decide +kernel
theorem dX11_digest_17 : decode cX11_digest 17 = .ok (.getfield 12, 3) := by decide +kernel
theorem dX11_digest_20 : decode cX11_digest 20 = .ok (.getfield 132, 3) := by decide +kernel
theorem dX11_digest_23 : decode cX11_digest 23 = .ok (.iload_n 2, 1) := by decide +kernel
theorem dX11_digest_24 : decode cX11_digest 24 = .ok (.iaload, 1) := by decide +kernel
theorem dX11_digest_25 : decode cX11_digest 25 = .ok (.iadd, 1) := by decide +kernel
theorem dX11_digest_26 : decode cX11_digest 26 = .ok (.istore_n 1, 1) := by decide +kernel
theorem dX11_digest_27 : decode cX11_digest 27 = .ok (.iinc 2 1, 3) := by decide +kernel
theorem dX11_digest_30 : decode cX11_digest 30 = .ok (.goto (-25), 3) := by decide +kernel
theorem dX11_digest_33 : decode cX11_digest 33 = .ok (.iload_n 1, 1) := by decide +kernel
theorem dX11_digest_34 : decode cX11_digest 34 = .ok (.ireturn, 1) := by decide +kernel
theorem dX11_print_0 : decode cX11_print 0 = .ok (.aload_n 0, 1) := by decide +kernel
theorem dX11_print_1 : decode cX11_print 1 = .ok (.getfield 91, 3) := by decide +kernel
theorem dX11_print_4 : decode cX11_print 4 = .ok (.sipush 260, 3) := by decide +kernel
theorem dX11_print_7 : decode cX11_print 7 = .ok (.if_icmp .ge 23, 3) := by decide +kernel
theorem dX11_print_10 : decode cX11_print 10 = .ok (.aload_n 0, 1) := by decide +kernel
theorem dX11_print_11 : decode cX11_print 11 = .ok (.getfield 87, 3) := by decide +kernel
theorem dX11_print_14 : decode cX11_print 14 = .ok (.aload_n 0, 1) := by decide +kernel
theorem dX11_print_15 : decode cX11_print 15 = .ok (.getfield 91, 3) := by decide +kernel
theorem dX11_print_18 : decode cX11_print 18 = .ok (.iload_n 1, 1) := by decide +kernel
theorem dX11_print_19 : decode cX11_print 19 = .ok (.iastore, 1) := by decide +kernel
theorem dX11_print_20 : decode cX11_print 20 = .ok (.aload_n 0, 1) := by decide +kernel
theorem dX11_print_21 : decode cX11_print 21 = .ok (.dup, 1) := by decide +kernel
theorem dX11_print_22 : decode cX11_print 22 = .ok (.getfield 91, 3) := by decide +kernel
theorem dX11_print_25 : decode cX11_print 25 = .ok (.iconst 1, 1) := by decide +kernel
theorem dX11_print_26 : decode cX11_print 26 = .ok (.iadd, 1) := by decide +kernel
theorem dX11_print_27 : decode cX11_print 27 = .ok (.putfield 91, 3) := by decide +kernel
theorem dX11_print_30 : decode cX11_print 30 = .ok (.return_, 1) := by decide +kernel
set_option maxRecDepth 20000 in
theorem ggX11_signOf_X2_isMarked : GoodIn wsX11_signOf wsX2_isMarked := goodIn_r _ [7, 8, 23, 24, 25] (by decide +kernel) (by decide +kernel)
set_option maxRecDepth 20000 in
theorem gX11_signOf_X2_isMarked : GoodIn wsX11_signOf (wsV RX11 240 RX2 yX2_isMarked wsX2_isMarked) := goodIn_app (goodIn_of _ (by decide +kernel)) ggX11_signOf_X2_isMarked
theorem dX11_signOf_0 : decode cX11_signOf 0 = .ok (.aload_n 0, 1) := by decide +kernel
theorem dX11_signOf_1 : decode cX11_signOf 1 = .ok (.getfield 12, 3) := by decide +kernel
theorem dX11_signOf_4 : decode cX11_signOf 4 = .ok (.getfield 132, 3) := by decide +kernel
theorem dX11_signOf_7 : decode cX11_signOf 7 = .ok (.iload_n 1, 1) := by decide +kernel
theorem dX11_signOf_8 : decode cX11_signOf 8 = .ok (.iaload, 1) := by decide +kernel
theorem dX11_signOf_9 : decode cX11_signOf 9 = .ok (.istore_n 2, 1) := by decide +kernel
theorem dX11_signOf_10 : decode cX11_signOf 10 = .ok (.iload_n 2, 1) := by decide +kernel
theorem dX11_signOf_11 : decode cX11_signOf 11 = .ok (.ifCond .eq 10, 3) := by decide +kernel
theorem dX11_signOf_14 : decode cX11_signOf 14 = .ok (.bipush 97, 2) := by decide +kernel
theorem dX11_signOf_16 : decode cX11_signOf 16 = .ok (.iload_n 2, 1) := by decide +kernel
theorem dX11_signOf_17 : decode cX11_signOf 17 = .ok (.iadd, 1) := by decide +kernel
theorem dX11_signOf_18 : decode cX11_signOf 18 = .ok (.iconst 1, 1) := by decide +kernel
theorem dX11_signOf_19 : decode cX11_signOf 19 = .ok (.isub, 1) := by decide +kernel
theorem dX11_signOf_20 : decode cX11_signOf 20 = .ok (.ireturn, 1) := by decide +kernel
theorem dX11_signOf_21 : decode cX11_signOf 21 = .ok (.aload_n 0, 1) := by decide +kernel
theorem dX11_signOf_22 : decode cX11_signOf 22 = .ok (.getfield 19, 3) := by decide +kernel
theorem dX11_signOf_25 : decode cX11_signOf 25 = .ok (.iload_n 1, 1) := by decide +kernel
theorem dX11_signOf_26 : decode cX11_signOf 26 = .ok (.invokevirtual 240, 3) := by decide +kernel
theorem dX11_signOf_29 : decode cX11_signOf 29 = .ok (.ifCond .eq 8, 3) := by decide +kernel
theorem dX11_signOf_32 : decode cX11_signOf 32 = .ok (.bipush 46, 2) := by decide +kernel
theorem dX11_signOf_34 : decode cX11_signOf 34 = .ok (.goto 5, 3) := by decide +kernel
theorem dX11_signOf_37 : decode cX11_signOf 37 = .ok (.bipush 45, 2) := by decide +kernel
theorem dX11_signOf_39 : decode cX11_signOf 39 = .ok (.ireturn, 1) := by decide +kernel
theorem dX11_within_0 : decode cX11_within 0 = .ok (.iload_n 0, 1) := by decide +kernel
theorem dX11_within_1 : decode cX11_within 1 = .ok (.iload_n 1, 1) := by decide +kernel
theorem dX11_within_2 : decode cX11_within 2 = .ok (.if_icmp .lt 12, 3) := by decide +kernel
theorem dX11_within_5 : decode cX11_within 5 = .ok (.iload_n 0, 1) := by decide +kernel
theorem dX11_within_6 : decode cX11_within 6 = .ok (.iload_n 2, 1) := by decide +kernel
theorem dX11_within_7 : decode cX11_within 7 = .ok (.if_icmp .gt 7, 3) := by decide +kernel
theorem dX11_within_10 : decode cX11_within 10 = .ok (.iconst 1, 1) := by decide +kernel
theorem dX11_within_11 : decode cX11_within 11 = .ok (.goto 4, 3) := by decide +kernel
theorem dX11_within_14 : decode cX11_within 14 = .ok (.iconst 0, 1) := by decide +kernel
theorem dX11_within_15 : decode cX11_within 15 = .ok (.ireturn, 1) := by decide +kernel
set_option maxRecDepth 20000 in
theorem ggX11_isPlace_X11_within : GoodIn wsX11_isPlace wsX11_within := goodIn_r _ [4] (by decide +kernel) (by decide +kernel)
set_option maxRecDepth 20000 in
theorem gX11_isPlace_X11_within : GoodIn wsX11_isPlace (va_wsS RX11 98 yX11_within wsX11_within) := goodIn_app (goodIn_of _ (by decide +kernel)) ggX11_isPlace_X11_within
theorem dX11_isPlace_0 : decode cX11_isPlace 0 = .ok (.iload_n 0, 1) := by decide +kernel
theorem dX11_isPlace_1 : decode cX11_isPlace 1 = .ok (.iconst 0, 1) := by decide +kernel
theorem dX11_isPlace_2 : decode cX11_isPlace 2 = .ok (.sipush 143, 3) := by decide +kernel
theorem dX11_isPlace_5 : decode cX11_isPlace 5 = .ok (.invokestatic 98, 3) := by decide +kernel
theorem dX11_isPlace_8 : decode cX11_isPlace 8 = .ok (.ireturn, 1) := by decide +kernel
set_option maxRecDepth 20000 in
theorem ggX11_isHeight_X11_within : GoodIn wsX11_isHeight wsX11_within := goodIn_r _ [4] (by decide +kernel) (by decide +kernel)
set_option maxRecDepth 20000 in
theorem gX11_isHeight_X11_within : GoodIn wsX11_isHeight (va_wsS RX11 98 yX11_within wsX11_within) := goodIn_app (goodIn_of _ (by decide +kernel)) ggX11_isHeight_X11_within
theorem dX11_isHeight_0 : decode cX11_isHeight 0 = .ok (.iload_n 0, 1) := by decide +kernel
theorem dX11_isHeight_1 : decode cX11_isHeight 1 = .ok (.iconst 0, 1) := by decide +kernel
theorem dX11_isHeight_2 : decode cX11_isHeight 2 = .ok (.bipush 19, 2) := by decide +kernel
theorem dX11_isHeight_4 : decode cX11_isHeight 4 = .ok (.invokestatic 98, 3) := by decide +kernel
theorem dX11_isHeight_7 : decode cX11_isHeight 7 = .ok (.ireturn, 1) := by decide +kernel
set_option maxRecDepth 20000 in
theorem ggX11_isSet_X11_within : GoodIn wsX11_isSet wsX11_within := goodIn_r _ [4] (by decide +kernel) (by decide +kernel)
set_option maxRecDepth 20000 in
theorem gX11_isSet_X11_within : GoodIn wsX11_isSet (va_wsS RX11 98 yX11_within wsX11_within) := goodIn_app (goodIn_of _ (by decide +kernel)) ggX11_isSet_X11_within
theorem dX11_isSet_0 : decode cX11_isSet 0 = .ok (.iload_n 0, 1) := by decide +kernel
theorem dX11_isSet_1 : decode cX11_isSet 1 = .ok (.iconst 0, 1) := by decide +kernel
theorem dX11_isSet_2 : decode cX11_isSet 2 = .ok (.bipush 127, 2) := by decide +kernel
theorem dX11_isSet_4 : decode cX11_isSet 4 = .ok (.invokestatic 98, 3) := by decide +kernel
theorem dX11_isSet_7 : decode cX11_isSet 7 = .ok (.ireturn, 1) := by decide +kernel
theorem dX11_kindsOf_0 : decode cX11_kindsOf 0 = .ok (.iload_n 0, 1) := by decide +kernel
theorem dX11_kindsOf_1 : decode cX11_kindsOf 1 = .ok (.iconst 1, 1) := by decide +kernel
theorem dX11_kindsOf_2 : decode cX11_kindsOf 2 = .ok (.ishl, 1) := by decide +kernel
theorem dX11_kindsOf_3 : decode cX11_kindsOf 3 = .ok (.ireturn, 1) := by decide +kernel
theorem dX11_hasKind_0 : decode cX11_hasKind 0 = .ok (.iload_n 0, 1) := by decide +kernel
theorem dX11_hasKind_1 : decode cX11_hasKind 1 = .ok (.iload_n 1, 1) := by decide +kernel
theorem dX11_hasKind_2 : decode cX11_hasKind 2 = .ok (.ishr, 1) := by decide +kernel
theorem dX11_hasKind_3 : decode cX11_hasKind 3 = .ok (.iconst 1, 1) := by decide +kernel
theorem dX11_hasKind_4 : decode cX11_hasKind 4 = .ok (.iand, 1) := by decide +kernel
theorem dX11_hasKind_5 : decode cX11_hasKind 5 = .ok (.ifCond .eq 7, 3) := by decide +kernel
theorem dX11_hasKind_8 : decode cX11_hasKind 8 = .ok (.iconst 1, 1) := by decide +kernel
theorem dX11_hasKind_9 : decode cX11_hasKind 9 = .ok (.goto 4, 3) := by decide +kernel
theorem dX11_hasKind_12 : decode cX11_hasKind 12 = .ok (.iconst 0, 1) := by decide +kernel
theorem dX11_hasKind_13 : decode cX11_hasKind 13 = .ok (.ireturn, 1) := by decide +kernel
theorem dX11_beside_0 : decode cX11_beside 0 = .ok (.iload_n 1, 1) := by decide +kernel
theorem dX11_beside_1 : decode cX11_beside 1 = .ok (.tableswitch 123 0 4 #[35, 50, 67, 86, 106], 35) := by decide +kernel
theorem dX11_beside_36 : decode cX11_beside 36 = .ok (.iload_n 0, 1) := by decide +kernel
theorem dX11_beside_37 : decode cX11_beside 37 = .ok (.bipush 12, 2) := by decide +kernel
theorem dX11_beside_39 : decode cX11_beside 39 = .ok (.irem, 1) := by decide +kernel
theorem dX11_beside_40 : decode cX11_beside 40 = .ok (.ifCond .le 9, 3) := by decide +kernel
theorem dX11_beside_43 : decode cX11_beside 43 = .ok (.iload_n 0, 1) := by decide +kernel
theorem dX11_beside_44 : decode cX11_beside 44 = .ok (.iconst 1, 1) := by decide +kernel
theorem dX11_beside_45 : decode cX11_beside 45 = .ok (.isub, 1) := by decide +kernel
theorem dX11_beside_46 : decode cX11_beside 46 = .ok (.goto 4, 3) := by decide +kernel
theorem dX11_beside_49 : decode cX11_beside 49 = .ok (.iconst (-1), 1) := by decide +kernel
theorem dX11_beside_50 : decode cX11_beside 50 = .ok (.ireturn, 1) := by decide +kernel
theorem dX11_beside_51 : decode cX11_beside 51 = .ok (.iload_n 0, 1) := by decide +kernel
theorem dX11_beside_52 : decode cX11_beside 52 = .ok (.bipush 12, 2) := by decide +kernel
theorem dX11_beside_54 : decode cX11_beside 54 = .ok (.irem, 1) := by decide +kernel
theorem dX11_beside_55 : decode cX11_beside 55 = .ok (.bipush 11, 2) := by decide +kernel
theorem dX11_beside_57 : decode cX11_beside 57 = .ok (.if_icmp .ge 9, 3) := by decide +kernel
theorem dX11_beside_60 : decode cX11_beside 60 = .ok (.iload_n 0, 1) := by decide +kernel
theorem dX11_beside_61 : decode cX11_beside 61 = .ok (.iconst 1, 1) := by decide +kernel
theorem dX11_beside_62 : decode cX11_beside 62 = .ok (.iadd, 1) := by decide +kernel
theorem dX11_beside_63 : decode cX11_beside 63 = .ok (.goto 4, 3) := by decide +kernel
theorem dX11_beside_66 : decode cX11_beside 66 = .ok (.iconst (-1), 1) := by decide +kernel
theorem dX11_beside_67 : decode cX11_beside 67 = .ok (.ireturn, 1) := by decide +kernel
theorem dX11_beside_68 : decode cX11_beside 68 = .ok (.iload_n 0, 1) := by decide +kernel
theorem dX11_beside_69 : decode cX11_beside 69 = .ok (.sipush 144, 3) := by decide +kernel
theorem dX11_beside_72 : decode cX11_beside 72 = .ok (.irem, 1) := by decide +kernel
theorem dX11_beside_73 : decode cX11_beside 73 = .ok (.bipush 12, 2) := by decide +kernel
theorem dX11_beside_75 : decode cX11_beside 75 = .ok (.if_icmp .lt 10, 3) := by decide +kernel
theorem dX11_beside_78 : decode cX11_beside 78 = .ok (.iload_n 0, 1) := by decide +kernel
theorem dX11_beside_79 : decode cX11_beside 79 = .ok (.bipush 12, 2) := by decide +kernel
theorem dX11_beside_81 : decode cX11_beside 81 = .ok (.isub, 1) := by decide +kernel
theorem dX11_beside_82 : decode cX11_beside 82 = .ok (.goto 4, 3) := by decide +kernel
theorem dX11_beside_85 : decode cX11_beside 85 = .ok (.iconst (-1), 1) := by decide +kernel
theorem dX11_beside_86 : decode cX11_beside 86 = .ok (.ireturn, 1) := by decide +kernel
theorem dX11_beside_87 : decode cX11_beside 87 = .ok (.iload_n 0, 1) := by decide +kernel
theorem dX11_beside_88 : decode cX11_beside 88 = .ok (.sipush 144, 3) := by decide +kernel
theorem dX11_beside_91 : decode cX11_beside 91 = .ok (.irem, 1) := by decide +kernel
theorem dX11_beside_92 : decode cX11_beside 92 = .ok (.sipush 132, 3) := by decide +kernel
theorem dX11_beside_95 : decode cX11_beside 95 = .ok (.if_icmp .ge 10, 3) := by decide +kernel
theorem dX11_beside_98 : decode cX11_beside 98 = .ok (.iload_n 0, 1) := by decide +kernel
theorem dX11_beside_99 : decode cX11_beside 99 = .ok (.bipush 12, 2) := by decide +kernel
theorem dX11_beside_101 : decode cX11_beside 101 = .ok (.iadd, 1) := by decide +kernel
theorem dX11_beside_102 : decode cX11_beside 102 = .ok (.goto 4, 3) := by decide +kernel
theorem dX11_beside_105 : decode cX11_beside 105 = .ok (.iconst (-1), 1) := by decide +kernel
theorem dX11_beside_106 : decode cX11_beside 106 = .ok (.ireturn, 1) := by decide +kernel
theorem dX11_beside_107 : decode cX11_beside 107 = .ok (.iload_n 0, 1) := by decide +kernel
theorem dX11_beside_108 : decode cX11_beside 108 = .ok (.sipush 144, 3) := by decide +kernel
theorem dX11_beside_111 : decode cX11_beside 111 = .ok (.if_icmp .lt 11, 3) := by decide +kernel
theorem dX11_beside_114 : decode cX11_beside 114 = .ok (.iload_n 0, 1) := by decide +kernel
theorem dX11_beside_115 : decode cX11_beside 115 = .ok (.sipush 144, 3) := by decide +kernel
theorem dX11_beside_118 : decode cX11_beside 118 = .ok (.isub, 1) := by decide +kernel
theorem dX11_beside_119 : decode cX11_beside 119 = .ok (.goto 4, 3) := by decide +kernel
theorem dX11_beside_122 : decode cX11_beside 122 = .ok (.iconst (-1), 1) := by decide +kernel
theorem dX11_beside_123 : decode cX11_beside 123 = .ok (.ireturn, 1) := by decide +kernel
theorem dX11_beside_124 : decode cX11_beside 124 = .ok (.iload_n 0, 1) := by decide +kernel
theorem dX11_beside_125 : decode cX11_beside 125 = .ok (.sipush 2736, 3) := by decide +kernel
theorem dX11_beside_128 : decode cX11_beside 128 = .ok (.if_icmp .ge 11, 3) := by decide +kernel
theorem dX11_beside_131 : decode cX11_beside 131 = .ok (.iload_n 0, 1) := by decide +kernel
theorem dX11_beside_132 : decode cX11_beside 132 = .ok (.sipush 144, 3) := by decide +kernel
theorem dX11_beside_135 : decode cX11_beside 135 = .ok (.iadd, 1) := by decide +kernel
theorem dX11_beside_136 : decode cX11_beside 136 = .ok (.goto 4, 3) := by decide +kernel
theorem dX11_beside_139 : decode cX11_beside 139 = .ok (.iconst (-1), 1) := by decide +kernel
theorem dX11_beside_140 : decode cX11_beside 140 = .ok (.ireturn, 1) := by decide +kernel
theorem dX11_nameOf_0 : decode cX11_nameOf 0 = .ok (.iload_n 0, 1) := by decide +kernel
theorem dX11_nameOf_1 : decode cX11_nameOf 1 = .ok (.tableswitch 112 0 12 #[67, 70, 73, 76, 79, 82, 85, 88, 92, 96, 100, 104, 108], 67) := by decide +kernel
theorem dX11_nameOf_68 : decode cX11_nameOf 68 = .ok (.ldc 243, 2) := by decide +kernel
theorem dX11_nameOf_70 : decode cX11_nameOf 70 = .ok (.areturn, 1) := by decide +kernel
theorem dX11_nameOf_71 : decode cX11_nameOf 71 = .ok (.ldc 245, 2) := by decide +kernel
theorem dX11_nameOf_73 : decode cX11_nameOf 73 = .ok (.areturn, 1) := by decide +kernel
theorem dX11_nameOf_74 : decode cX11_nameOf 74 = .ok (.ldc 247, 2) := by decide +kernel
theorem dX11_nameOf_76 : decode cX11_nameOf 76 = .ok (.areturn, 1) := by decide +kernel
