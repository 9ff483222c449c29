theorem dX11_nameOf_77 : decode cX11_nameOf 77 = .ok (.ldc 249, 2) := by decide +kernel
theorem dX11_nameOf_79 : decode cX11_nameOf 79 = .ok (.areturn, 1) := by decide +kernel
theorem dX11_nameOf_80 : decode cX11_nameOf 80 = .ok (.ldc 251, 2) := by decide +kernel
theorem dX11_nameOf_82 : decode cX11_nameOf 82 = .ok (.areturn, 1) := by decide +kernel
theorem dX11_nameOf_83 : decode cX11_nameOf 83 = .ok (.ldc 253, 2) := by decide +kernel
theorem dX11_nameOf_85 : decode cX11_nameOf 85 = .ok (.areturn, 1) := by decide +kernel
theorem dX11_nameOf_86 : decode cX11_nameOf 86 = .ok (.ldc 255, 2) := by decide +kernel
theorem dX11_nameOf_88 : decode cX11_nameOf 88 = .ok (.areturn, 1) := by decide +kernel
theorem dX11_nameOf_89 : decode cX11_nameOf 89 = .ok (.ldc_w 257, 3) := by decide +kernel
theorem dX11_nameOf_92 : decode cX11_nameOf 92 = .ok (.areturn, 1) := by decide +kernel
theorem dX11_nameOf_93 : decode cX11_nameOf 93 = .ok (.ldc_w 259, 3) := by decide +kernel
theorem dX11_nameOf_96 : decode cX11_nameOf 96 = .ok (.areturn, 1) := by decide +kernel
theorem dX11_nameOf_97 : decode cX11_nameOf 97 = .ok (.ldc_w 261, 3) := by decide +kernel
theorem dX11_nameOf_100 : decode cX11_nameOf 100 = .ok (.areturn, 1) := by decide +kernel
theorem dX11_nameOf_101 : decode cX11_nameOf 101 = .ok (.ldc_w 263, 3) := by decide +kernel
theorem dX11_nameOf_104 : decode cX11_nameOf 104 = .ok (.areturn, 1) := by decide +kernel
theorem dX11_nameOf_105 : decode cX11_nameOf 105 = .ok (.ldc_w 265, 3) := by decide +kernel
theorem dX11_nameOf_108 : decode cX11_nameOf 108 = .ok (.areturn, 1) := by decide +kernel
theorem dX11_nameOf_109 : decode cX11_nameOf 109 = .ok (.ldc_w 267, 3) := by decide +kernel
theorem dX11_nameOf_112 : decode cX11_nameOf 112 = .ok (.areturn, 1) := by decide +kernel
theorem dX11_nameOf_113 : decode cX11_nameOf 113 = .ok (.ldc_w 269, 3) := by decide +kernel
theorem dX11_nameOf_116 : decode cX11_nameOf 116 = .ok (.areturn, 1) := by decide +kernel
theorem dX11_formOf_0 : decode cX11_formOf 0 = .ok (.iload_n 0, 1) := by decide +kernel
theorem dX11_formOf_1 : decode cX11_formOf 1 = .ok (.tableswitch 107 0 13 #[71, 75, 79, 71, 75, 83, 87, 91, 107, 95, 107, 99, 107, 103], 71) := by decide +kernel
theorem dX11_formOf_72 : decode cX11_formOf 72 = .ok (.ldc_w 271, 3) := by decide +kernel
theorem dX11_formOf_75 : decode cX11_formOf 75 = .ok (.areturn, 1) := by decide +kernel
theorem dX11_formOf_76 : decode cX11_formOf 76 = .ok (.ldc_w 273, 3) := by decide +kernel
theorem dX11_formOf_79 : decode cX11_formOf 79 = .ok (.areturn, 1) := by decide +kernel
theorem dX11_formOf_80 : decode cX11_formOf 80 = .ok (.ldc_w 275, 3) := by decide +kernel
theorem dX11_formOf_83 : decode cX11_formOf 83 = .ok (.areturn, 1) := by decide +kernel
theorem dX11_formOf_84 : decode cX11_formOf 84 = .ok (.ldc_w 277, 3) := by decide +kernel
theorem dX11_formOf_87 : decode cX11_formOf 87 = .ok (.areturn, 1) := by decide +kernel
theorem dX11_formOf_88 : decode cX11_formOf 88 = .ok (.ldc_w 279, 3) := by decide +kernel
theorem dX11_formOf_91 : decode cX11_formOf 91 = .ok (.areturn, 1) := by decide +kernel
theorem dX11_formOf_92 : decode cX11_formOf 92 = .ok (.ldc_w 281, 3) := by decide +kernel
theorem dX11_formOf_95 : decode cX11_formOf 95 = .ok (.areturn, 1) := by decide +kernel
theorem dX11_formOf_96 : decode cX11_formOf 96 = .ok (.ldc_w 283, 3) := by decide +kernel
theorem dX11_formOf_99 : decode cX11_formOf 99 = .ok (.areturn, 1) := by decide +kernel
theorem dX11_formOf_100 : decode cX11_formOf 100 = .ok (.ldc_w 285, 3) := by decide +kernel
theorem dX11_formOf_103 : decode cX11_formOf 103 = .ok (.areturn, 1) := by decide +kernel
theorem dX11_formOf_104 : decode cX11_formOf 104 = .ok (.ldc_w 287, 3) := by decide +kernel
theorem dX11_formOf_107 : decode cX11_formOf 107 = .ok (.areturn, 1) := by decide +kernel
theorem dX11_formOf_108 : decode cX11_formOf 108 = .ok (.ldc_w 289, 3) := by decide +kernel
theorem dX11_formOf_111 : decode cX11_formOf 111 = .ok (.areturn, 1) := by decide +kernel
theorem dX12_init_0 : decode cX12_init 0 = .ok (.aload_n 0, 1) := by decide +kernel
theorem dX12_init_1 : decode cX12_init 1 = .ok (.invokespecial 1, 3) := by decide +kernel
theorem dX12_init_4 : decode cX12_init 4 = .ok (.aload_n 0, 1) := by decide +kernel
theorem dX12_init_5 : decode cX12_init 5 = .ok (.sipush 2880, 3) := by decide +kernel
theorem dX12_init_8 : decode cX12_init 8 = .ok (.newarray .int, 2) := by decide +kernel
theorem dX12_init_10 : decode cX12_init 10 = .ok (.putfield 7, 3) := by decide +kernel
theorem dX12_init_13 : decode cX12_init 13 = .ok (.aload_n 0, 1) := by decide +kernel
theorem dX12_init_14 : decode cX12_init 14 = .ok (.sipush 1152, 3) := by decide +kernel
theorem dX12_init_17 : decode cX12_init 17 = .ok (.newarray .boolean, 2) := by decide +kernel
theorem dX12_init_19 : decode cX12_init 19 = .ok (.putfield 13, 3) := by decide +kernel
theorem dX12_init_22 : decode cX12_init 22 = .ok (.aload_n 0, 1) := by decide +kernel
theorem dX12_init_23 : decode cX12_init 23 = .ok (.sipush 600, 3) := by decide +kernel
theorem dX12_init_26 : decode cX12_init 26 = .ok (.newarray .byte, 2) := by decide +kernel
theorem dX12_init_28 : decode cX12_init 28 = .ok (.putfield 17, 3) := by decide +kernel
theorem dX12_init_31 : decode cX12_init 31 = .ok (.aload_n 0, 1) := by decide +kernel
theorem dX12_init_32 : decode cX12_init 32 = .ok (.sipush 140, 3) := by decide +kernel
theorem dX12_init_35 : decode cX12_init 35 = .ok (.newarray .int, 2) := by decide +kernel
theorem dX12_init_37 : decode cX12_init 37 = .ok (.putfield 21, 3) := by decide +kernel
theorem dX12_init_40 : decode cX12_init 40 = .ok (.aload_n 0, 1) := by decide +kernel
theorem dX12_init_41 : decode cX12_init 41 = .ok (.sipush 140, 3) := by decide +kernel
theorem dX12_init_44 : decode cX12_init 44 = .ok (.newarray .int, 2) := by decide +kernel
theorem dX12_init_46 : decode cX12_init 46 = .ok (.putfield 24, 3) := by decide +kernel
theorem dX12_init_49 : decode cX12_init 49 = .ok (.aload_n 0, 1) := by decide +kernel
theorem dX12_init_50 : decode cX12_init 50 = .ok (.sipush 140, 3) := by decide +kernel
theorem dX12_init_53 : decode cX12_init 53 = .ok (.newarray .int, 2) := by decide +kernel
theorem dX12_init_55 : decode cX12_init 55 = .ok (.putfield 27, 3) := by decide +kernel
theorem dX12_init_58 : decode cX12_init 58 = .ok (.aload_n 0, 1) := by decide +kernel
theorem dX12_init_59 : decode cX12_init 59 = .ok (.sipush 140, 3) := by decide +kernel
theorem dX12_init_62 : decode cX12_init 62 = .ok (.newarray .int, 2) := by decide +kernel
theorem dX12_init_64 : decode cX12_init 64 = .ok (.putfield 30, 3) := by decide +kernel
theorem dX12_init_67 : decode cX12_init 67 = .ok (.aload_n 0, 1) := by decide +kernel
theorem dX12_init_68 : decode cX12_init 68 = .ok (.sipush 140, 3) := by decide +kernel
theorem dX12_init_71 : decode cX12_init 71 = .ok (.newarray .int, 2) := by decide +kernel
theorem dX12_init_73 : decode cX12_init 73 = .ok (.putfield 33, 3) := by decide +kernel
theorem dX12_init_76 : decode cX12_init 76 = .ok (.aload_n 0, 1) := by decide +kernel
theorem dX12_init_77 : decode cX12_init 77 = .ok (.sipush 140, 3) := by decide +kernel
theorem dX12_init_80 : decode cX12_init 80 = .ok (.newarray .int, 2) := by decide +kernel
theorem dX12_init_82 : decode cX12_init 82 = .ok (.putfield 36, 3) := by decide +kernel
theorem dX12_init_85 : decode cX12_init 85 = .ok (.aload_n 0, 1) := by decide +kernel
theorem dX12_init_86 : decode cX12_init 86 = .ok (.sipush 140, 3) := by decide +kernel
theorem dX12_init_89 : decode cX12_init 89 = .ok (.newarray .int, 2) := by decide +kernel
theorem dX12_init_91 : decode cX12_init 91 = .ok (.putfield 39, 3) := by decide +kernel
theorem dX12_init_94 : decode cX12_init 94 = .ok (.aload_n 0, 1) := by decide +kernel
theorem dX12_init_95 : decode cX12_init 95 = .ok (.bipush 10, 2) := by decide +kernel
theorem dX12_init_97 : decode cX12_init 97 = .ok (.newarray .int, 2) := by decide +kernel
theorem dX12_init_99 : decode cX12_init 99 = .ok (.putfield 42, 3) := by decide +kernel
theorem dX12_init_102 : decode cX12_init 102 = .ok (.aload_n 0, 1) := by decide +kernel
theorem dX12_init_103 : decode cX12_init 103 = .ok (.sipush 2880, 3) := by decide +kernel
theorem dX12_init_106 : decode cX12_init 106 = .ok (.newarray .boolean, 2) := by decide +kernel
theorem dX12_init_108 : decode cX12_init 108 = .ok (.putfield 45, 3) := by decide +kernel
theorem dX12_init_111 : decode cX12_init 111 = .ok (.aload_n 0, 1) := by decide +kernel
theorem dX12_init_112 : decode cX12_init 112 = .ok (.sipush 2880, 3) := by decide +kernel
theorem dX12_init_115 : decode cX12_init 115 = .ok (.newarray .int, 2) := by decide +kernel
theorem dX12_init_117 : decode cX12_init 117 = .ok (.putfield 48, 3) := by decide +kernel
theorem dX12_init_120 : decode cX12_init 120 = .ok (.aload_n 0, 1) := by decide +kernel
theorem dX12_init_121 : decode cX12_init 121 = .ok (.sipush 2880, 3) := by decide +kernel
theorem dX12_init_124 : decode cX12_init 124 = .ok (.newarray .boolean, 2) := by decide +kernel
theorem dX12_init_126 : decode cX12_init 126 = .ok (.putfield 51, 3) := by decide +kernel
theorem dX12_init_129 : decode cX12_init 129 = .ok (.aload_n 0, 1) := by decide +kernel
theorem dX12_init_130 : decode cX12_init 130 = .ok (.sipush 2880, 3) := by decide +kernel
theorem dX12_init_133 : decode cX12_init 133 = .ok (.newarray .boolean, 2) := by decide +kernel
theorem dX12_init_135 : decode cX12_init 135 = .ok (.putfield 54, 3) := by decide +kernel
theorem dX12_init_138 : decode cX12_init 138 = .ok (.aload_n 0, 1) := by decide +kernel
theorem dX12_init_139 : decode cX12_init 139 = .ok (.sipush 2880, 3) := by decide +kernel
theorem dX12_init_142 : decode cX12_init 142 = .ok (.newarray .int, 2) := by decide +kernel
theorem dX12_init_144 : decode cX12_init 144 = .ok (.putfield 57, 3) := by decide +kernel
theorem dX12_init_147 : decode cX12_init 147 = .ok (.aload_n 0, 1) := by decide +kernel
theorem dX12_init_148 : decode cX12_init 148 = .ok (.sipush 17280, 3) := by decide +kernel
theorem dX12_init_151 : decode cX12_init 151 = .ok (.newarray .int, 2) := by decide +kernel
theorem dX12_init_153 : decode cX12_init 153 = .ok (.putfield 60, 3) := by decide +kernel
theorem dX12_init_156 : decode cX12_init 156 = .ok (.aload_n 0, 1) := by decide +kernel
theorem dX12_init_157 : decode cX12_init 157 = .ok (.iconst (-1), 1) := by decide +kernel
theorem dX12_init_158 : decode cX12_init 158 = .ok (.putfield 63, 3) := by decide +kernel
theorem dX12_init_161 : decode cX12_init 161 = .ok (.aload_n 0, 1) := by decide +kernel
theorem dX12_init_162 : decode cX12_init 162 = .ok (.sipush 140, 3) := by decide +kernel
theorem dX12_init_165 : decode cX12_init 165 = .ok (.newarray .int, 2) := by decide +kernel
theorem dX12_init_167 : decode cX12_init 167 = .ok (.putfield 67, 3) := by decide +kernel
theorem dX12_init_170 : decode cX12_init 170 = .ok (.aload_n 0, 1) := by decide +kernel
theorem dX12_init_171 : decode cX12_init 171 = .ok (.sipush 2880, 3) := by decide +kernel
theorem dX12_init_174 : decode cX12_init 174 = .ok (.newarray .int, 2) := by decide +kernel
theorem dX12_init_176 : decode cX12_init 176 = .ok (.putfield 70, 3) := by decide +kernel
theorem dX12_init_179 : decode cX12_init 179 = .ok (.aload_n 0, 1) := by decide +kernel
theorem dX12_init_180 : decode cX12_init 180 = .ok (.iconst 4, 1) := by decide +kernel
theorem dX12_init_181 : decode cX12_init 181 = .ok (.newarray .int, 2) := by decide +kernel
theorem dX12_init_183 : decode cX12_init 183 = .ok (.putfield 73, 3) := by decide +kernel
theorem dX12_init_186 : decode cX12_init 186 = .ok (.aload_n 0, 1) := by decide +kernel
theorem dX12_init_187 : decode cX12_init 187 = .ok (.sipush 144, 3) := by decide +kernel
theorem dX12_init_190 : decode cX12_init 190 = .ok (.newarray .boolean, 2) := by decide +kernel
theorem dX12_init_192 : decode cX12_init 192 = .ok (.putfield 76, 3) := by decide +kernel
theorem dX12_init_195 : decode cX12_init 195 = .ok (.aload_n 0, 1) := by decide +kernel
theorem dX12_init_196 : decode cX12_init 196 = .ok (.sipush 260, 3) := by decide +kernel
theorem dX12_init_199 : decode cX12_init 199 = .ok (.newarray .byte, 2) := by decide +kernel
theorem dX12_init_201 : decode cX12_init 201 = .ok (.putfield 79, 3) := by decide +kernel
theorem dX12_init_204 : decode cX12_init 204 = .ok (.iconst 0, 1) := by decide +kernel
theorem dX12_init_205 : decode cX12_init 205 = .ok (.istore_n 1, 1) := by decide +kernel
theorem dX12_init_206 : decode cX12_init 206 = .ok (.iload_n 1, 1) := by decide +kernel
theorem dX12_init_207 : decode cX12_init 207 = .ok (.sipush 144, 3) := by decide +kernel
theorem dX12_init_210 : decode cX12_init 210 = .ok (.if_icmp .ge 16, 3) := by decide +kernel
theorem dX12_init_213 : decode cX12_init 213 = .ok (.aload_n 0, 1) := by decide +kernel
theorem dX12_init_214 : decode cX12_init 214 = .ok (.getfield 7, 3) := by decide +kernel
theorem dX12_init_217 : decode cX12_init 217 = .ok (.iload_n 1, 1) := by decide +kernel
theorem dX12_init_218 : decode cX12_init 218 = .ok (.iconst 1, 1) := by decide +kernel
theorem dX12_init_219 : decode cX12_init 219 = .ok (.iastore, 1) := by decide +kernel
theorem dX12_init_220 : decode cX12_init 220 = .ok (.iinc 1 1, 3) := by decide +kernel
theorem dX12_init_223 : decode cX12_init 223 = .ok (.goto (-17), 3) := by decide +kernel
theorem dX12_init_226 : decode cX12_init 226 = .ok (.return_, 1) := by decide +kernel
theorem dX12_in_0 : decode cX12_in 0 = .ok (.lload_n 0, 1) := by decide +kernel
theorem dX12_in_1 : decode cX12_in 1 = .ok (.lload_n 2, 1) := by decide +kernel
theorem dX12_in_2 : decode cX12_in 2 = .ok (.lcmp, 1) := by decide +kernel
theorem dX12_in_3 : decode cX12_in 3 = .ok (.ifCond .lt 14, 3) := by decide +kernel
theorem dX12_in_6 : decode cX12_in 6 = .ok (.lload_n 0, 1) := by decide +kernel
theorem dX12_in_7 : decode cX12_in 7 = .ok (.lload 4, 2) := by decide +kernel
theorem dX12_in_9 : decode cX12_in 9 = .ok (.lcmp, 1) := by decide +kernel
theorem dX12_in_10 : decode cX12_in 10 = .ok (.ifCond .gt 7, 3) := by decide +kernel
theorem dX12_in_13 : decode cX12_in 13 = .ok (.iconst 1, 1) := by decide +kernel
theorem dX12_in_14 : decode cX12_in 14 = .ok (.goto 4, 3) := by decide +kernel
theorem dX12_in_17 : decode cX12_in 17 = .ok (.iconst 0, 1) := by decide +kernel
theorem dX12_in_18 : decode cX12_in 18 = .ok (.ireturn, 1) := by decide +kernel
theorem dX12_many_0 : decode cX12_many 0 = .ok (.iconst 0, 1) := by decide +kernel
theorem dX12_many_1 : decode cX12_many 1 = .ok (.istore_n 2, 1) := by decide +kernel
theorem dX12_many_2 : decode cX12_many 2 = .ok (.iconst 0, 1) := by decide +kernel
theorem dX12_many_3 : decode cX12_many 3 = .ok (.istore_n 3, 1) := by decide +kernel
theorem dX12_many_4 : decode cX12_many 4 = .ok (.iload_n 3, 1) := by decide +kernel
theorem dX12_many_5 : decode cX12_many 5 = .ok (.sipush 144, 3) := by decide +kernel
theorem dX12_many_8 : decode cX12_many 8 = .ok (.if_icmp .ge 32, 3) := by decide +kernel
theorem dX12_many_11 : decode cX12_many 11 = .ok (.iload_n 2, 1) := by decide +kernel
theorem dX12_many_12 : decode cX12_many 12 = .ok (.aload_n 0, 1) := by decide +kernel
theorem dX12_many_13 : decode cX12_many 13 = .ok (.getfield 13, 3) := by decide +kernel
theorem dX12_many_16 : decode cX12_many 16 = .ok (.sipush 144, 3) := by decide +kernel
theorem dX12_many_19 : decode cX12_many 19 = .ok (.iload_n 1, 1) := by decide +kernel
theorem dX12_many_20 : decode cX12_many 20 = .ok (.imul, 1) := by decide +kernel
theorem dX12_many_21 : decode cX12_many 21 = .ok (.iload_n 3, 1) := by decide +kernel
theorem dX12_many_22 : decode cX12_many 22 = .ok (.iadd, 1) := by decide +kernel
theorem dX12_many_23 : decode cX12_many 23 = .ok (.baload, 1) := by decide +kernel
theorem dX12_many_24 : decode cX12_many 24 = .ok (.ifCond .eq 7, 3) := by decide +kernel
theorem dX12_many_27 : decode cX12_many 27 = .ok (.iconst 1, 1) := by decide +kernel
theorem dX12_many_28 : decode cX12_many 28 = .ok (.goto 4, 3) := by decide +kernel
theorem dX12_many_31 : decode cX12_many 31 = .ok (.iconst 0, 1) := by decide +kernel
theorem dX12_many_32 : decode cX12_many 32 = .ok (.iadd, 1) := by decide +kernel
theorem dX12_many_33 : decode cX12_many 33 = .ok (.istore_n 2, 1) := by decide +kernel
theorem dX12_many_34 : decode cX12_many 34 = .ok (.iinc 3 1, 3) := by decide +kernel
theorem dX12_many_37 : decode cX12_many 37 = .ok (.goto (-33), 3) := by decide +kernel
theorem dX12_many_40 : decode cX12_many 40 = .ok (.iload_n 2, 1) := by decide +kernel
theorem dX12_many_41 : decode cX12_many 41 = .ok (.ireturn, 1) := by decide +kernel
set_option maxRecDepth 20000 in
theorem ggX12_rect_X12_in : GoodIn wsX12_rect wsX12_in := goodIn_r _ [7] (by decide +kernel) (by decide +kernel)
set_option maxRecDepth 20000 in
theorem gX12_rect_X12_in : GoodIn wsX12_rect (va_wsS RX12 84 yX12_in wsX12_in) := goodIn_app (goodIn_of _ (by decide +kernel)) ggX12_rect_X12_in
set_option maxRecDepth 20000 in
theorem ggX12_rect_X12_many : GoodIn wsX12_rect wsX12_many := goodIn_r _ [11, 3, 12, 13, 14, 15, 16, 17, 18, 19, 20, 21, 22, 23, 24, 25, 26, 27, 28, 29, 30, 31, 32, 33, 34, 35, 36, 37, 38, 39, 40, 41, 42, 43, 44, 45, 46, 47, 48, 49, 50, 51] (by decide +kernel) (by decide +kernel)
set_option maxRecDepth 20000 in
theorem gX12_rect_X12_many : GoodIn wsX12_rect (wsV RX12 90 RX12 yX12_many wsX12_many) := goodIn_app (goodIn_of _ (by decide +kernel)) ggX12_rect_X12_many
theorem dX12_rect_0 : decode cX12_rect 0 = .ok (.iload_n 1, 1) := by decide +kernel
theorem dX12_rect_1 : decode cX12_rect 1 = .ok (.i2l, 1) := by decide +kernel
theorem dX12_rect_2 : decode cX12_rect 2 = .ok (.lconst 0, 1) := by decide +kernel
theorem dX12_rect_3 : decode cX12_rect 3 = .ok (.ldc2_w 82, 3) := by decide +kernel
theorem dX12_rect_6 : decode cX12_rect 6 = .ok (.invokestatic 84, 3) := by decide +kernel
theorem dX12_rect_9 : decode cX12_rect 9 = .ok (.ifCond .ne 6, 3) := by decide +kernel
theorem dX12_rect_12 : decode cX12_rect 12 = .ok (.bipush (-101), 2) := by decide +kernel
theorem dX12_rect_14 : decode cX12_rect 14 = .ok (.ireturn, 1) := by decide +kernel
theorem dX12_rect_15 : decode cX12_rect 15 = .ok (.iload_n 2, 1) := by decide +kernel
theorem dX12_rect_16 : decode cX12_rect 16 = .ok (.i2l, 1) := by decide +kernel
theorem dX12_rect_17 : decode cX12_rect 17 = .ok (.lconst 0, 1) := by decide +kernel
theorem dX12_rect_18 : decode cX12_rect 18 = .ok (.ldc2_w 88, 3) := by decide +kernel
theorem dX12_rect_21 : decode cX12_rect 21 = .ok (.invokestatic 84, 3) := by decide +kernel
theorem dX12_rect_24 : decode cX12_rect 24 = .ok (.ifCond .eq 43, 3) := by decide +kernel
theorem dX12_rect_27 : decode cX12_rect 27 = .ok (.iload_n 3, 1) := by decide +kernel
theorem dX12_rect_28 : decode cX12_rect 28 = .ok (.i2l, 1) := by decide +kernel
theorem dX12_rect_29 : decode cX12_rect 29 = .ok (.lconst 0, 1) := by decide +kernel
theorem dX12_rect_30 : decode cX12_rect 30 = .ok (.ldc2_w 88, 3) := by decide +kernel
theorem dX12_rect_33 : decode cX12_rect 33 = .ok (.invokestatic 84, 3) := by decide +kernel
theorem dX12_rect_36 : decode cX12_rect 36 = .ok (.ifCond .eq 31, 3) := by decide +kernel
theorem dX12_rect_39 : decode cX12_rect 39 = .ok (.iload 4, 2) := by decide +kernel
theorem dX12_rect_41 : decode cX12_rect 41 = .ok (.i2l, 1) := by decide +kernel
theorem dX12_rect_42 : decode cX12_rect 42 = .ok (.iload_n 2, 1) := by decide +kernel
theorem dX12_rect_43 : decode cX12_rect 43 = .ok (.i2l, 1) := by decide +kernel
theorem dX12_rect_44 : decode cX12_rect 44 = .ok (.ldc2_w 88, 3) := by decide +kernel
theorem dX12_rect_47 : decode cX12_rect 47 = .ok (.invokestatic 84, 3) := by decide +kernel
theorem dX12_rect_50 : decode cX12_rect 50 = .ok (.ifCond .eq 17, 3) := by decide +kernel
theorem dX12_rect_53 : decode cX12_rect 53 = .ok (.iload 5, 2) := by decide +kernel
theorem dX12_rect_55 : decode cX12_rect 55 = .ok (.i2l, 1) := by decide +kernel
theorem dX12_rect_56 : decode cX12_rect 56 = .ok (.iload_n 3, 1) := by decide +kernel
theorem dX12_rect_57 : decode cX12_rect 57 = .ok (.i2l, 1) := by decide +kernel
theorem dX12_rect_58 : decode cX12_rect 58 = .ok (.ldc2_w 88, 3) := by decide +kernel
theorem dX12_rect_61 : decode cX12_rect 61 = .ok (.invokestatic 84, 3) := by decide +kernel
theorem dX12_rect_64 : decode cX12_rect 64 = .ok (.ifCond .ne 6, 3) := by decide +kernel
theorem dX12_rect_67 : decode cX12_rect 67 = .ok (.bipush (-102), 2) := by decide +kernel
theorem dX12_rect_69 : decode cX12_rect 69 = .ok (.ireturn, 1) := by decide +kernel
theorem dX12_rect_70 : decode cX12_rect 70 = .ok (.iload_n 3, 1) := by decide +kernel
theorem dX12_rect_71 : decode cX12_rect 71 = .ok (.istore 7, 2) := by decide +kernel
theorem dX12_rect_73 : decode cX12_rect 73 = .ok (.iload 7, 2) := by decide +kernel
theorem dX12_rect_75 : decode cX12_rect 75 = .ok (.iload 5, 2) := by decide +kernel
theorem dX12_rect_77 : decode cX12_rect 77 = .ok (.if_icmp .gt 46, 3) := by decide +kernel
theorem dX12_rect_80 : decode cX12_rect 80 = .ok (.iload_n 2, 1) := by decide +kernel
theorem dX12_rect_81 : decode cX12_rect 81 = .ok (.istore 8, 2) := by decide +kernel
theorem dX12_rect_83 : decode cX12_rect 83 = .ok (.iload 8, 2) := by decide +kernel
theorem dX12_rect_85 : decode cX12_rect 85 = .ok (.iload 4, 2) := by decide +kernel
theorem dX12_rect_87 : decode cX12_rect 87 = .ok (.if_icmp .gt 30, 3) := by decide +kernel
theorem dX12_rect_90 : decode cX12_rect 90 = .ok (.aload_n 0, 1) := by decide +kernel
theorem dX12_rect_91 : decode cX12_rect 91 = .ok (.getfield 13, 3) := by decide +kernel
theorem dX12_rect_94 : decode cX12_rect 94 = .ok (.sipush 144, 3) := by decide +kernel
theorem dX12_rect_97 : decode cX12_rect 97 = .ok (.iload_n 1, 1) := by decide +kernel
theorem dX12_rect_98 : decode cX12_rect 98 = .ok (.imul, 1) := by decide +kernel
theorem dX12_rect_99 : decode cX12_rect 99 = .ok (.bipush 12, 2) := by decide +kernel
theorem dX12_rect_101 : decode cX12_rect 101 = .ok (.iload 7, 2) := by decide +kernel
theorem dX12_rect_103 : decode cX12_rect 103 = .ok (.imul, 1) := by decide +kernel
theorem dX12_rect_104 : decode cX12_rect 104 = .ok (.iadd, 1) := by decide +kernel
theorem dX12_rect_105 : decode cX12_rect 105 = .ok (.iload 8, 2) := by decide +kernel
theorem dX12_rect_107 : decode cX12_rect 107 = .ok (.iadd, 1) := by decide +kernel
theorem dX12_rect_108 : decode cX12_rect 108 = .ok (.iload 6, 2) := by decide +kernel
theorem dX12_rect_110 : decode cX12_rect 110 = .ok (.bastore, 1) := by decide +kernel
theorem dX12_rect_111 : decode cX12_rect 111 = .ok (.iinc 8 1, 3) := by decide +kernel
theorem dX12_rect_114 : decode cX12_rect 114 = .ok (.goto (-31), 3) := by decide +kernel
theorem dX12_rect_117 : decode cX12_rect 117 = .ok (.iinc 7 1, 3) := by decide +kernel
theorem dX12_rect_120 : decode cX12_rect 120 = .ok (.goto (-47), 3) := by decide +kernel
theorem dX12_rect_123 : decode cX12_rect 123 = .ok (.aload_n 0, 1) := by decide +kernel
theorem dX12_rect_124 : decode cX12_rect 124 = .ok (.iload_n 1, 1) := by decide +kernel
theorem dX12_rect_125 : decode cX12_rect 125 = .ok (.invokevirtual 90, 3) := by decide +kernel
theorem dX12_rect_128 : decode cX12_rect 128 = .ok (.ireturn, 1) := by decide +kernel
set_option maxRecDepth 20000 in
theorem ggX12_masked_X12_in : GoodIn wsX12_masked wsX12_in := goodIn_r _ [7] (by decide +kernel) (by decide +kernel)
set_option maxRecDepth 20000 in
theorem gX12_masked_X12_in : GoodIn wsX12_masked (va_wsS RX12 84 yX12_in wsX12_in) := goodIn_app (goodIn_of _ (by decide +kernel)) ggX12_masked_X12_in
theorem dX12_masked_0 : decode cX12_masked 0 = .ok (.iload_n 1, 1) := by decide +kernel
theorem dX12_masked_1 : decode cX12_masked 1 = .ok (.i2l, 1) := by decide +kernel
theorem dX12_masked_2 : decode cX12_masked 2 = .ok (.lconst 0, 1) := by decide +kernel
theorem dX12_masked_3 : decode cX12_masked 3 = .ok (.ldc2_w 82, 3) := by decide +kernel
theorem dX12_masked_6 : decode cX12_masked 6 = .ok (.invokestatic 84, 3) := by decide +kernel
theorem dX12_masked_9 : decode cX12_masked 9 = .ok (.ifCond .eq 15, 3) := by decide +kernel
theorem dX12_masked_12 : decode cX12_masked 12 = .ok (.iload_n 2, 1) := by decide +kernel
theorem dX12_masked_13 : decode cX12_masked 13 = .ok (.i2l, 1) := by decide +kernel
theorem dX12_masked_14 : decode cX12_masked 14 = .ok (.lconst 0, 1) := by decide +kernel
theorem dX12_masked_15 : decode cX12_masked 15 = .ok (.ldc2_w 94, 3) := by decide +kernel
theorem dX12_masked_18 : decode cX12_masked 18 = .ok (.invokestatic 84, 3) := by decide +kernel
theorem dX12_masked_21 : decode cX12_masked 21 = .ok (.ifCond .ne 6, 3) := by decide +kernel
theorem dX12_masked_24 : decode cX12_masked 24 = .ok (.bipush (-101), 2) := by decide +kernel
theorem dX12_masked_26 : decode cX12_masked 26 = .ok (.ireturn, 1) := by decide +kernel
theorem dX12_masked_27 : decode cX12_masked 27 = .ok (.aload_n 0, 1) := by decide +kernel
theorem dX12_masked_28 : decode cX12_masked 28 = .ok (.getfield 13, 3) := by decide +kernel
theorem dX12_masked_31 : decode cX12_masked 31 = .ok (.sipush 144, 3) := by decide +kernel
theorem dX12_masked_34 : decode cX12_masked 34 = .ok (.iload_n 1, 1) := by decide +kernel
theorem dX12_masked_35 : decode cX12_masked 35 = .ok (.imul, 1) := by decide +kernel
theorem dX12_masked_36 : decode cX12_masked 36 = .ok (.iload_n 2, 1) := by decide +kernel
theorem dX12_masked_37 : decode cX12_masked 37 = .ok (.iadd, 1) := by decide +kernel
theorem dX12_masked_38 : decode cX12_masked 38 = .ok (.baload, 1) := by decide +kernel
theorem dX12_masked_39 : decode cX12_masked 39 = .ok (.ifCond .eq 7, 3) := by decide +kernel
theorem dX12_masked_42 : decode cX12_masked 42 = .ok (.iconst 1, 1) := by decide +kernel
theorem dX12_masked_43 : decode cX12_masked 43 = .ok (.goto 4, 3) := by decide +kernel
theorem dX12_masked_46 : decode cX12_masked 46 = .ok (.iconst 0, 1) := by decide +kernel
theorem dX12_masked_47 : decode cX12_masked 47 = .ok (.ireturn, 1) := by decide +kernel
set_option maxRecDepth 20000 in
theorem ggX12_turned_X12_in : GoodIn wsX12_turned wsX12_in := goodIn_r _ [6] (by decide +kernel) (by decide +kernel)
set_option maxRecDepth 20000 in
theorem gX12_turned_X12_in : GoodIn wsX12_turned (va_wsS RX12 84 yX12_in wsX12_in) := goodIn_app (goodIn_of _ (by decide +kernel)) ggX12_turned_X12_in
set_option maxRecDepth 20000 in
theorem ggX12_turned_X12_many : GoodIn wsX12_turned wsX12_many := goodIn_r _ [10, 2, 11, 12, 13, 14, 15, 16, 17, 18, 19, 20, 21, 22, 23, 24, 25, 26, 27, 28, 29, 30, 31, 32, 33, 34, 35, 36, 37, 38, 39, 40, 41, 42, 43, 44, 45, 46, 47, 48, 49, 50] (by decide +kernel) (by decide +kernel)
set_option maxRecDepth 20000 in
theorem gX12_turned_X12_many : GoodIn wsX12_turned (wsV RX12 90 RX12 yX12_many wsX12_many) := goodIn_app (goodIn_of _ (by decide +kernel)) ggX12_turned_X12_many
theorem dX12_turned_0 : decode cX12_turned 0 = .ok (.iload_n 1, 1) := by decide +kernel
theorem dX12_turned_1 : decode cX12_turned 1 = .ok (.i2l, 1) := by decide +kernel
theorem dX12_turned_2 : decode cX12_turned 2 = .ok (.lconst 0, 1) := by decide +kernel
theorem dX12_turned_3 : decode cX12_turned 3 = .ok (.ldc2_w 82, 3) := by decide +kernel
theorem dX12_turned_6 : decode cX12_turned 6 = .ok (.invokestatic 84, 3) := by decide +kernel
theorem dX12_turned_9 : decode cX12_turned 9 = .ok (.ifCond .ne 6, 3) := by decide +kernel
theorem dX12_turned_12 : decode cX12_turned 12 = .ok (.bipush (-101), 2) := by decide +kernel
theorem dX12_turned_14 : decode cX12_turned 14 = .ok (.ireturn, 1) := by decide +kernel
theorem dX12_turned_15 : decode cX12_turned 15 = .ok (.iconst 0, 1) := by decide +kernel
theorem dX12_turned_16 : decode cX12_turned 16 = .ok (.istore_n 2, 1) := by decide +kernel
theorem dX12_turned_17 : decode cX12_turned 17 = .ok (.iload_n 2, 1) := by decide +kernel
theorem dX12_turned_18 : decode cX12_turned 18 = .ok (.sipush 144, 3) := by decide +kernel
theorem dX12_turned_21 : decode cX12_turned 21 = .ok (.if_icmp .ge 41, 3) := by decide +kernel
theorem dX12_turned_24 : decode cX12_turned 24 = .ok (.aload_n 0, 1) := by decide +kernel
theorem dX12_turned_25 : decode cX12_turned 25 = .ok (.getfield 13, 3) := by decide +kernel
theorem dX12_turned_28 : decode cX12_turned 28 = .ok (.sipush 144, 3) := by decide +kernel
theorem dX12_turned_31 : decode cX12_turned 31 = .ok (.iload_n 1, 1) := by decide +kernel
theorem dX12_turned_32 : decode cX12_turned 32 = .ok (.imul, 1) := by decide +kernel
theorem dX12_turned_33 : decode cX12_turned 33 = .ok (.iload_n 2, 1) := by decide +kernel
theorem dX12_turned_34 : decode cX12_turned 34 = .ok (.iadd, 1) := by decide +kernel
theorem dX12_turned_35 : decode cX12_turned 35 = .ok (.aload_n 0, 1) := by decide +kernel
theorem dX12_turned_36 : decode cX12_turned 36 = .ok (.getfield 13, 3) := by decide +kernel
theorem dX12_turned_39 : decode cX12_turned 39 = .ok (.sipush 144, 3) := by decide +kernel
theorem dX12_turned_42 : decode cX12_turned 42 = .ok (.iload_n 1, 1) := by decide +kernel
theorem dX12_turned_43 : decode cX12_turned 43 = .ok (.imul, 1) := by decide +kernel
theorem dX12_turned_44 : decode cX12_turned 44 = .ok (.iload_n 2, 1) := by decide +kernel
theorem dX12_turned_45 : decode cX12_turned 45 = .ok (.iadd, 1) := by decide +kernel
theorem dX12_turned_46 : decode cX12_turned 46 = .ok (.baload, 1) := by decide +kernel
theorem dX12_turned_47 : decode cX12_turned 47 = .ok (.ifCond .ne 7, 3) := by decide +kernel
theorem dX12_turned_50 : decode cX12_turned 50 = .ok (.iconst 1, 1) := by decide +kernel
theorem dX12_turned_51 : decode cX12_turned 51 = .ok (.goto 4, 3) := by decide +kernel
theorem dX12_turned_54 : decode cX12_turned 54 = .ok (.iconst 0, 1) := by decide +kernel
theorem dX12_turned_55 : decode cX12_turned 55 = .ok (.bastore, 1) := by decide +kernel
theorem dX12_turned_56 : decode cX12_turned 56 = .ok (.iinc 2 1, 3) := by decide +kernel
theorem dX12_turned_59 : decode cX12_turned 59 = .ok (.goto (-42), 3) := by decide +kernel
theorem dX12_turned_62 : decode cX12_turned 62 = .ok (.aload_n 0, 1) := by decide +kernel
theorem dX12_turned_63 : decode cX12_turned 63 = .ok (.iload_n 1, 1) := by decide +kernel
theorem dX12_turned_64 : decode cX12_turned 64 = .ok (.invokevirtual 90, 3) := by decide +kernel
theorem dX12_turned_67 : decode cX12_turned 67 = .ok (.ireturn, 1) := by decide +kernel
theorem dX12_four_0 : decode cX12_four 0 = .ok (.iconst 3, 1) := by decide +kernel
theorem dX12_four_1 : decode cX12_four 1 = .ok (.istore_n 2, 1) := by decide +kernel
theorem dX12_four_2 : decode cX12_four 2 = .ok (.iload_n 2, 1) := by decide +kernel
theorem dX12_four_3 : decode cX12_four 3 = .ok (.ifCond .lt 35, 3) := by decide +kernel
theorem dX12_four_6 : decode cX12_four 6 = .ok (.aload_n 0, 1) := by decide +kernel
theorem dX12_four_7 : decode cX12_four 7 = .ok (.getfield 17, 3) := by decide +kernel
theorem dX12_four_10 : decode cX12_four 10 = .ok (.aload_n 0, 1) := by decide +kernel
theorem dX12_four_11 : decode cX12_four 11 = .ok (.getfield 96, 3) := by decide +kernel
theorem dX12_four_14 : decode cX12_four 14 = .ok (.iload_n 1, 1) := by decide +kernel
theorem dX12_four_15 : decode cX12_four 15 = .ok (.bipush 8, 2) := by decide +kernel
theorem dX12_four_17 : decode cX12_four 17 = .ok (.iload_n 2, 1) := by decide +kernel
theorem dX12_four_18 : decode cX12_four 18 = .ok (.imul, 1) := by decide +kernel
theorem dX12_four_19 : decode cX12_four 19 = .ok (.ishr, 1) := by decide +kernel
theorem dX12_four_20 : decode cX12_four 20 = .ok (.i2b, 1) := by decide +kernel
theorem dX12_four_21 : decode cX12_four 21 = .ok (.bastore, 1) := by decide +kernel
theorem dX12_four_22 : decode cX12_four 22 = .ok (.aload_n 0, 1) := by decide +kernel
theorem dX12_four_23 : decode cX12_four 23 = .ok (.dup, 1) := by decide +kernel
theorem dX12_four_24 : decode cX12_four 24 = .ok (.getfield 96, 3) := by decide +kernel
theorem dX12_four_27 : decode cX12_four 27 = .ok (.iconst 1, 1) := by decide +kernel
theorem dX12_four_28 : decode cX12_four 28 = .ok (.iadd, 1) := by decide +kernel
theorem dX12_four_29 : decode cX12_four 29 = .ok (.putfield 96, 3) := by decide +kernel
theorem dX12_four_32 : decode cX12_four 32 = .ok (.iinc 2 (-1), 3) := by decide +kernel
theorem dX12_four_35 : decode cX12_four 35 = .ok (.goto (-33), 3) := by decide +kernel
theorem dX12_four_38 : decode cX12_four 38 = .ok (.return_, 1) := by decide +kernel
set_option maxRecDepth 20000 in
theorem ggX12_feed_X12_four : GoodIn wsX12_feed wsX12_four := goodIn_r _ [6, 7, 1, 8, 9, 10, 11, 12, 13, 14, 15, 16, 17, 18, 19, 20, 21, 22, 23, 24, 25, 26, 27, 28, 29, 30, 31, 32, 33, 34, 35, 36, 37, 38, 39, 40, 41, 42, 43, 44, 45, 46, 47] (by decide +kernel) (by decide +kernel)
set_option maxRecDepth 20000 in
theorem gX12_feed_X12_four : GoodIn wsX12_feed (wsV RX12 99 RX12 yX12_four wsX12_four) := goodIn_app (goodIn_of _ (by decide +kernel)) ggX12_feed_X12_four
theorem dX12_feed_0 : decode cX12_feed 0 = .ok (.aload_n 0, 1) := by decide +kernel
theorem dX12_feed_1 : decode cX12_feed 1 = .ok (.getfield 96, 3) := by decide +kernel
theorem dX12_feed_4 : decode cX12_feed 4 = .ok (.bipush 20, 2) := by decide +kernel
theorem dX12_feed_6 : decode cX12_feed 6 = .ok (.iadd, 1) := by decide +kernel
theorem dX12_feed_7 : decode cX12_feed 7 = .ok (.sipush 600, 3) := by decide +kernel
theorem dX12_feed_10 : decode cX12_feed 10 = .ok (.if_icmp .le 6, 3) := by decide +kernel
theorem dX12_feed_13 : decode cX12_feed 13 = .ok (.bipush (-104), 2) := by decide +kernel
theorem dX12_feed_15 : decode cX12_feed 15 = .ok (.ireturn, 1) := by decide +kernel
theorem dX12_feed_16 : decode cX12_feed 16 = .ok (.aload_n 0, 1) := by decide +kernel
theorem dX12_feed_17 : decode cX12_feed 17 = .ok (.iload_n 1, 1) := by decide +kernel
theorem dX12_feed_18 : decode cX12_feed 18 = .ok (.invokevirtual 99, 3) := by decide +kernel
theorem dX12_feed_21 : decode cX12_feed 21 = .ok (.aload_n 0, 1) := by decide +kernel
theorem dX12_feed_22 : decode cX12_feed 22 = .ok (.iload_n 2, 1) := by decide +kernel
theorem dX12_feed_23 : decode cX12_feed 23 = .ok (.invokevirtual 99, 3) := by decide +kernel
theorem dX12_feed_26 : decode cX12_feed 26 = .ok (.aload_n 0, 1) := by decide +kernel
theorem dX12_feed_27 : decode cX12_feed 27 = .ok (.iload_n 3, 1) := by decide +kernel
theorem dX12_feed_28 : decode cX12_feed 28 = .ok (.invokevirtual 99, 3) := by decide +kernel
theorem dX12_feed_31 : decode cX12_feed 31 = .ok (.aload_n 0, 1) := by decide +kernel
theorem dX12_feed_32 : decode cX12_feed 32 = .ok (.iload 4, 2) := by decide +kernel
theorem dX12_feed_34 : decode cX12_feed 34 = .ok (.invokevirtual 99, 3) := by decide +kernel
theorem dX12_feed_37 : decode cX12_feed 37 = .ok (.aload_n 0, 1) := by decide +kernel
theorem dX12_feed_38 : decode cX12_feed 38 = .ok (.iload 5, 2) := by decide +kernel
theorem dX12_feed_40 : decode cX12_feed 40 = .ok (.invokevirtual 99, 3) := by decide +kernel
theorem dX12_feed_43 : decode cX12_feed 43 = .ok (.aload_n 0, 1) := by decide +kernel
theorem dX12_feed_44 : decode cX12_feed 44 = .ok (.getfield 96, 3) := by decide +kernel
theorem dX12_feed_47 : decode cX12_feed 47 = .ok (.ireturn, 1) := by decide +kernel
set_option maxRecDepth 20000 in
theorem ggX12_cut_X12_in : GoodIn wsX12_cut wsX12_in := goodIn_r _ [5] (by decide +kernel) (by decide +kernel)
set_option maxRecDepth 20000 in
theorem gX12_cut_X12_in : GoodIn wsX12_cut (va_wsS RX12 84 yX12_in wsX12_in) := goodIn_app (goodIn_of _ (by decide +kernel)) ggX12_cut_X12_in
theorem dX12_cut_0 : decode cX12_cut 0 = .ok (.iload_n 1, 1) := by decide +kernel
theorem dX12_cut_1 : decode cX12_cut 1 = .ok (.i2l, 1) := by decide +kernel
theorem dX12_cut_2 : decode cX12_cut 2 = .ok (.lconst 0, 1) := by decide +kernel
theorem dX12_cut_3 : decode cX12_cut 3 = .ok (.aload_n 0, 1) := by decide +kernel
theorem dX12_cut_4 : decode cX12_cut 4 = .ok (.getfield 96, 3) := by decide +kernel
theorem dX12_cut_7 : decode cX12_cut 7 = .ok (.i2l, 1) := by decide +kernel
theorem dX12_cut_8 : decode cX12_cut 8 = .ok (.invokestatic 84, 3) := by decide +kernel
theorem dX12_cut_11 : decode cX12_cut 11 = .ok (.ifCond .ne 6, 3) := by decide +kernel
theorem dX12_cut_14 : decode cX12_cut 14 = .ok (.bipush (-102), 2) := by decide +kernel
theorem dX12_cut_16 : decode cX12_cut 16 = .ok (.ireturn, 1) := by decide +kernel
theorem dX12_cut_17 : decode cX12_cut 17 = .ok (.aload_n 0, 1) := by decide +kernel
theorem dX12_cut_18 : decode cX12_cut 18 = .ok (.getfield 96, 3) := by decide +kernel
theorem dX12_cut_21 : decode cX12_cut 21 = .ok (.iload_n 1, 1) := by decide +kernel
theorem dX12_cut_22 : decode cX12_cut 22 = .ok (.isub, 1) := by decide +kernel
theorem dX12_cut_23 : decode cX12_cut 23 = .ok (.istore_n 2, 1) := by decide +kernel
theorem dX12_cut_24 : decode cX12_cut 24 = .ok (.aload_n 0, 1) := by decide +kernel
theorem dX12_cut_25 : decode cX12_cut 25 = .ok (.iload_n 1, 1) := by decide +kernel
theorem dX12_cut_26 : decode cX12_cut 26 = .ok (.putfield 96, 3) := by decide +kernel
theorem dX12_cut_29 : decode cX12_cut 29 = .ok (.iload_n 2, 1) := by decide +kernel
theorem dX12_cut_30 : decode cX12_cut 30 = .ok (.ireturn, 1) := by decide +kernel
theorem dX12_here_0 : decode cX12_here 0 = .ok (.aload_n 0, 1) := by decide +kernel
theorem dX12_here_1 : decode cX12_here 1 = .ok (.getfield 103, 3) := by decide +kernel
theorem dX12_here_4 : decode cX12_here 4 = .ok (.aload_n 0, 1) := by decide +kernel
theorem dX12_here_5 : decode cX12_here 5 = .ok (.getfield 96, 3) := by decide +kernel
theorem dX12_here_8 : decode cX12_here 8 = .ok (.if_icmp .ge 19, 3) := by decide +kernel
theorem dX12_here_11 : decode cX12_here 11 = .ok (.aload_n 0, 1) := by decide +kernel
theorem dX12_here_12 : decode cX12_here 12 = .ok (.getfield 17, 3) := by decide +kernel
theorem dX12_here_15 : decode cX12_here 15 = .ok (.aload_n 0, 1) := by decide +kernel
theorem dX12_here_16 : decode cX12_here 16 = .ok (.getfield 103, 3) := by decide +kernel
theorem dX12_here_19 : decode cX12_here 19 = .ok (.baload, 1) := by decide +kernel
theorem dX12_here_20 : decode cX12_here 20 = .ok (.sipush 255, 3) := by decide +kernel
theorem dX12_here_23 : decode cX12_here 23 = .ok (.iand, 1) := by decide +kernel
theorem dX12_here_24 : decode cX12_here 24 = .ok (.goto 4, 3) := by decide +kernel
theorem dX12_here_27 : decode cX12_here 27 = .ok (.iconst (-1), 1) := by decide +kernel
theorem dX12_here_28 : decode cX12_here 28 = .ok (.ireturn, 1) := by decide +kernel
set_option maxRecDepth 20000 in
theorem ggX12_next_X12_here : GoodIn wsX12_next wsX12_here := goodIn_r _ [17, 1, 6, 18, 22, 23, 24, 25, 26, 27, 28, 29, 30, 31, 32, 33, 34, 35, 36, 37, 38, 39, 40, 41, 42, 43, 44, 45, 46, 47, 48, 49, 50, 51, 52, 53, 54, 55, 56, 57, 58, 59, 60, 61] (by decide +kernel) (by decide +kernel)
set_option maxRecDepth 20000 in
theorem gX12_next_X12_here : GoodIn wsX12_next (wsV RX12 106 RX12 yX12_here wsX12_here) := goodIn_app (goodIn_of _ (by decide +kernel)) ggX12_next_X12_here
set_option maxRecDepth 20000 in
theorem ggX12_next_X12_in : GoodIn wsX12_next wsX12_in := goodIn_r _ [21] (by decide +kernel) (by decide +kernel)
set_option maxRecDepth 20000 in
theorem gX12_next_X12_in : GoodIn wsX12_next (va_wsS RX12 84 yX12_in wsX12_in) := goodIn_app (goodIn_of _ (by decide +kernel)) ggX12_next_X12_in
theorem dX12_next_0 : decode cX12_next 0 = .ok (.aload_n 0, 1) := by decide +kernel
theorem dX12_next_1 : decode cX12_next 1 = .ok (.invokevirtual 106, 3) := by decide +kernel
theorem dX12_next_4 : decode cX12_next 4 = .ok (.bipush 32, 2) := by decide +kernel
theorem dX12_next_6 : decode cX12_next 6 = .ok (.if_icmp .eq 12, 3) := by decide +kernel
theorem dX12_next_9 : decode cX12_next 9 = .ok (.aload_n 0, 1) := by decide +kernel
theorem dX12_next_10 : decode cX12_next 10 = .ok (.invokevirtual 106, 3) := by decide +kernel
theorem dX12_next_13 : decode cX12_next 13 = .ok (.bipush 10, 2) := by decide +kernel
theorem dX12_next_15 : decode cX12_next 15 = .ok (.if_icmp .ne 16, 3) := by decide +kernel
theorem dX12_next_18 : decode cX12_next 18 = .ok (.aload_n 0, 1) := by decide +kernel
theorem dX12_next_19 : decode cX12_next 19 = .ok (.dup, 1) := by decide +kernel
theorem dX12_next_20 : decode cX12_next 20 = .ok (.getfield 103, 3) := by decide +kernel
theorem dX12_next_23 : decode cX12_next 23 = .ok (.iconst 1, 1) := by decide +kernel
theorem dX12_next_24 : decode cX12_next 24 = .ok (.iadd, 1) := by decide +kernel
theorem dX12_next_25 : decode cX12_next 25 = .ok (.putfield 103, 3) := by decide +kernel
theorem dX12_next_28 : decode cX12_next 28 = .ok (.goto (-28), 3) := by decide +kernel
theorem dX12_next_31 : decode cX12_next 31 = .ok (.aload_n 0, 1) := by decide +kernel
theorem dX12_next_32 : decode cX12_next 32 = .ok (.aload_n 0, 1) := by decide +kernel
theorem dX12_next_33 : decode cX12_next 33 = .ok (.getfield 103, 3) := by decide +kernel
theorem dX12_next_36 : decode cX12_next 36 = .ok (.putfield 110, 3) := by decide +kernel
theorem dX12_next_39 : decode cX12_next 39 = .ok (.aload_n 0, 1) := by decide +kernel
theorem dX12_next_40 : decode cX12_next 40 = .ok (.lconst 0, 1) := by decide +kernel
theorem dX12_next_41 : decode cX12_next 41 = .ok (.putfield 113, 3) := by decide +kernel
theorem dX12_next_44 : decode cX12_next 44 = .ok (.aload_n 0, 1) := by decide +kernel
theorem dX12_next_45 : decode cX12_next 45 = .ok (.iconst 0, 1) := by decide +kernel
theorem dX12_next_46 : decode cX12_next 46 = .ok (.putfield 117, 3) := by decide +kernel
theorem dX12_next_49 : decode cX12_next 49 = .ok (.aload_n 0, 1) := by decide +kernel
theorem dX12_next_50 : decode cX12_next 50 = .ok (.iconst 0, 1) := by decide +kernel
theorem dX12_next_51 : decode cX12_next 51 = .ok (.putfield 120, 3) := by decide +kernel
theorem dX12_next_54 : decode cX12_next 54 = .ok (.aload_n 0, 1) := by decide +kernel
theorem dX12_next_55 : decode cX12_next 55 = .ok (.getfield 103, 3) := by decide +kernel
theorem dX12_next_58 : decode cX12_next 58 = .ok (.aload_n 0, 1) := by decide +kernel
theorem dX12_next_59 : decode cX12_next 59 = .ok (.getfield 96, 3) := by decide +kernel
theorem dX12_next_62 : decode cX12_next 62 = .ok (.if_icmp .ne 11, 3) := by decide +kernel
theorem dX12_next_65 : decode cX12_next 65 = .ok (.aload_n 0, 1) := by decide +kernel
theorem dX12_next_66 : decode cX12_next 66 = .ok (.iconst (-1), 1) := by decide +kernel
theorem dX12_next_67 : decode cX12_next 67 = .ok (.putfield 123, 3) := by decide +kernel
theorem dX12_next_70 : decode cX12_next 70 = .ok (.goto 223, 3) := by decide +kernel
theorem dX12_next_73 : decode cX12_next 73 = .ok (.aload_n 0, 1) := by decide +kernel
theorem dX12_next_74 : decode cX12_next 74 = .ok (.invokevirtual 106, 3) := by decide +kernel
theorem dX12_next_77 : decode cX12_next 77 = .ok (.i2l, 1) := by decide +kernel
theorem dX12_next_78 : decode cX12_next 78 = .ok (.ldc2_w 126, 3) := by decide +kernel
theorem dX12_next_81 : decode cX12_next 81 = .ok (.ldc2_w 128, 3) := by decide +kernel
theorem dX12_next_84 : decode cX12_next 84 = .ok (.invokestatic 84, 3) := by decide +kernel
theorem dX12_next_87 : decode cX12_next 87 = .ok (.ifCond .eq 90, 3) := by decide +kernel
theorem dX12_next_90 : decode cX12_next 90 = .ok (.aload_n 0, 1) := by decide +kernel
theorem dX12_next_91 : decode cX12_next 91 = .ok (.sipush 300, 3) := by decide +kernel
theorem dX12_next_94 : decode cX12_next 94 = .ok (.putfield 123, 3) := by decide +kernel
theorem dX12_next_97 : decode cX12_next 97 = .ok (.aload_n 0, 1) := by decide +kernel
theorem dX12_next_98 : decode cX12_next 98 = .ok (.invokevirtual 106, 3) := by decide +kernel
theorem dX12_next_101 : decode cX12_next 101 = .ok (.i2l, 1) := by decide +kernel
theorem dX12_next_102 : decode cX12_next 102 = .ok (.ldc2_w 126, 3) := by decide +kernel
theorem dX12_next_105 : decode cX12_next 105 = .ok (.ldc2_w 128, 3) := by decide +kernel
theorem dX12_next_108 : decode cX12_next 108 = .ok (.invokestatic 84, 3) := by decide +kernel
theorem dX12_next_111 : decode cX12_next 111 = .ok (.ifCond .eq 182, 3) := by decide +kernel
theorem dX12_next_114 : decode cX12_next 114 = .ok (.aload_n 0, 1) := by decide +kernel
theorem dX12_next_115 : decode cX12_next 115 = .ok (.aload_n 0, 1) := by decide +kernel
theorem dX12_next_116 : decode cX12_next 116 = .ok (.getfield 120, 3) := by decide +kernel
theorem dX12_next_119 : decode cX12_next 119 = .ok (.bipush 9, 2) := by decide +kernel
theorem dX12_next_121 : decode cX12_next 121 = .ok (.if_icmp .ge 26, 3) := by decide +kernel
theorem dX12_next_124 : decode cX12_next 124 = .ok (.ldc2_w 130, 3) := by decide +kernel
theorem dX12_next_127 : decode cX12_next 127 = .ok (.aload_n 0, 1) := by decide +kernel
theorem dX12_next_128 : decode cX12_next 128 = .ok (.getfield 113, 3) := by decide +kernel
theorem dX12_next_131 : decode cX12_next 131 = .ok (.lmul, 1) := by decide +kernel
theorem dX12_next_132 : decode cX12_next 132 = .ok (.aload_n 0, 1) := by decide +kernel
theorem dX12_next_133 : decode cX12_next 133 = .ok (.invokevirtual 106, 3) := by decide +kernel
theorem dX12_next_136 : decode cX12_next 136 = .ok (.i2l, 1) := by decide +kernel
theorem dX12_next_137 : decode cX12_next 137 = .ok (.ladd, 1) := by decide +kernel
theorem dX12_next_138 : decode cX12_next 138 = .ok (.ldc2_w 126, 3) := by decide +kernel
theorem dX12_next_141 : decode cX12_next 141 = .ok (.lsub, 1) := by decide +kernel
theorem dX12_next_142 : decode cX12_next 142 = .ok (.lconst 1, 1) := by decide +kernel
theorem dX12_next_143 : decode cX12_next 143 = .ok (.ladd, 1) := by decide +kernel
theorem dX12_next_144 : decode cX12_next 144 = .ok (.goto 7, 3) := by decide +kernel
theorem dX12_next_147 : decode cX12_next 147 = .ok (.aload_n 0, 1) := by decide +kernel
theorem dX12_next_148 : decode cX12_next 148 = .ok (.getfield 113, 3) := by decide +kernel
theorem dX12_next_151 : decode cX12_next 151 = .ok (.putfield 113, 3) := by decide +kernel
theorem dX12_next_154 : decode cX12_next 154 = .ok (.aload_n 0, 1) := by decide +kernel
theorem dX12_next_155 : decode cX12_next 155 = .ok (.dup, 1) := by decide +kernel
theorem dX12_next_156 : decode cX12_next 156 = .ok (.getfield 120, 3) := by decide +kernel
theorem dX12_next_159 : decode cX12_next 159 = .ok (.iconst 1, 1) := by decide +kernel
theorem dX12_next_160 : decode cX12_next 160 = .ok (.iadd, 1) := by decide +kernel
theorem dX12_next_161 : decode cX12_next 161 = .ok (.putfield 120, 3) := by decide +kernel
theorem dX12_next_164 : decode cX12_next 164 = .ok (.aload_n 0, 1) := by decide +kernel
theorem dX12_next_165 : decode cX12_next 165 = .ok (.dup, 1) := by decide +kernel
theorem dX12_next_166 : decode cX12_next 166 = .ok (.getfield 103, 3) := by decide +kernel
theorem dX12_next_169 : decode cX12_next 169 = .ok (.iconst 1, 1) := by decide +kernel
theorem dX12_next_170 : decode cX12_next 170 = .ok (.iadd, 1) := by decide +kernel
theorem dX12_next_171 : decode cX12_next 171 = .ok (.putfield 103, 3) := by decide +kernel
theorem dX12_next_174 : decode cX12_next 174 = .ok (.goto (-77), 3) := by decide +kernel
theorem dX12_next_177 : decode cX12_next 177 = .ok (.aload_n 0, 1) := by decide +kernel
theorem dX12_next_178 : decode cX12_next 178 = .ok (.invokevirtual 106, 3) := by decide +kernel
theorem dX12_next_181 : decode cX12_next 181 = .ok (.i2l, 1) := by decide +kernel
theorem dX12_next_182 : decode cX12_next 182 = .ok (.ldc2_w 132, 3) := by decide +kernel
theorem dX12_next_185 : decode cX12_next 185 = .ok (.ldc2_w 134, 3) := by decide +kernel
theorem dX12_next_188 : decode cX12_next 188 = .ok (.invokestatic 84, 3) := by decide +kernel
theorem dX12_next_191 : decode cX12_next 191 = .ok (.ifCond .eq 84, 3) := by decide +kernel
theorem dX12_next_194 : decode cX12_next 194 = .ok (.aload_n 0, 1) := by decide +kernel
theorem dX12_next_195 : decode cX12_next 195 = .ok (.sipush 301, 3) := by decide +kernel
theorem dX12_next_198 : decode cX12_next 198 = .ok (.putfield 123, 3) := by decide +kernel
theorem dX12_next_201 : decode cX12_next 201 = .ok (.aload_n 0, 1) := by decide +kernel
theorem dX12_next_202 : decode cX12_next 202 = .ok (.invokevirtual 106, 3) := by decide +kernel
theorem dX12_next_205 : decode cX12_next 205 = .ok (.i2l, 1) := by decide +kernel
theorem dX12_next_206 : decode cX12_next 206 = .ok (.ldc2_w 132, 3) := by decide +kernel
theorem dX12_next_209 : decode cX12_next 209 = .ok (.ldc2_w 134, 3) := by decide +kernel
theorem dX12_next_212 : decode cX12_next 212 = .ok (.invokestatic 84, 3) := by decide +kernel
theorem dX12_next_215 : decode cX12_next 215 = .ok (.ifCond .eq 78, 3) := by decide +kernel
theorem dX12_next_218 : decode cX12_next 218 = .ok (.aload_n 0, 1) := by decide +kernel
theorem dX12_next_219 : decode cX12_next 219 = .ok (.aload_n 0, 1) := by decide +kernel
theorem dX12_next_220 : decode cX12_next 220 = .ok (.getfield 120, 3) := by decide +kernel
theorem dX12_next_223 : decode cX12_next 223 = .ok (.iconst 2, 1) := by decide +kernel
theorem dX12_next_224 : decode cX12_next 224 = .ok (.if_icmp .ge 21, 3) := by decide +kernel
theorem dX12_next_227 : decode cX12_next 227 = .ok (.bipush 10, 2) := by decide +kernel
theorem dX12_next_229 : decode cX12_next 229 = .ok (.aload_n 0, 1) := by decide +kernel
theorem dX12_next_230 : decode cX12_next 230 = .ok (.getfield 117, 3) := by decide +kernel
theorem dX12_next_233 : decode cX12_next 233 = .ok (.imul, 1) := by decide +kernel
theorem dX12_next_234 : decode cX12_next 234 = .ok (.aload_n 0, 1) := by decide +kernel
theorem dX12_next_235 : decode cX12_next 235 = .ok (.invokevirtual 106, 3) := by decide +kernel
theorem dX12_next_238 : decode cX12_next 238 = .ok (.iadd, 1) := by decide +kernel
theorem dX12_next_239 : decode cX12_next 239 = .ok (.bipush 48, 2) := by decide +kernel
theorem dX12_next_241 : decode cX12_next 241 = .ok (.isub, 1) := by decide +kernel
theorem dX12_next_242 : decode cX12_next 242 = .ok (.goto 7, 3) := by decide +kernel
theorem dX12_next_245 : decode cX12_next 245 = .ok (.aload_n 0, 1) := by decide +kernel
theorem dX12_next_246 : decode cX12_next 246 = .ok (.getfield 117, 3) := by decide +kernel
theorem dX12_next_249 : decode cX12_next 249 = .ok (.putfield 117, 3) := by decide +kernel
theorem dX12_next_252 : decode cX12_next 252 = .ok (.aload_n 0, 1) := by decide +kernel
theorem dX12_next_253 : decode cX12_next 253 = .ok (.dup, 1) := by decide +kernel
theorem dX12_next_254 : decode cX12_next 254 = .ok (.getfield 120, 3) := by decide +kernel
theorem dX12_next_257 : decode cX12_next 257 = .ok (.iconst 1, 1) := by decide +kernel
theorem dX12_next_258 : decode cX12_next 258 = .ok (.iadd, 1) := by decide +kernel
theorem dX12_next_259 : decode cX12_next 259 = .ok (.putfield 120, 3) := by decide +kernel
theorem dX12_next_262 : decode cX12_next 262 = .ok (.aload_n 0, 1) := by decide +kernel
theorem dX12_next_263 : decode cX12_next 263 = .ok (.dup, 1) := by decide +kernel
theorem dX12_next_264 : decode cX12_next 264 = .ok (.getfield 103, 3) := by decide +kernel
theorem dX12_next_267 : decode cX12_next 267 = .ok (.iconst 1, 1) := by decide +kernel
theorem dX12_next_268 : decode cX12_next 268 = .ok (.iadd, 1) := by decide +kernel
theorem dX12_next_269 : decode cX12_next 269 = .ok (.putfield 103, 3) := by decide +kernel
theorem dX12_next_272 : decode cX12_next 272 = .ok (.goto (-71), 3) := by decide +kernel
theorem dX12_next_275 : decode cX12_next 275 = .ok (.aload_n 0, 1) := by decide +kernel
theorem dX12_next_276 : decode cX12_next 276 = .ok (.aload_n 0, 1) := by decide +kernel
theorem dX12_next_277 : decode cX12_next 277 = .ok (.invokevirtual 106, 3) := by decide +kernel
theorem dX12_next_280 : decode cX12_next 280 = .ok (.putfield 123, 3) := by decide +kernel
theorem dX12_next_283 : decode cX12_next 283 = .ok (.aload_n 0, 1) := by decide +kernel
theorem dX12_next_284 : decode cX12_next 284 = .ok (.dup, 1) := by decide +kernel
theorem dX12_next_285 : decode cX12_next 285 = .ok (.getfield 103, 3) := by decide +kernel
theorem dX12_next_288 : decode cX12_next 288 = .ok (.iconst 1, 1) := by decide +kernel
theorem dX12_next_289 : decode cX12_next 289 = .ok (.iadd, 1) := by decide +kernel
theorem dX12_next_290 : decode cX12_next 290 = .ok (.putfield 103, 3) := by decide +kernel
theorem dX12_next_293 : decode cX12_next 293 = .ok (.return_, 1) := by decide +kernel
theorem dX12_wrong_0 : decode cX12_wrong 0 = .ok (.aload_n 0, 1) := by decide +kernel
theorem dX12_wrong_1 : decode cX12_wrong 1 = .ok (.getfield 136, 3) := by decide +kernel
theorem dX12_wrong_4 : decode cX12_wrong 4 = .ok (.ifCond .ne 16, 3) := by decide +kernel
theorem dX12_wrong_7 : decode cX12_wrong 7 = .ok (.aload_n 0, 1) := by decide +kernel
theorem dX12_wrong_8 : decode cX12_wrong 8 = .ok (.iload_n 1, 1) := by decide +kernel
theorem dX12_wrong_9 : decode cX12_wrong 9 = .ok (.putfield 136, 3) := by decide +kernel
theorem dX12_wrong_12 : decode cX12_wrong 12 = .ok (.aload_n 0, 1) := by decide +kernel
theorem dX12_wrong_13 : decode cX12_wrong 13 = .ok (.aload_n 0, 1) := by decide +kernel
theorem dX12_wrong_14 : decode cX12_wrong 14 = .ok (.getfield 110, 3) := by decide +kernel
theorem dX12_wrong_17 : decode cX12_wrong 17 = .ok (.putfield 139, 3) := by decide +kernel
theorem dX12_wrong_20 : decode cX12_wrong 20 = .ok (.return_, 1) := by decide +kernel
theorem dX12_fine_0 : decode cX12_fine 0 = .ok (.aload_n 0, 1) := by decide +kernel
theorem dX12_fine_1 : decode cX12_fine 1 = .ok (.getfield 136, 3) := by decide +kernel
theorem dX12_fine_4 : decode cX12_fine 4 = .ok (.ifCond .ne 7, 3) := by decide +kernel
theorem dX12_fine_7 : decode cX12_fine 7 = .ok (.iconst 1, 1) := by decide +kernel
theorem dX12_fine_8 : decode cX12_fine 8 = .ok (.goto 4, 3) := by decide +kernel
theorem dX12_fine_11 : decode cX12_fine 11 = .ok (.iconst 0, 1) := by decide +kernel
theorem dX12_fine_12 : decode cX12_fine 12 = .ok (.ireturn, 1) := by decide +kernel
set_option maxRecDepth 20000 in
theorem ggX12_want_X12_fine : GoodIn wsX12_want wsX12_fine := goodIn_r _ [6, 7, 36, 37, 38, 39, 40, 41, 42, 43, 44, 45, 46, 47, 48, 49, 50, 51, 52, 53, 54, 55, 56, 57, 58, 59, 60, 61, 62, 63, 64, 65, 66, 67, 68, 69, 70, 71, 72, 73, 74, 75] (by decide +kernel) (by decide +kernel)
set_option maxRecDepth 20000 in
theorem gX12_want_X12_fine : GoodIn wsX12_want (wsV RX12 142 RX12 yX12_fine wsX12_fine) := goodIn_app (goodIn_of _ (by decide +kernel)) ggX12_want_X12_fine
set_option maxRecDepth 20000 in
theorem ggX12_want_X12_next : GoodIn wsX12_want wsX12_next := goodIn_r _ [11, 12, 13, 14, 15, 16, 17, 1, 18, 19, 20, 21, 22, 23, 24, 25, 5, 26, 27, 28, 29, 30, 36, 37, 38, 39, 40, 41, 42, 43, 44, 45, 46, 47, 48, 49, 50, 51, 52, 53, 54, 55, 56, 57, 58, 59, 60, 61, 62, 63, 64, 65, 66, 67, 68, 69, 70, 71, 72, 73, 74, 75] (by decide +kernel) (by decide +kernel)
set_option maxRecDepth 20000 in
theorem gX12_want_X12_next : GoodIn wsX12_want (wsV RX12 146 RX12 yX12_next wsX12_next) := goodIn_app (goodIn_of _ (by decide +kernel)) ggX12_want_X12_next
set_option maxRecDepth 20000 in
theorem ggX12_want_X12_wrong : GoodIn wsX12_want wsX12_wrong := goodIn_r _ [34, 7, 13, 35, 36, 37, 38, 39, 40, 41, 42, 43, 44, 45, 46, 47, 48, 49, 50, 51, 52, 53, 54, 55, 56, 57, 58, 59, 60, 61, 62, 63, 64, 65, 66, 67, 68, 69, 70, 71, 72, 73, 74, 75] (by decide +kernel) (by decide +kernel)
set_option maxRecDepth 20000 in
theorem gX12_want_X12_wrong : GoodIn wsX12_want (wsV RX12 149 RX12 yX12_wrong wsX12_wrong) := goodIn_app (goodIn_of _ (by decide +kernel)) ggX12_want_X12_wrong
theorem dX12_want_0 : decode cX12_want 0 = .ok (.aload_n 0, 1) := by decide +kernel
theorem dX12_want_1 : decode cX12_want 1 = .ok (.invokevirtual 142, 3) := by decide +kernel
theorem dX12_want_4 : decode cX12_want 4 = .ok (.ifCond .eq 23, 3) := by decide +kernel
theorem dX12_want_7 : decode cX12_want 7 = .ok (.aload_n 0, 1) := by decide +kernel
theorem dX12_want_8 : decode cX12_want 8 = .ok (.getfield 123, 3) := by decide +kernel
theorem dX12_want_11 : decode cX12_want 11 = .ok (.iload_n 1, 1) := by decide +kernel
theorem dX12_want_12 : decode cX12_want 12 = .ok (.if_icmp .ne 10, 3) := by decide +kernel
theorem dX12_want_15 : decode cX12_want 15 = .ok (.aload_n 0, 1) := by decide +kernel
theorem dX12_want_16 : decode cX12_want 16 = .ok (.invokevirtual 146, 3) := by decide +kernel
theorem dX12_want_19 : decode cX12_want 19 = .ok (.goto 8, 3) := by decide +kernel
theorem dX12_want_22 : decode cX12_want 22 = .ok (.aload_n 0, 1) := by decide +kernel
theorem dX12_want_23 : decode cX12_want 23 = .ok (.iconst 1, 1) := by decide +kernel
theorem dX12_want_24 : decode cX12_want 24 = .ok (.invokevirtual 149, 3) := by decide +kernel
theorem dX12_want_27 : decode cX12_want 27 = .ok (.return_, 1) := by decide +kernel
set_option maxRecDepth 20000 in
theorem ggX12_letter_X12_fine : GoodIn wsX12_letter wsX12_fine := goodIn_r _ [9, 10, 37, 38, 39, 40, 41, 42, 43, 44, 45, 46, 47, 48, 49, 50, 51, 52, 53, 54, 55, 56, 57, 58, 59, 60, 61, 62, 63, 64, 65, 66, 67, 68, 69, 70, 71, 72, 73, 74, 75, 76] (by decide +kernel) (by decide +kernel)
set_option maxRecDepth 20000 in
theorem gX12_letter_X12_fine : GoodIn wsX12_letter (wsV RX12 142 RX12 yX12_fine wsX12_fine) := goodIn_app (goodIn_of _ (by decide +kernel)) ggX12_letter_X12_fine
set_option maxRecDepth 20000 in
theorem ggX12_letter_X12_wrong : GoodIn wsX12_letter wsX12_wrong := goodIn_r _ [14, 10, 15, 16, 37, 38, 39, 40, 41, 42, 43, 44, 45, 46, 47, 48, 49, 50, 51, 52, 53, 54, 55, 56, 57, 58, 59, 60, 61, 62, 63, 64, 65, 66, 67, 68, 69, 70, 71, 72, 73, 74, 75, 76] (by decide +kernel) (by decide +kernel)
set_option maxRecDepth 20000 in
theorem gX12_letter_X12_wrong : GoodIn wsX12_letter (wsV RX12 149 RX12 yX12_wrong wsX12_wrong) := goodIn_app (goodIn_of _ (by decide +kernel)) ggX12_letter_X12_wrong
set_option maxRecDepth 20000 in
theorem ggX12_letter_X12_next : GoodIn wsX12_letter wsX12_next := goodIn_r _ [20, 21, 15, 3, 22, 2, 23, 1, 24, 25, 26, 27, 28, 29, 30, 31, 8, 32, 33, 34, 35, 36, 37, 38, 39, 40, 41, 42, 43, 44, 45, 46, 47, 48, 49, 50, 51, 52, 53, 54, 55, 56, 57, 58, 59, 60, 61, 62, 63, 64, 65, 66, 67, 68, 69, 70, 71, 72, 73, 74, 75, 76] (by decide +kernel) (by decide +kernel)
set_option maxRecDepth 20000 in
theorem gX12_letter_X12_next : GoodIn wsX12_letter (wsV RX12 146 RX12 yX12_next wsX12_next) := goodIn_app (goodIn_of _ (by decide +kernel)) ggX12_letter_X12_next
theorem dX12_letter_0 : decode cX12_letter 0 = .ok (.aload_n 0, 1) := by decide +kernel
theorem dX12_letter_1 : decode cX12_letter 1 = .ok (.invokevirtual 142, 3) := by decide +kernel
theorem dX12_letter_4 : decode cX12_letter 4 = .ok (.ifCond .ne 5, 3) := by decide +kernel
theorem dX12_letter_7 : decode cX12_letter 7 = .ok (.iconst 0, 1) := by decide +kernel
theorem dX12_letter_8 : decode cX12_letter 8 = .ok (.ireturn, 1) := by decide +kernel
theorem dX12_letter_9 : decode cX12_letter 9 = .ok (.aload_n 0, 1) := by decide +kernel
theorem dX12_letter_10 : decode cX12_letter 10 = .ok (.getfield 123, 3) := by decide +kernel
theorem dX12_letter_13 : decode cX12_letter 13 = .ok (.sipush 300, 3) := by decide +kernel
theorem dX12_letter_16 : decode cX12_letter 16 = .ok (.if_icmp .ne 22, 3) := by decide +kernel
theorem dX12_letter_19 : decode cX12_letter 19 = .ok (.aload_n 0, 1) := by decide +kernel
theorem dX12_letter_20 : decode cX12_letter 20 = .ok (.getfield 120, 3) := by decide +kernel
theorem dX12_letter_23 : decode cX12_letter 23 = .ok (.iconst 1, 1) := by decide +kernel
theorem dX12_letter_24 : decode cX12_letter 24 = .ok (.if_icmp .ne 14, 3) := by decide +kernel
theorem dX12_letter_27 : decode cX12_letter 27 = .ok (.aload_n 0, 1) := by decide +kernel
theorem dX12_letter_28 : decode cX12_letter 28 = .ok (.getfield 113, 3) := by decide +kernel
theorem dX12_letter_31 : decode cX12_letter 31 = .ok (.ldc2_w 82, 3) := by decide +kernel
theorem dX12_letter_34 : decode cX12_letter 34 = .ok (.lcmp, 1) := by decide +kernel
theorem dX12_letter_35 : decode cX12_letter 35 = .ok (.ifCond .le 10, 3) := by decide +kernel
theorem dX12_letter_38 : decode cX12_letter 38 = .ok (.aload_n 0, 1) := by decide +kernel
theorem dX12_letter_39 : decode cX12_letter 39 = .ok (.iconst 1, 1) := by decide +kernel
theorem dX12_letter_40 : decode cX12_letter 40 = .ok (.invokevirtual 149, 3) := by decide +kernel
theorem dX12_letter_43 : decode cX12_letter 43 = .ok (.iconst 0, 1) := by decide +kernel
theorem dX12_letter_44 : decode cX12_letter 44 = .ok (.ireturn, 1) := by decide +kernel
theorem dX12_letter_45 : decode cX12_letter 45 = .ok (.aload_n 0, 1) := by decide +kernel
theorem dX12_letter_46 : decode cX12_letter 46 = .ok (.getfield 113, 3) := by decide +kernel
theorem dX12_letter_49 : decode cX12_letter 49 = .ok (.l2i, 1) := by decide +kernel
theorem dX12_letter_50 : decode cX12_letter 50 = .ok (.istore_n 1, 1) := by decide +kernel
theorem dX12_letter_51 : decode cX12_letter 51 = .ok (.aload_n 0, 1) := by decide +kernel
theorem dX12_letter_52 : decode cX12_letter 52 = .ok (.invokevirtual 146, 3) := by decide +kernel
theorem dX12_letter_55 : decode cX12_letter 55 = .ok (.iload_n 1, 1) := by decide +kernel
theorem dX12_letter_56 : decode cX12_letter 56 = .ok (.ireturn, 1) := by decide +kernel
set_option maxRecDepth 20000 in
theorem ggX12_letters_X12_fine : GoodIn wsX12_letters wsX12_fine := goodIn_r _ [9, 10, 36, 37, 38, 39, 40, 41, 42, 43, 44, 45, 46, 47, 48, 49, 50, 51, 52, 53, 54, 55, 56, 57, 58, 59, 60, 61, 62, 63, 64, 65, 66, 67, 68, 69, 70, 71, 72, 73, 74, 75] (by decide +kernel) (by decide +kernel)
set_option maxRecDepth 20000 in
theorem gX12_letters_X12_fine : GoodIn wsX12_letters (wsV RX12 142 RX12 yX12_fine wsX12_fine) := goodIn_app (goodIn_of _ (by decide +kernel)) ggX12_letters_X12_fine
set_option maxRecDepth 20000 in
theorem ggX12_letters_X12_wrong : GoodIn wsX12_letters wsX12_wrong := goodIn_r _ [14, 10, 15, 16, 36, 37, 38, 39, 40, 41, 42, 43, 44, 45, 46, 47, 48, 49, 50, 51, 52, 53, 54, 55, 56, 57, 58, 59, 60, 61, 62, 63, 64, 65, 66, 67, 68, 69, 70, 71, 72, 73, 74, 75] (by decide +kernel) (by decide +kernel)
set_option maxRecDepth 20000 in
theorem gX12_letters_X12_wrong : GoodIn wsX12_letters (wsV RX12 149 RX12 yX12_wrong wsX12_wrong) := goodIn_app (goodIn_of _ (by decide +kernel)) ggX12_letters_X12_wrong
set_option maxRecDepth 20000 in
theorem ggX12_letters_X12_next : GoodIn wsX12_letters wsX12_next := goodIn_r _ [20, 21, 15, 3, 22, 2, 23, 1, 24, 25, 4, 26, 27, 28, 29, 30, 8, 31, 32, 33, 34, 35, 36, 37, 38, 39, 40, 41, 42, 43, 44, 45, 46, 47, 48, 49, 50, 51, 52, 53, 54, 55, 56, 57, 58, 59, 60, 61, 62, 63, 64, 65, 66, 67, 68, 69, 70, 71, 72, 73, 74, 75] (by decide +kernel) (by decide +kernel)
set_option maxRecDepth 20000 in
theorem gX12_letters_X12_next : GoodIn wsX12_letters (wsV RX12 146 RX12 yX12_next wsX12_next) := goodIn_app (goodIn_of _ (by decide +kernel)) ggX12_letters_X12_next
theorem dX12_letters_0 : decode cX12_letters 0 = .ok (.aload_n 0, 1) := by decide +kernel
theorem dX12_letters_1 : decode cX12_letters 1 = .ok (.invokevirtual 142, 3) := by decide +kernel
theorem dX12_letters_4 : decode cX12_letters 4 = .ok (.ifCond .ne 5, 3) := by decide +kernel
theorem dX12_letters_7 : decode cX12_letters 7 = .ok (.iconst 0, 1) := by decide +kernel
theorem dX12_letters_8 : decode cX12_letters 8 = .ok (.ireturn, 1) := by decide +kernel
theorem dX12_letters_9 : decode cX12_letters 9 = .ok (.iconst 0, 1) := by decide +kernel
theorem dX12_letters_10 : decode cX12_letters 10 = .ok (.istore_n 1, 1) := by decide +kernel
theorem dX12_letters_11 : decode cX12_letters 11 = .ok (.aload_n 0, 1) := by decide +kernel
theorem dX12_letters_12 : decode cX12_letters 12 = .ok (.getfield 123, 3) := by decide +kernel
theorem dX12_letters_15 : decode cX12_letters 15 = .ok (.sipush 300, 3) := by decide +kernel
theorem dX12_letters_18 : decode cX12_letters 18 = .ok (.if_icmp .ne 16, 3) := by decide +kernel
theorem dX12_letters_21 : decode cX12_letters 21 = .ok (.aload_n 0, 1) := by decide +kernel
theorem dX12_letters_22 : decode cX12_letters 22 = .ok (.getfield 120, 3) := by decide +kernel
theorem dX12_letters_25 : decode cX12_letters 25 = .ok (.bipush 7, 2) := by decide +kernel
theorem dX12_letters_27 : decode cX12_letters 27 = .ok (.if_icmp .gt 7, 3) := by decide +kernel
theorem dX12_letters_30 : decode cX12_letters 30 = .ok (.iconst 1, 1) := by decide +kernel
theorem dX12_letters_31 : decode cX12_letters 31 = .ok (.goto 4, 3) := by decide +kernel
theorem dX12_letters_34 : decode cX12_letters 34 = .ok (.iconst 0, 1) := by decide +kernel
theorem dX12_letters_35 : decode cX12_letters 35 = .ok (.istore_n 2, 1) := by decide +kernel
theorem dX12_letters_36 : decode cX12_letters 36 = .ok (.aload_n 0, 1) := by decide +kernel
theorem dX12_letters_37 : decode cX12_letters 37 = .ok (.getfield 113, 3) := by decide +kernel
theorem dX12_letters_40 : decode cX12_letters 40 = .ok (.lstore_n 3, 1) := by decide +kernel
theorem dX12_letters_41 : decode cX12_letters 41 = .ok (.lload_n 3, 1) := by decide +kernel
theorem dX12_letters_42 : decode cX12_letters 42 = .ok (.lconst 0, 1) := by decide +kernel
theorem dX12_letters_43 : decode cX12_letters 43 = .ok (.lcmp, 1) := by decide +kernel
theorem dX12_letters_44 : decode cX12_letters 44 = .ok (.ifCond .le 58, 3) := by decide +kernel
theorem dX12_letters_47 : decode cX12_letters 47 = .ok (.iload_n 2, 1) := by decide +kernel
theorem dX12_letters_48 : decode cX12_letters 48 = .ok (.ifCond .eq 54, 3) := by decide +kernel
theorem dX12_letters_51 : decode cX12_letters 51 = .ok (.lload_n 3, 1) := by decide +kernel
theorem dX12_letters_52 : decode cX12_letters 52 = .ok (.ldc2_w 130, 3) := by decide +kernel
theorem dX12_letters_55 : decode cX12_letters 55 = .ok (.lrem, 1) := by decide +kernel
theorem dX12_letters_56 : decode cX12_letters 56 = .ok (.l2i, 1) := by decide +kernel
theorem dX12_letters_57 : decode cX12_letters 57 = .ok (.istore 5, 2) := by decide +kernel
theorem dX12_letters_59 : decode cX12_letters 59 = .ok (.iload 5, 2) := by decide +kernel
theorem dX12_letters_61 : decode cX12_letters 61 = .ok (.ifCond .le 23, 3) := by decide +kernel
theorem dX12_letters_64 : decode cX12_letters 64 = .ok (.iload 5, 2) := by decide +kernel
theorem dX12_letters_66 : decode cX12_letters 66 = .ok (.bipush 8, 2) := by decide +kernel
theorem dX12_letters_68 : decode cX12_letters 68 = .ok (.if_icmp .ge 16, 3) := by decide +kernel
theorem dX12_letters_71 : decode cX12_letters 71 = .ok (.iload_n 1, 1) := by decide +kernel
theorem dX12_letters_72 : decode cX12_letters 72 = .ok (.iload 5, 2) := by decide +kernel
theorem dX12_letters_74 : decode cX12_letters 74 = .ok (.ishr, 1) := by decide +kernel
theorem dX12_letters_75 : decode cX12_letters 75 = .ok (.iconst 1, 1) := by decide +kernel
theorem dX12_letters_76 : decode cX12_letters 76 = .ok (.iand, 1) := by decide +kernel
theorem dX12_letters_77 : decode cX12_letters 77 = .ok (.ifCond .ne 7, 3) := by decide +kernel
theorem dX12_letters_80 : decode cX12_letters 80 = .ok (.iconst 1, 1) := by decide +kernel
theorem dX12_letters_81 : decode cX12_letters 81 = .ok (.goto 4, 3) := by decide +kernel
theorem dX12_letters_84 : decode cX12_letters 84 = .ok (.iconst 0, 1) := by decide +kernel
theorem dX12_letters_85 : decode cX12_letters 85 = .ok (.istore_n 2, 1) := by decide +kernel
theorem dX12_letters_86 : decode cX12_letters 86 = .ok (.iload_n 1, 1) := by decide +kernel
theorem dX12_letters_87 : decode cX12_letters 87 = .ok (.iconst 1, 1) := by decide +kernel
theorem dX12_letters_88 : decode cX12_letters 88 = .ok (.iload 5, 2) := by decide +kernel
theorem dX12_letters_90 : decode cX12_letters 90 = .ok (.ishl, 1) := by decide +kernel
theorem dX12_letters_91 : decode cX12_letters 91 = .ok (.ior, 1) := by decide +kernel
theorem dX12_letters_92 : decode cX12_letters 92 = .ok (.istore_n 1, 1) := by decide +kernel
theorem dX12_letters_93 : decode cX12_letters 93 = .ok (.lload_n 3, 1) := by decide +kernel
theorem dX12_letters_94 : decode cX12_letters 94 = .ok (.ldc2_w 130, 3) := by decide +kernel
theorem dX12_letters_97 : decode cX12_letters 97 = .ok (.ldiv, 1) := by decide +kernel
theorem dX12_letters_98 : decode cX12_letters 98 = .ok (.lstore_n 3, 1) := by decide +kernel
theorem dX12_letters_99 : decode cX12_letters 99 = .ok (.goto (-58), 3) := by decide +kernel
theorem dX12_letters_102 : decode cX12_letters 102 = .ok (.iload_n 2, 1) := by decide +kernel
theorem dX12_letters_103 : decode cX12_letters 103 = .ok (.ifCond .ne 10, 3) := by decide +kernel
theorem dX12_letters_106 : decode cX12_letters 106 = .ok (.aload_n 0, 1) := by decide +kernel
theorem dX12_letters_107 : decode cX12_letters 107 = .ok (.iconst 1, 1) := by decide +kernel
theorem dX12_letters_108 : decode cX12_letters 108 = .ok (.invokevirtual 149, 3) := by decide +kernel
theorem dX12_letters_111 : decode cX12_letters 111 = .ok (.iconst 0, 1) := by decide +kernel
theorem dX12_letters_112 : decode cX12_letters 112 = .ok (.ireturn, 1) := by decide +kernel
theorem dX12_letters_113 : decode cX12_letters 113 = .ok (.aload_n 0, 1) := by decide +kernel
theorem dX12_letters_114 : decode cX12_letters 114 = .ok (.invokevirtual 146, 3) := by decide +kernel
theorem dX12_letters_117 : decode cX12_letters 117 = .ok (.iload_n 1, 1) := by decide +kernel
theorem dX12_letters_118 : decode cX12_letters 118 = .ok (.ireturn, 1) := by decide +kernel
set_option maxRecDepth 20000 in
theorem ggX12_number_X12_fine : GoodIn wsX12_number wsX12_fine := goodIn_r _ [8, 9, 36, 37, 38, 39, 40, 41, 42, 43, 44, 45, 46, 47, 48, 49, 50, 51, 52, 53, 54, 55, 56, 57, 58, 59, 60, 61, 62, 63, 64, 65, 66, 67, 68, 69, 70, 71, 72, 73, 74, 75] (by decide +kernel) (by decide +kernel)
set_option maxRecDepth 20000 in
theorem gX12_number_X12_fine : GoodIn wsX12_number (wsV RX12 142 RX12 yX12_fine wsX12_fine) := goodIn_app (goodIn_of _ (by decide +kernel)) ggX12_number_X12_fine
set_option maxRecDepth 20000 in
theorem ggX12_number_X12_wrong : GoodIn wsX12_number wsX12_wrong := goodIn_r _ [13, 9, 14, 15, 36, 37, 38, 39, 40, 41, 42, 43, 44, 45, 46, 47, 48, 49, 50, 51, 52, 53, 54, 55, 56, 57, 58, 59, 60, 61, 62, 63, 64, 65, 66, 67, 68, 69, 70, 71, 72, 73, 74, 75] (by decide +kernel) (by decide +kernel)
set_option maxRecDepth 20000 in
theorem gX12_number_X12_wrong : GoodIn wsX12_number (wsV RX12 149 RX12 yX12_wrong wsX12_wrong) := goodIn_app (goodIn_of _ (by decide +kernel)) ggX12_number_X12_wrong
set_option maxRecDepth 20000 in
theorem ggX12_number_X12_in : GoodIn wsX12_number wsX12_in := goodIn_r _ [18] (by decide +kernel) (by decide +kernel)
set_option maxRecDepth 20000 in
theorem gX12_number_X12_in : GoodIn wsX12_number (va_wsS RX12 84 yX12_in wsX12_in) := goodIn_app (goodIn_of _ (by decide +kernel)) ggX12_number_X12_in
set_option maxRecDepth 20000 in
theorem ggX12_number_X12_next : GoodIn wsX12_number wsX12_next := goodIn_r _ [22, 23, 14, 24, 3, 2, 25, 1, 26, 27, 28, 29, 30, 31, 32, 33, 7, 34, 35, 16, 17, 18, 36, 37, 38, 39, 40, 41, 42, 43, 44, 45, 46, 47, 48, 49, 50, 51, 52, 53, 54, 55, 56, 57, 58, 59, 60, 61, 62, 63, 64, 65, 66, 67, 68, 69, 70, 71, 72, 73, 74, 75] (by decide +kernel) (by decide +kernel)
set_option maxRecDepth 20000 in
theorem gX12_number_X12_next : GoodIn wsX12_number (wsV RX12 146 RX12 yX12_next wsX12_next) := goodIn_app (goodIn_of _ (by decide +kernel)) ggX12_number_X12_next
theorem dX12_number_0 : decode cX12_number 0 = .ok (.aload_n 0, 1) := by decide +kernel
theorem dX12_number_1 : decode cX12_number 1 = .ok (.invokevirtual 142, 3) := by decide +kernel
theorem dX12_number_4 : decode cX12_number 4 = .ok (.ifCond .ne 5, 3) := by decide +kernel
theorem dX12_number_7 : decode cX12_number 7 = .ok (.iconst 0, 1) := by decide +kernel
theorem dX12_number_8 : decode cX12_number 8 = .ok (.ireturn, 1) := by decide +kernel
theorem dX12_number_9 : decode cX12_number 9 = .ok (.aload_n 0, 1) := by decide +kernel
theorem dX12_number_10 : decode cX12_number 10 = .ok (.getfield 123, 3) := by decide +kernel
theorem dX12_number_13 : decode cX12_number 13 = .ok (.sipush 301, 3) := by decide +kernel
theorem dX12_number_16 : decode cX12_number 16 = .ok (.if_icmp .eq 10, 3) := by decide +kernel
theorem dX12_number_19 : decode cX12_number 19 = .ok (.aload_n 0, 1) := by decide +kernel
theorem dX12_number_20 : decode cX12_number 20 = .ok (.iconst 1, 1) := by decide +kernel
theorem dX12_number_21 : decode cX12_number 21 = .ok (.invokevirtual 149, 3) := by decide +kernel
theorem dX12_number_24 : decode cX12_number 24 = .ok (.iconst 0, 1) := by decide +kernel
theorem dX12_number_25 : decode cX12_number 25 = .ok (.ireturn, 1) := by decide +kernel
theorem dX12_number_26 : decode cX12_number 26 = .ok (.aload_n 0, 1) := by decide +kernel
theorem dX12_number_27 : decode cX12_number 27 = .ok (.getfield 120, 3) := by decide +kernel
theorem dX12_number_30 : decode cX12_number 30 = .ok (.iconst 2, 1) := by decide +kernel
theorem dX12_number_31 : decode cX12_number 31 = .ok (.if_icmp .gt 18, 3) := by decide +kernel
theorem dX12_number_34 : decode cX12_number 34 = .ok (.aload_n 0, 1) := by decide +kernel
theorem dX12_number_35 : decode cX12_number 35 = .ok (.getfield 117, 3) := by decide +kernel
theorem dX12_number_38 : decode cX12_number 38 = .ok (.i2l, 1) := by decide +kernel
theorem dX12_number_39 : decode cX12_number 39 = .ok (.iload_n 1, 1) := by decide +kernel
theorem dX12_number_40 : decode cX12_number 40 = .ok (.i2l, 1) := by decide +kernel
theorem dX12_number_41 : decode cX12_number 41 = .ok (.iload_n 2, 1) := by decide +kernel
theorem dX12_number_42 : decode cX12_number 42 = .ok (.i2l, 1) := by decide +kernel
theorem dX12_number_43 : decode cX12_number 43 = .ok (.invokestatic 84, 3) := by decide +kernel
theorem dX12_number_46 : decode cX12_number 46 = .ok (.ifCond .ne 10, 3) := by decide +kernel
theorem dX12_number_49 : decode cX12_number 49 = .ok (.aload_n 0, 1) := by decide +kernel
theorem dX12_number_50 : decode cX12_number 50 = .ok (.iconst 2, 1) := by decide +kernel
theorem dX12_number_51 : decode cX12_number 51 = .ok (.invokevirtual 149, 3) := by decide +kernel
theorem dX12_number_54 : decode cX12_number 54 = .ok (.iconst 0, 1) := by decide +kernel
theorem dX12_number_55 : decode cX12_number 55 = .ok (.ireturn, 1) := by decide +kernel
theorem dX12_number_56 : decode cX12_number 56 = .ok (.aload_n 0, 1) := by decide +kernel
theorem dX12_number_57 : decode cX12_number 57 = .ok (.getfield 117, 3) := by decide +kernel
theorem dX12_number_60 : decode cX12_number 60 = .ok (.istore_n 3, 1) := by decide +kernel
theorem dX12_number_61 : decode cX12_number 61 = .ok (.aload_n 0, 1) := by decide +kernel
theorem dX12_number_62 : decode cX12_number 62 = .ok (.invokevirtual 146, 3) := by decide +kernel
theorem dX12_number_65 : decode cX12_number 65 = .ok (.iload_n 3, 1) := by decide +kernel
theorem dX12_number_66 : decode cX12_number 66 = .ok (.ireturn, 1) := by decide +kernel
set_option maxRecDepth 20000 in
theorem ggX12_stepBehind_X12_code : GoodIn wsX12_stepBehind wsX12_code := goodIn_r _ [4, 5, 6] (by decide +kernel) (by decide +kernel)
set_option maxRecDepth 20000 in
theorem gX12_stepBehind_X12_code : GoodIn wsX12_stepBehind (va_wsS RX12 152 yX12_code wsX12_code) := goodIn_app (goodIn_of _ (by decide +kernel)) ggX12_stepBehind_X12_code
theorem dX12_stepBehind_0 : decode cX12_stepBehind 0 = .ok (.lload_n 0, 1) := by decide +kernel
theorem dX12_stepBehind_1 : decode cX12_stepBehind 1 = .ok (.bipush 102, 2) := by decide +kernel
theorem dX12_stepBehind_3 : decode cX12_stepBehind 3 = .ok (.bipush 105, 2) := by decide +kernel
theorem dX12_stepBehind_5 : decode cX12_stepBehind 5 = .ok (.bipush 108, 2) := by decide +kernel
theorem dX12_stepBehind_7 : decode cX12_stepBehind 7 = .ok (.bipush 108, 2) := by decide +kernel
theorem dX12_stepBehind_9 : decode cX12_stepBehind 9 = .ok (.iconst 0, 1) := by decide +kernel
theorem dX12_stepBehind_10 : decode cX12_stepBehind 10 = .ok (.iconst 0, 1) := by decide +kernel
theorem dX12_stepBehind_11 : decode cX12_stepBehind 11 = .ok (.invokestatic 152, 3) := by decide +kernel
theorem dX12_stepBehind_14 : decode cX12_stepBehind 14 = .ok (.lcmp, 1) := by decide +kernel
theorem dX12_stepBehind_15 : decode cX12_stepBehind 15 = .ok (.ifCond .ne 8, 3) := by decide +kernel
theorem dX12_stepBehind_18 : decode cX12_stepBehind 18 = .ok (.bipush 7, 2) := by decide +kernel
theorem dX12_stepBehind_20 : decode cX12_stepBehind 20 = .ok (.goto 168, 3) := by decide +kernel
theorem dX12_stepBehind_23 : decode cX12_stepBehind 23 = .ok (.lload_n 0, 1) := by decide +kernel
theorem dX12_stepBehind_24 : decode cX12_stepBehind 24 = .ok (.bipush 102, 2) := by decide +kernel
theorem dX12_stepBehind_26 : decode cX12_stepBehind 26 = .ok (.bipush 108, 2) := by decide +kernel
theorem dX12_stepBehind_28 : decode cX12_stepBehind 28 = .ok (.bipush 97, 2) := by decide +kernel
theorem dX12_stepBehind_30 : decode cX12_stepBehind 30 = .ok (.bipush 116, 2) := by decide +kernel
theorem dX12_stepBehind_32 : decode cX12_stepBehind 32 = .ok (.iconst 0, 1) := by decide +kernel
theorem dX12_stepBehind_33 : decode cX12_stepBehind 33 = .ok (.iconst 0, 1) := by decide +kernel
theorem dX12_stepBehind_34 : decode cX12_stepBehind 34 = .ok (.invokestatic 152, 3) := by decide +kernel
theorem dX12_stepBehind_37 : decode cX12_stepBehind 37 = .ok (.lcmp, 1) := by decide +kernel
theorem dX12_stepBehind_38 : decode cX12_stepBehind 38 = .ok (.ifCond .ne 8, 3) := by decide +kernel
theorem dX12_stepBehind_41 : decode cX12_stepBehind 41 = .ok (.bipush 8, 2) := by decide +kernel
theorem dX12_stepBehind_43 : decode cX12_stepBehind 43 = .ok (.goto 145, 3) := by decide +kernel
theorem dX12_stepBehind_46 : decode cX12_stepBehind 46 = .ok (.lload_n 0, 1) := by decide +kernel
theorem dX12_stepBehind_47 : decode cX12_stepBehind 47 = .ok (.bipush 100, 2) := by decide +kernel
theorem dX12_stepBehind_49 : decode cX12_stepBehind 49 = .ok (.bipush 114, 2) := by decide +kernel
theorem dX12_stepBehind_51 : decode cX12_stepBehind 51 = .ok (.bipush 111, 2) := by decide +kernel
theorem dX12_stepBehind_53 : decode cX12_stepBehind 53 = .ok (.bipush 112, 2) := by decide +kernel
theorem dX12_stepBehind_55 : decode cX12_stepBehind 55 = .ok (.iconst 0, 1) := by decide +kernel
theorem dX12_stepBehind_56 : decode cX12_stepBehind 56 = .ok (.iconst 0, 1) := by decide +kernel
theorem dX12_stepBehind_57 : decode cX12_stepBehind 57 = .ok (.invokestatic 152, 3) := by decide +kernel
theorem dX12_stepBehind_60 : decode cX12_stepBehind 60 = .ok (.lcmp, 1) := by decide +kernel
theorem dX12_stepBehind_61 : decode cX12_stepBehind 61 = .ok (.ifCond .ne 8, 3) := by decide +kernel
theorem dX12_stepBehind_64 : decode cX12_stepBehind 64 = .ok (.bipush 9, 2) := by decide +kernel
theorem dX12_stepBehind_66 : decode cX12_stepBehind 66 = .ok (.goto 122, 3) := by decide +kernel
theorem dX12_stepBehind_69 : decode cX12_stepBehind 69 = .ok (.lload_n 0, 1) := by decide +kernel
theorem dX12_stepBehind_70 : decode cX12_stepBehind 70 = .ok (.bipush 109, 2) := by decide +kernel
theorem dX12_stepBehind_72 : decode cX12_stepBehind 72 = .ok (.bipush 97, 2) := by decide +kernel
theorem dX12_stepBehind_74 : decode cX12_stepBehind 74 = .ok (.bipush 115, 2) := by decide +kernel
theorem dX12_stepBehind_76 : decode cX12_stepBehind 76 = .ok (.bipush 107, 2) := by decide +kernel
theorem dX12_stepBehind_78 : decode cX12_stepBehind 78 = .ok (.iconst 0, 1) := by decide +kernel
theorem dX12_stepBehind_79 : decode cX12_stepBehind 79 = .ok (.iconst 0, 1) := by decide +kernel
theorem dX12_stepBehind_80 : decode cX12_stepBehind 80 = .ok (.invokestatic 152, 3) := by decide +kernel
theorem dX12_stepBehind_83 : decode cX12_stepBehind 83 = .ok (.lcmp, 1) := by decide +kernel
theorem dX12_stepBehind_84 : decode cX12_stepBehind 84 = .ok (.ifCond .ne 8, 3) := by decide +kernel
theorem dX12_stepBehind_87 : decode cX12_stepBehind 87 = .ok (.bipush 10, 2) := by decide +kernel
theorem dX12_stepBehind_89 : decode cX12_stepBehind 89 = .ok (.goto 99, 3) := by decide +kernel
theorem dX12_stepBehind_92 : decode cX12_stepBehind 92 = .ok (.lload_n 0, 1) := by decide +kernel
theorem dX12_stepBehind_93 : decode cX12_stepBehind 93 = .ok (.bipush 98, 2) := by decide +kernel
theorem dX12_stepBehind_95 : decode cX12_stepBehind 95 = .ok (.bipush 97, 2) := by decide +kernel
theorem dX12_stepBehind_97 : decode cX12_stepBehind 97 = .ok (.bipush 114, 2) := by decide +kernel
theorem dX12_stepBehind_99 : decode cX12_stepBehind 99 = .ok (.bipush 101, 2) := by decide +kernel
theorem dX12_stepBehind_101 : decode cX12_stepBehind 101 = .ok (.iconst 0, 1) := by decide +kernel
theorem dX12_stepBehind_102 : decode cX12_stepBehind 102 = .ok (.iconst 0, 1) := by decide +kernel
theorem dX12_stepBehind_103 : decode cX12_stepBehind 103 = .ok (.invokestatic 152, 3) := by decide +kernel
theorem dX12_stepBehind_106 : decode cX12_stepBehind 106 = .ok (.lcmp, 1) := by decide +kernel
theorem dX12_stepBehind_107 : decode cX12_stepBehind 107 = .ok (.ifCond .ne 8, 3) := by decide +kernel
theorem dX12_stepBehind_110 : decode cX12_stepBehind 110 = .ok (.bipush 11, 2) := by decide +kernel
theorem dX12_stepBehind_112 : decode cX12_stepBehind 112 = .ok (.goto 76, 3) := by decide +kernel
theorem dX12_stepBehind_115 : decode cX12_stepBehind 115 = .ok (.lload_n 0, 1) := by decide +kernel
theorem dX12_stepBehind_116 : decode cX12_stepBehind 116 = .ok (.bipush 119, 2) := by decide +kernel
theorem dX12_stepBehind_118 : decode cX12_stepBehind 118 = .ok (.bipush 97, 2) := by decide +kernel
theorem dX12_stepBehind_120 : decode cX12_stepBehind 120 = .ok (.bipush 110, 2) := by decide +kernel
theorem dX12_stepBehind_122 : decode cX12_stepBehind 122 = .ok (.bipush 116, 2) := by decide +kernel
theorem dX12_stepBehind_124 : decode cX12_stepBehind 124 = .ok (.iconst 0, 1) := by decide +kernel
theorem dX12_stepBehind_125 : decode cX12_stepBehind 125 = .ok (.iconst 0, 1) := by decide +kernel
theorem dX12_stepBehind_126 : decode cX12_stepBehind 126 = .ok (.invokestatic 152, 3) := by decide +kernel
theorem dX12_stepBehind_129 : decode cX12_stepBehind 129 = .ok (.lcmp, 1) := by decide +kernel
theorem dX12_stepBehind_130 : decode cX12_stepBehind 130 = .ok (.ifCond .ne 8, 3) := by decide +kernel
theorem dX12_stepBehind_133 : decode cX12_stepBehind 133 = .ok (.bipush 12, 2) := by decide +kernel
theorem dX12_stepBehind_135 : decode cX12_stepBehind 135 = .ok (.goto 53, 3) := by decide +kernel
theorem dX12_stepBehind_138 : decode cX12_stepBehind 138 = .ok (.lload_n 0, 1) := by decide +kernel
theorem dX12_stepBehind_139 : decode cX12_stepBehind 139 = .ok (.bipush 119, 2) := by decide +kernel
theorem dX12_stepBehind_141 : decode cX12_stepBehind 141 = .ok (.bipush 104, 2) := by decide +kernel
theorem dX12_stepBehind_143 : decode cX12_stepBehind 143 = .ok (.bipush 111, 2) := by decide +kernel
theorem dX12_stepBehind_145 : decode cX12_stepBehind 145 = .ok (.bipush 108, 2) := by decide +kernel
theorem dX12_stepBehind_147 : decode cX12_stepBehind 147 = .ok (.bipush 101, 2) := by decide +kernel
theorem dX12_stepBehind_149 : decode cX12_stepBehind 149 = .ok (.iconst 0, 1) := by decide +kernel
theorem dX12_stepBehind_150 : decode cX12_stepBehind 150 = .ok (.invokestatic 152, 3) := by decide +kernel
theorem dX12_stepBehind_153 : decode cX12_stepBehind 153 = .ok (.lcmp, 1) := by decide +kernel
theorem dX12_stepBehind_154 : decode cX12_stepBehind 154 = .ok (.ifCond .ne 8, 3) := by decide +kernel
theorem dX12_stepBehind_157 : decode cX12_stepBehind 157 = .ok (.bipush 13, 2) := by decide +kernel
theorem dX12_stepBehind_159 : decode cX12_stepBehind 159 = .ok (.goto 29, 3) := by decide +kernel
theorem dX12_stepBehind_162 : decode cX12_stepBehind 162 = .ok (.lload_n 0, 1) := by decide +kernel
theorem dX12_stepBehind_163 : decode cX12_stepBehind 163 = .ok (.bipush 114, 2) := by decide +kernel
theorem dX12_stepBehind_165 : decode cX12_stepBehind 165 = .ok (.bipush 101, 2) := by decide +kernel
theorem dX12_stepBehind_167 : decode cX12_stepBehind 167 = .ok (.bipush 112, 2) := by decide +kernel
theorem dX12_stepBehind_169 : decode cX12_stepBehind 169 = .ok (.bipush 101, 2) := by decide +kernel
theorem dX12_stepBehind_171 : decode cX12_stepBehind 171 = .ok (.bipush 97, 2) := by decide +kernel
theorem dX12_stepBehind_173 : decode cX12_stepBehind 173 = .ok (.bipush 116, 2) := by decide +kernel
theorem dX12_stepBehind_175 : decode cX12_stepBehind 175 = .ok (.invokestatic 152, 3) := by decide +kernel
theorem dX12_stepBehind_178 : decode cX12_stepBehind 178 = .ok (.lcmp, 1) := by decide +kernel
theorem dX12_stepBehind_179 : decode cX12_stepBehind 179 = .ok (.ifCond .ne 8, 3) := by decide +kernel
theorem dX12_stepBehind_182 : decode cX12_stepBehind 182 = .ok (.bipush 14, 2) := by decide +kernel
theorem dX12_stepBehind_184 : decode cX12_stepBehind 184 = .ok (.goto 4, 3) := by decide +kernel
theorem dX12_stepBehind_187 : decode cX12_stepBehind 187 = .ok (.iconst 0, 1) := by decide +kernel
theorem dX12_stepBehind_188 : decode cX12_stepBehind 188 = .ok (.ireturn, 1) := by decide +kernel
theorem dX12_code_0 : decode cX12_code 0 = .ok (.ldc2_w 130, 3) := by decide +kernel
theorem dX12_code_3 : decode cX12_code 3 = .ok (.ldc2_w 130, 3) := by decide +kernel
theorem dX12_code_6 : decode cX12_code 6 = .ok (.ldc2_w 130, 3) := by decide +kernel
theorem dX12_code_9 : decode cX12_code 9 = .ok (.iload_n 0, 1) := by decide +kernel
theorem dX12_code_10 : decode cX12_code 10 = .ok (.bipush 96, 2) := by decide +kernel
theorem dX12_code_12 : decode cX12_code 12 = .ok (.isub, 1) := by decide +kernel
theorem dX12_code_13 : decode cX12_code 13 = .ok (.i2l, 1) := by decide +kernel
theorem dX12_code_14 : decode cX12_code 14 = .ok (.lmul, 1) := by decide +kernel
theorem dX12_code_15 : decode cX12_code 15 = .ok (.iload_n 1, 1) := by decide +kernel
theorem dX12_code_16 : decode cX12_code 16 = .ok (.i2l, 1) := by decide +kernel
theorem dX12_code_17 : decode cX12_code 17 = .ok (.ladd, 1) := by decide +kernel
theorem dX12_code_18 : decode cX12_code 18 = .ok (.ldc2_w 156, 3) := by decide +kernel
theorem dX12_code_21 : decode cX12_code 21 = .ok (.lsub, 1) := by decide +kernel
theorem dX12_code_22 : decode cX12_code 22 = .ok (.lmul, 1) := by decide +kernel
theorem dX12_code_23 : decode cX12_code 23 = .ok (.iload_n 2, 1) := by decide +kernel
theorem dX12_code_24 : decode cX12_code 24 = .ok (.i2l, 1) := by decide +kernel
theorem dX12_code_25 : decode cX12_code 25 = .ok (.ladd, 1) := by decide +kernel
theorem dX12_code_26 : decode cX12_code 26 = .ok (.ldc2_w 156, 3) := by decide +kernel
theorem dX12_code_29 : decode cX12_code 29 = .ok (.lsub, 1) := by decide +kernel
theorem dX12_code_30 : decode cX12_code 30 = .ok (.lmul, 1) := by decide +kernel
theorem dX12_code_31 : decode cX12_code 31 = .ok (.iload_n 3, 1) := by decide +kernel
theorem dX12_code_32 : decode cX12_code 32 = .ok (.i2l, 1) := by decide +kernel
theorem dX12_code_33 : decode cX12_code 33 = .ok (.ladd, 1) := by decide +kernel
theorem dX12_code_34 : decode cX12_code 34 = .ok (.ldc2_w 156, 3) := by decide +kernel
theorem dX12_code_37 : decode cX12_code 37 = .ok (.lsub, 1) := by decide +kernel
theorem dX12_code_38 : decode cX12_code 38 = .ok (.lstore 6, 2) := by decide +kernel
theorem dX12_code_40 : decode cX12_code 40 = .ok (.iload 4, 2) := by decide +kernel
theorem dX12_code_42 : decode cX12_code 42 = .ok (.ifCond .le 20, 3) := by decide +kernel
theorem dX12_code_45 : decode cX12_code 45 = .ok (.ldc2_w 130, 3) := by decide +kernel
theorem dX12_code_48 : decode cX12_code 48 = .ok (.lload 6, 2) := by decide +kernel
theorem dX12_code_50 : decode cX12_code 50 = .ok (.lmul, 1) := by decide +kernel
theorem dX12_code_51 : decode cX12_code 51 = .ok (.iload 4, 2) := by decide +kernel
theorem dX12_code_53 : decode cX12_code 53 = .ok (.i2l, 1) := by decide +kernel
theorem dX12_code_54 : decode cX12_code 54 = .ok (.ladd, 1) := by decide +kernel
theorem dX12_code_55 : decode cX12_code 55 = .ok (.ldc2_w 156, 3) := by decide +kernel
theorem dX12_code_58 : decode cX12_code 58 = .ok (.lsub, 1) := by decide +kernel
theorem dX12_code_59 : decode cX12_code 59 = .ok (.goto 5, 3) := by decide +kernel
theorem dX12_code_62 : decode cX12_code 62 = .ok (.lload 6, 2) := by decide +kernel
theorem dX12_code_64 : decode cX12_code 64 = .ok (.lstore 6, 2) := by decide +kernel
theorem dX12_code_66 : decode cX12_code 66 = .ok (.iload 5, 2) := by decide +kernel
theorem dX12_code_68 : decode cX12_code 68 = .ok (.ifCond .le 20, 3) := by decide +kernel
theorem dX12_code_71 : decode cX12_code 71 = .ok (.ldc2_w 130, 3) := by decide +kernel
theorem dX12_code_74 : decode cX12_code 74 = .ok (.lload 6, 2) := by decide +kernel
theorem dX12_code_76 : decode cX12_code 76 = .ok (.lmul, 1) := by decide +kernel
theorem dX12_code_77 : decode cX12_code 77 = .ok (.iload 5, 2) := by decide +kernel
theorem dX12_code_79 : decode cX12_code 79 = .ok (.i2l, 1) := by decide +kernel
theorem dX12_code_80 : decode cX12_code 80 = .ok (.ladd, 1) := by decide +kernel
theorem dX12_code_81 : decode cX12_code 81 = .ok (.ldc2_w 156, 3) := by decide +kernel
theorem dX12_code_84 : decode cX12_code 84 = .ok (.lsub, 1) := by decide +kernel
theorem dX12_code_85 : decode cX12_code 85 = .ok (.goto 5, 3) := by decide +kernel
theorem dX12_code_88 : decode cX12_code 88 = .ok (.lload 6, 2) := by decide +kernel
theorem dX12_code_90 : decode cX12_code 90 = .ok (.lreturn, 1) := by decide +kernel
theorem dX12_three_0 : decode cX12_three 0 = .ok (.ldc2_w 130, 3) := by decide +kernel
theorem dX12_three_3 : decode cX12_three 3 = .ok (.ldc2_w 130, 3) := by decide +kernel
theorem dX12_three_6 : decode cX12_three 6 = .ok (.iload_n 0, 1) := by decide +kernel
theorem dX12_three_7 : decode cX12_three 7 = .ok (.bipush 96, 2) := by decide +kernel
theorem dX12_three_9 : decode cX12_three 9 = .ok (.isub, 1) := by decide +kernel
theorem dX12_three_10 : decode cX12_three 10 = .ok (.i2l, 1) := by decide +kernel
theorem dX12_three_11 : decode cX12_three 11 = .ok (.lmul, 1) := by decide +kernel
theorem dX12_three_12 : decode cX12_three 12 = .ok (.iload_n 1, 1) := by decide +kernel
theorem dX12_three_13 : decode cX12_three 13 = .ok (.i2l, 1) := by decide +kernel
theorem dX12_three_14 : decode cX12_three 14 = .ok (.ladd, 1) := by decide +kernel
theorem dX12_three_15 : decode cX12_three 15 = .ok (.ldc2_w 156, 3) := by decide +kernel
theorem dX12_three_18 : decode cX12_three 18 = .ok (.lsub, 1) := by decide +kernel
theorem dX12_three_19 : decode cX12_three 19 = .ok (.lmul, 1) := by decide +kernel
theorem dX12_three_20 : decode cX12_three 20 = .ok (.iload_n 2, 1) := by decide +kernel
theorem dX12_three_21 : decode cX12_three 21 = .ok (.i2l, 1) := by decide +kernel
theorem dX12_three_22 : decode cX12_three 22 = .ok (.ladd, 1) := by decide +kernel
theorem dX12_three_23 : decode cX12_three 23 = .ok (.ldc2_w 156, 3) := by decide +kernel
theorem dX12_three_26 : decode cX12_three 26 = .ok (.lsub, 1) := by decide +kernel
theorem dX12_three_27 : decode cX12_three 27 = .ok (.lreturn, 1) := by decide +kernel
set_option maxRecDepth 20000 in
theorem ggX12_kindOf_X12_three : GoodIn wsX12_kindOf wsX12_three := goodIn_r _ [4, 5, 6] (by decide +kernel) (by decide +kernel)
set_option maxRecDepth 20000 in
theorem gX12_kindOf_X12_three : GoodIn wsX12_kindOf (va_wsS RX12 158 yX12_three wsX12_three) := goodIn_app (goodIn_of _ (by decide +kernel)) ggX12_kindOf_X12_three
set_option maxRecDepth 20000 in
theorem ggX12_kindOf_X12_code : GoodIn wsX12_kindOf wsX12_code := goodIn_r _ [9, 5, 6] (by decide +kernel) (by decide +kernel)
set_option maxRecDepth 20000 in
theorem gX12_kindOf_X12_code : GoodIn wsX12_kindOf (va_wsS RX12 152 yX12_code wsX12_code) := goodIn_app (goodIn_of _ (by decide +kernel)) ggX12_kindOf_X12_code
set_option maxRecDepth 20000 in
theorem ggX12_kindOf_X12_stepBehind : GoodIn wsX12_kindOf wsX12_stepBehind := goodIn_r _ [12, 7, 8, 3, 9, 5, 6] (by decide +kernel) (by decide +kernel)
set_option maxRecDepth 20000 in
theorem gX12_kindOf_X12_stepBehind : GoodIn wsX12_kindOf (va_wsS RX12 162 yX12_stepBehind wsX12_stepBehind) := goodIn_app (goodIn_of _ (by decide +kernel)) ggX12_kindOf_X12_stepBehind
theorem dX12_kindOf_0 : decode cX12_kindOf 0 = .ok (.iload_n 2, 1) := by decide +kernel
theorem dX12_kindOf_1 : decode cX12_kindOf 1 = .ok (.bipush 6, 2) := by decide +kernel
theorem dX12_kindOf_3 : decode cX12_kindOf 3 = .ok (.if_icmp .le 5, 3) := by decide +kernel
theorem dX12_kindOf_6 : decode cX12_kindOf 6 = .ok (.iconst 0, 1) := by decide +kernel
theorem dX12_kindOf_7 : decode cX12_kindOf 7 = .ok (.ireturn, 1) := by decide +kernel
theorem dX12_kindOf_8 : decode cX12_kindOf 8 = .ok (.lload_n 0, 1) := by decide +kernel
theorem dX12_kindOf_9 : decode cX12_kindOf 9 = .ok (.bipush 108, 2) := by decide +kernel
theorem dX12_kindOf_11 : decode cX12_kindOf 11 = .ok (.bipush 97, 2) := by decide +kernel
theorem dX12_kindOf_13 : decode cX12_kindOf 13 = .ok (.bipush 121, 2) := by decide +kernel
theorem dX12_kindOf_15 : decode cX12_kindOf 15 = .ok (.invokestatic 158, 3) := by decide +kernel
theorem dX12_kindOf_18 : decode cX12_kindOf 18 = .ok (.lcmp, 1) := by decide +kernel
theorem dX12_kindOf_19 : decode cX12_kindOf 19 = .ok (.ifCond .ne 7, 3) := by decide +kernel
theorem dX12_kindOf_22 : decode cX12_kindOf 22 = .ok (.iconst 1, 1) := by decide +kernel
theorem dX12_kindOf_23 : decode cX12_kindOf 23 = .ok (.goto 114, 3) := by decide +kernel
theorem dX12_kindOf_26 : decode cX12_kindOf 26 = .ok (.lload_n 0, 1) := by decide +kernel
theorem dX12_kindOf_27 : decode cX12_kindOf 27 = .ok (.bipush 99, 2) := by decide +kernel
theorem dX12_kindOf_29 : decode cX12_kindOf 29 = .ok (.bipush 117, 2) := by decide +kernel
theorem dX12_kindOf_31 : decode cX12_kindOf 31 = .ok (.bipush 116, 2) := by decide +kernel
theorem dX12_kindOf_33 : decode cX12_kindOf 33 = .ok (.invokestatic 158, 3) := by decide +kernel
theorem dX12_kindOf_36 : decode cX12_kindOf 36 = .ok (.lcmp, 1) := by decide +kernel
theorem dX12_kindOf_37 : decode cX12_kindOf 37 = .ok (.ifCond .ne 7, 3) := by decide +kernel
theorem dX12_kindOf_40 : decode cX12_kindOf 40 = .ok (.iconst 2, 1) := by decide +kernel
theorem dX12_kindOf_41 : decode cX12_kindOf 41 = .ok (.goto 96, 3) := by decide +kernel
theorem dX12_kindOf_44 : decode cX12_kindOf 44 = .ok (.lload_n 0, 1) := by decide +kernel
theorem dX12_kindOf_45 : decode cX12_kindOf 45 = .ok (.bipush 100, 2) := by decide +kernel
theorem dX12_kindOf_47 : decode cX12_kindOf 47 = .ok (.bipush 111, 2) := by decide +kernel
theorem dX12_kindOf_49 : decode cX12_kindOf 49 = .ok (.bipush 112, 2) := by decide +kernel
theorem dX12_kindOf_51 : decode cX12_kindOf 51 = .ok (.bipush 101, 2) := by decide +kernel
theorem dX12_kindOf_53 : decode cX12_kindOf 53 = .ok (.iconst 0, 1) := by decide +kernel
theorem dX12_kindOf_54 : decode cX12_kindOf 54 = .ok (.iconst 0, 1) := by decide +kernel
theorem dX12_kindOf_55 : decode cX12_kindOf 55 = .ok (.invokestatic 152, 3) := by decide +kernel
theorem dX12_kindOf_58 : decode cX12_kindOf 58 = .ok (.lcmp, 1) := by decide +kernel
theorem dX12_kindOf_59 : decode cX12_kindOf 59 = .ok (.ifCond .ne 7, 3) := by decide +kernel
theorem dX12_kindOf_62 : decode cX12_kindOf 62 = .ok (.iconst 3, 1) := by decide +kernel
theorem dX12_kindOf_63 : decode cX12_kindOf 63 = .ok (.goto 74, 3) := by decide +kernel
theorem dX12_kindOf_66 : decode cX12_kindOf 66 = .ok (.lload_n 0, 1) := by decide +kernel
theorem dX12_kindOf_67 : decode cX12_kindOf 67 = .ok (.bipush 99, 2) := by decide +kernel
theorem dX12_kindOf_69 : decode cX12_kindOf 69 = .ok (.bipush 111, 2) := by decide +kernel
theorem dX12_kindOf_71 : decode cX12_kindOf 71 = .ok (.bipush 97, 2) := by decide +kernel
theorem dX12_kindOf_73 : decode cX12_kindOf 73 = .ok (.bipush 116, 2) := by decide +kernel
theorem dX12_kindOf_75 : decode cX12_kindOf 75 = .ok (.iconst 0, 1) := by decide +kernel
theorem dX12_kindOf_76 : decode cX12_kindOf 76 = .ok (.iconst 0, 1) := by decide +kernel
theorem dX12_kindOf_77 : decode cX12_kindOf 77 = .ok (.invokestatic 152, 3) := by decide +kernel
theorem dX12_kindOf_80 : decode cX12_kindOf 80 = .ok (.lcmp, 1) := by decide +kernel
theorem dX12_kindOf_81 : decode cX12_kindOf 81 = .ok (.ifCond .ne 7, 3) := by decide +kernel
theorem dX12_kindOf_84 : decode cX12_kindOf 84 = .ok (.iconst 4, 1) := by decide +kernel
theorem dX12_kindOf_85 : decode cX12_kindOf 85 = .ok (.goto 52, 3) := by decide +kernel
theorem dX12_kindOf_88 : decode cX12_kindOf 88 = .ok (.lload_n 0, 1) := by decide +kernel
theorem dX12_kindOf_89 : decode cX12_kindOf 89 = .ok (.bipush 101, 2) := by decide +kernel
theorem dX12_kindOf_91 : decode cX12_kindOf 91 = .ok (.bipush 116, 2) := by decide +kernel
theorem dX12_kindOf_93 : decode cX12_kindOf 93 = .ok (.bipush 99, 2) := by decide +kernel
theorem dX12_kindOf_95 : decode cX12_kindOf 95 = .ok (.bipush 104, 2) := by decide +kernel
theorem dX12_kindOf_97 : decode cX12_kindOf 97 = .ok (.iconst 0, 1) := by decide +kernel
theorem dX12_kindOf_98 : decode cX12_kindOf 98 = .ok (.iconst 0, 1) := by decide +kernel
theorem dX12_kindOf_99 : decode cX12_kindOf 99 = .ok (.invokestatic 152, 3) := by decide +kernel
theorem dX12_kindOf_102 : decode cX12_kindOf 102 = .ok (.lcmp, 1) := by decide +kernel
theorem dX12_kindOf_103 : decode cX12_kindOf 103 = .ok (.ifCond .ne 7, 3) := by decide +kernel
theorem dX12_kindOf_106 : decode cX12_kindOf 106 = .ok (.iconst 5, 1) := by decide +kernel
theorem dX12_kindOf_107 : decode cX12_kindOf 107 = .ok (.goto 30, 3) := by decide +kernel
theorem dX12_kindOf_110 : decode cX12_kindOf 110 = .ok (.lload_n 0, 1) := by decide +kernel
theorem dX12_kindOf_111 : decode cX12_kindOf 111 = .ok (.bipush 116, 2) := by decide +kernel
theorem dX12_kindOf_113 : decode cX12_kindOf 113 = .ok (.bipush 117, 2) := by decide +kernel
theorem dX12_kindOf_115 : decode cX12_kindOf 115 = .ok (.bipush 114, 2) := by decide +kernel
theorem dX12_kindOf_117 : decode cX12_kindOf 117 = .ok (.bipush 110, 2) := by decide +kernel
theorem dX12_kindOf_119 : decode cX12_kindOf 119 = .ok (.iconst 0, 1) := by decide +kernel
theorem dX12_kindOf_120 : decode cX12_kindOf 120 = .ok (.iconst 0, 1) := by decide +kernel
theorem dX12_kindOf_121 : decode cX12_kindOf 121 = .ok (.invokestatic 152, 3) := by decide +kernel
theorem dX12_kindOf_124 : decode cX12_kindOf 124 = .ok (.lcmp, 1) := by decide +kernel
theorem dX12_kindOf_125 : decode cX12_kindOf 125 = .ok (.ifCond .ne 8, 3) := by decide +kernel
theorem dX12_kindOf_128 : decode cX12_kindOf 128 = .ok (.bipush 6, 2) := by decide +kernel
theorem dX12_kindOf_130 : decode cX12_kindOf 130 = .ok (.goto 7, 3) := by decide +kernel
theorem dX12_kindOf_133 : decode cX12_kindOf 133 = .ok (.lload_n 0, 1) := by decide +kernel
theorem dX12_kindOf_134 : decode cX12_kindOf 134 = .ok (.invokestatic 162, 3) := by decide +kernel
theorem dX12_kindOf_137 : decode cX12_kindOf 137 = .ok (.ireturn, 1) := by decide +kernel
theorem dX12_put_0 : decode cX12_put 0 = .ok (.aload_n 0, 1) := by decide +kernel
theorem dX12_put_1 : decode cX12_put 1 = .ok (.getfield 21, 3) := by decide +kernel
theorem dX12_put_4 : decode cX12_put 4 = .ok (.aload_n 0, 1) := by decide +kernel
theorem dX12_put_5 : decode cX12_put 5 = .ok (.getfield 166, 3) := by decide +kernel
theorem dX12_put_8 : decode cX12_put 8 = .ok (.iload_n 1, 1) := by decide +kernel
theorem dX12_put_9 : decode cX12_put 9 = .ok (.iastore, 1) := by decide +kernel
theorem dX12_put_10 : decode cX12_put 10 = .ok (.aload_n 0, 1) := by decide +kernel
theorem dX12_put_11 : decode cX12_put 11 = .ok (.getfield 24, 3) := by decide +kernel
theorem dX12_put_14 : decode cX12_put 14 = .ok (.aload_n 0, 1) := by decide +kernel
theorem dX12_put_15 : decode cX12_put 15 = .ok (.getfield 166, 3) := by decide +kernel
theorem dX12_put_18 : decode cX12_put 18 = .ok (.iconst 0, 1) := by decide +kernel
theorem dX12_put_19 : decode cX12_put 19 = .ok (.iastore, 1) := by decide +kernel
theorem dX12_put_20 : decode cX12_put 20 = .ok (.aload_n 0, 1) := by decide +kernel
theorem dX12_put_21 : decode cX12_put 21 = .ok (.getfield 27, 3) := by decide +kernel
theorem dX12_put_24 : decode cX12_put 24 = .ok (.aload_n 0, 1) := by decide +kernel
theorem dX12_put_25 : decode cX12_put 25 = .ok (.getfield 166, 3) := by decide +kernel
theorem dX12_put_28 : decode cX12_put 28 = .ok (.iconst 0, 1) := by decide +kernel
theorem dX12_put_29 : decode cX12_put 29 = .ok (.iastore, 1) := by decide +kernel
theorem dX12_put_30 : decode cX12_put 30 = .ok (.aload_n 0, 1) := by decide +kernel
theorem dX12_put_31 : decode cX12_put 31 = .ok (.getfield 30, 3) := by decide +kernel
theorem dX12_put_34 : decode cX12_put 34 = .ok (.aload_n 0, 1) := by decide +kernel
theorem dX12_put_35 : decode cX12_put 35 = .ok (.getfield 166, 3) := by decide +kernel
theorem dX12_put_38 : decode cX12_put 38 = .ok (.iconst 0, 1) := by decide +kernel
theorem dX12_put_39 : decode cX12_put 39 = .ok (.iastore, 1) := by decide +kernel
theorem dX12_put_40 : decode cX12_put 40 = .ok (.aload_n 0, 1) := by decide +kernel
theorem dX12_put_41 : decode cX12_put 41 = .ok (.getfield 33, 3) := by decide +kernel
theorem dX12_put_44 : decode cX12_put 44 = .ok (.aload_n 0, 1) := by decide +kernel
theorem dX12_put_45 : decode cX12_put 45 = .ok (.getfield 166, 3) := by decide +kernel
theorem dX12_put_48 : decode cX12_put 48 = .ok (.iconst 0, 1) := by decide +kernel
theorem dX12_put_49 : decode cX12_put 49 = .ok (.iastore, 1) := by decide +kernel
theorem dX12_put_50 : decode cX12_put 50 = .ok (.aload_n 0, 1) := by decide +kernel
theorem dX12_put_51 : decode cX12_put 51 = .ok (.getfield 36, 3) := by decide +kernel
theorem dX12_put_54 : decode cX12_put 54 = .ok (.aload_n 0, 1) := by decide +kernel
theorem dX12_put_55 : decode cX12_put 55 = .ok (.getfield 166, 3) := by decide +kernel
theorem dX12_put_58 : decode cX12_put 58 = .ok (.iload_n 2, 1) := by decide +kernel
theorem dX12_put_59 : decode cX12_put 59 = .ok (.iastore, 1) := by decide +kernel
theorem dX12_put_60 : decode cX12_put 60 = .ok (.aload_n 0, 1) := by decide +kernel
theorem dX12_put_61 : decode cX12_put 61 = .ok (.getfield 39, 3) := by decide +kernel
theorem dX12_put_64 : decode cX12_put 64 = .ok (.aload_n 0, 1) := by decide +kernel
theorem dX12_put_65 : decode cX12_put 65 = .ok (.getfield 166, 3) := by decide +kernel
theorem dX12_put_68 : decode cX12_put 68 = .ok (.iconst 0, 1) := by decide +kernel
theorem dX12_put_69 : decode cX12_put 69 = .ok (.iastore, 1) := by decide +kernel
theorem dX12_put_70 : decode cX12_put 70 = .ok (.aload_n 0, 1) := by decide +kernel
theorem dX12_put_71 : decode cX12_put 71 = .ok (.dup, 1) := by decide +kernel
theorem dX12_put_72 : decode cX12_put 72 = .ok (.getfield 166, 3) := by decide +kernel
theorem dX12_put_75 : decode cX12_put 75 = .ok (.iconst 1, 1) := by decide +kernel
theorem dX12_put_76 : decode cX12_put 76 = .ok (.iadd, 1) := by decide +kernel
theorem dX12_put_77 : decode cX12_put 77 = .ok (.putfield 166, 3) := by decide +kernel
theorem dX12_put_80 : decode cX12_put 80 = .ok (.aload_n 0, 1) := by decide +kernel
theorem dX12_put_81 : decode cX12_put 81 = .ok (.getfield 166, 3) := by decide +kernel
theorem dX12_put_84 : decode cX12_put 84 = .ok (.iconst 1, 1) := by decide +kernel
theorem dX12_put_85 : decode cX12_put 85 = .ok (.isub, 1) := by decide +kernel
theorem dX12_put_86 : decode cX12_put 86 = .ok (.ireturn, 1) := by decide +kernel
set_option maxRecDepth 20000 in
theorem ggX12_relation_X12_fine : GoodIn wsX12_relation wsX12_fine := goodIn_r _ [6, 7, 36, 37, 38, 39, 40, 41, 42, 43, 44, 45, 46, 47, 48, 49, 50, 51, 52, 53, 54, 55, 56, 57, 58, 59, 60, 61, 62, 63, 64, 65, 66, 67, 68, 69, 70, 71, 72, 73, 74, 75] (by decide +kernel) (by decide +kernel)
set_option maxRecDepth 20000 in
theorem gX12_relation_X12_fine : GoodIn wsX12_relation (wsV RX12 142 RX12 yX12_fine wsX12_fine) := goodIn_app (goodIn_of _ (by decide +kernel)) ggX12_relation_X12_fine
set_option maxRecDepth 20000 in
theorem ggX12_relation_X12_wrong : GoodIn wsX12_relation wsX12_wrong := goodIn_r _ [11, 7, 12, 13, 36, 37, 38, 39, 40, 41, 42, 43, 44, 45, 46, 47, 48, 49, 50, 51, 52, 53, 54, 55, 56, 57, 58, 59, 60, 61, 62, 63, 64, 65, 66, 67, 68, 69, 70, 71, 72, 73, 74, 75] (by decide +kernel) (by decide +kernel)
set_option maxRecDepth 20000 in
theorem gX12_relation_X12_wrong : GoodIn wsX12_relation (wsV RX12 149 RX12 yX12_wrong wsX12_wrong) := goodIn_app (goodIn_of _ (by decide +kernel)) ggX12_relation_X12_wrong
set_option maxRecDepth 20000 in
theorem ggX12_relation_X12_next : GoodIn wsX12_relation wsX12_next := goodIn_r _ [17, 18, 12, 19, 20, 21, 22, 1, 23, 24, 25, 26, 27, 28, 29, 30, 5, 31, 32, 33, 34, 35, 36, 37, 38, 39, 40, 41, 42, 43, 44, 45, 46, 47, 48, 49, 50, 51, 52, 53, 54, 55, 56, 57, 58, 59, 60, 61, 62, 63, 64, 65, 66, 67, 68, 69, 70, 71, 72, 73, 74, 75] (by decide +kernel) (by decide +kernel)
set_option maxRecDepth 20000 in
theorem gX12_relation_X12_next : GoodIn wsX12_relation (wsV RX12 146 RX12 yX12_next wsX12_next) := goodIn_app (goodIn_of _ (by decide +kernel)) ggX12_relation_X12_next
theorem dX12_relation_0 : decode cX12_relation 0 = .ok (.aload_n 0, 1) := by decide +kernel
theorem dX12_relation_1 : decode cX12_relation 1 = .ok (.getfield 123, 3) := by decide +kernel
theorem dX12_relation_4 : decode cX12_relation 4 = .ok (.istore_n 1, 1) := by decide +kernel
theorem dX12_relation_5 : decode cX12_relation 5 = .ok (.aload_n 0, 1) := by decide +kernel
theorem dX12_relation_6 : decode cX12_relation 6 = .ok (.invokevirtual 142, 3) := by decide +kernel
theorem dX12_relation_9 : decode cX12_relation 9 = .ok (.ifCond .eq 26, 3) := by decide +kernel
theorem dX12_relation_12 : decode cX12_relation 12 = .ok (.iload_n 1, 1) := by decide +kernel
theorem dX12_relation_13 : decode cX12_relation 13 = .ok (.bipush 61, 2) := by decide +kernel
theorem dX12_relation_15 : decode cX12_relation 15 = .ok (.if_icmp .eq 20, 3) := by decide +kernel
theorem dX12_relation_18 : decode cX12_relation 18 = .ok (.iload_n 1, 1) := by decide +kernel
theorem dX12_relation_19 : decode cX12_relation 19 = .ok (.bipush 60, 2) := by decide +kernel
theorem dX12_relation_21 : decode cX12_relation 21 = .ok (.if_icmp .eq 14, 3) := by decide +kernel
theorem dX12_relation_24 : decode cX12_relation 24 = .ok (.iload_n 1, 1) := by decide +kernel
theorem dX12_relation_25 : decode cX12_relation 25 = .ok (.bipush 62, 2) := by decide +kernel
theorem dX12_relation_27 : decode cX12_relation 27 = .ok (.if_icmp .eq 8, 3) := by decide +kernel
theorem dX12_relation_30 : decode cX12_relation 30 = .ok (.aload_n 0, 1) := by decide +kernel
theorem dX12_relation_31 : decode cX12_relation 31 = .ok (.iconst 1, 1) := by decide +kernel
theorem dX12_relation_32 : decode cX12_relation 32 = .ok (.invokevirtual 149, 3) := by decide +kernel
theorem dX12_relation_35 : decode cX12_relation 35 = .ok (.aload_n 0, 1) := by decide +kernel
theorem dX12_relation_36 : decode cX12_relation 36 = .ok (.invokevirtual 142, 3) := by decide +kernel
theorem dX12_relation_39 : decode cX12_relation 39 = .ok (.ifCond .eq 7, 3) := by decide +kernel
theorem dX12_relation_42 : decode cX12_relation 42 = .ok (.aload_n 0, 1) := by decide +kernel
theorem dX12_relation_43 : decode cX12_relation 43 = .ok (.invokevirtual 146, 3) := by decide +kernel
theorem dX12_relation_46 : decode cX12_relation 46 = .ok (.iload_n 1, 1) := by decide +kernel
theorem dX12_relation_47 : decode cX12_relation 47 = .ok (.ireturn, 1) := by decide +kernel
set_option maxRecDepth 20000 in
theorem ggX12_takeRest_X12_letter : GoodIn wsX12_takeRest wsX12_letter := goodIn_r _ [9, 10, 11, 12, 13, 14, 15, 16, 8, 17, 18, 19, 20, 21, 22, 23, 24, 25, 26, 27, 28, 29, 30, 31, 32, 33, 34, 35, 36, 37, 38, 39, 40, 41, 42, 43, 44, 57, 58, 59, 60, 61, 62, 63, 64, 65, 66, 67, 68, 69, 70, 71, 72, 73, 74, 75, 76, 77, 78, 79, 80, 81, 82, 83, 84, 85, 86, 87, 88, 89, 90, 91, 92, 93, 94, 95, 96] (by decide +kernel) (by decide +kernel)
set_option maxRecDepth 20000 in
theorem gX12_takeRest_X12_letter : GoodIn wsX12_takeRest (wsV RX12 169 RX12 yX12_letter wsX12_letter) := goodIn_app (goodIn_of _ (by decide +kernel)) ggX12_takeRest_X12_letter
set_option maxRecDepth 20000 in
theorem ggX12_takeRest_X12_number : GoodIn wsX12_takeRest wsX12_number := goodIn_r _ [48, 10, 11, 30, 14, 15, 16, 8, 17, 18, 19, 20, 21, 22, 23, 24, 42, 43, 44, 25, 26, 27, 28, 29, 12, 31, 32, 33, 34, 35, 36, 37, 38, 39, 40, 41, 57, 58, 59, 60, 61, 62, 63, 64, 65, 66, 67, 68, 69, 70, 71, 72, 73, 74, 75, 76, 77, 78, 79, 80, 81, 82, 83, 84, 85, 86, 87, 88, 89, 90, 91, 92, 93, 94, 95, 96] (by decide +kernel) (by decide +kernel)
set_option maxRecDepth 20000 in
theorem gX12_takeRest_X12_number : GoodIn wsX12_takeRest (wsV RX12 172 RX12 yX12_number wsX12_number) := goodIn_app (goodIn_of _ (by decide +kernel)) ggX12_takeRest_X12_number
set_option maxRecDepth 20000 in
theorem ggX12_takeRest_X12_letters : GoodIn wsX12_takeRest wsX12_letters := goodIn_r _ [52, 10, 11, 12, 34, 14, 15, 16, 8, 17, 18, 19, 20, 21, 22, 23, 24, 25, 26, 27, 28, 29, 30, 31, 32, 33, 35, 36, 37, 38, 39, 40, 41, 42, 43, 44, 57, 58, 59, 60, 61, 62, 63, 64, 65, 66, 67, 68, 69, 70, 71, 72, 73, 74, 75, 76, 77, 78, 79, 80, 81, 82, 83, 84, 85, 86, 87, 88, 89, 90, 91, 92, 93, 94, 95, 96] (by decide +kernel) (by decide +kernel)
set_option maxRecDepth 20000 in
theorem gX12_takeRest_X12_letters : GoodIn wsX12_takeRest (wsV RX12 176 RX12 yX12_letters wsX12_letters) := goodIn_app (goodIn_of _ (by decide +kernel)) ggX12_takeRest_X12_letters
set_option maxRecDepth 20000 in
theorem ggX12_takeRest_X12_relation : GoodIn wsX12_takeRest wsX12_relation := goodIn_r _ [56, 10, 14, 15, 16, 8, 17, 18, 19, 20, 21, 22, 23, 24, 25, 26, 27, 28, 29, 12, 30, 11, 31, 32, 33, 34, 35, 36, 37, 38, 39, 40, 41, 42, 43, 44, 57, 58, 59, 60, 61, 62, 63, 64, 65, 66, 67, 68, 69, 70, 71, 72, 73, 74, 75, 76, 77, 78, 79, 80, 81, 82, 83, 84, 85, 86, 87, 88, 89, 90, 91, 92, 93, 94, 95, 96] (by decide +kernel) (by decide +kernel)
set_option maxRecDepth 20000 in
theorem gX12_takeRest_X12_relation : GoodIn wsX12_takeRest (wsV RX12 179 RX12 yX12_relation wsX12_relation) := goodIn_app (goodIn_of _ (by decide +kernel)) ggX12_takeRest_X12_relation
theorem dX12_takeRest_0 : decode cX12_takeRest 0 = .ok (.iload_n 1, 1) := by decide +kernel
theorem dX12_takeRest_1 : decode cX12_takeRest 1 = .ok (.iconst 1, 1) := by decide +kernel
theorem dX12_takeRest_2 : decode cX12_takeRest 2 = .ok (.if_icmp .eq 8, 3) := by decide +kernel
theorem dX12_takeRest_5 : decode cX12_takeRest 5 = .ok (.iload_n 1, 1) := by decide +kernel
theorem dX12_takeRest_6 : decode cX12_takeRest 6 = .ok (.iconst 4, 1) := by decide +kernel
theorem dX12_takeRest_7 : decode cX12_takeRest 7 = .ok (.if_icmp .ne 29, 3) := by decide +kernel
theorem dX12_takeRest_10 : decode cX12_takeRest 10 = .ok (.aload_n 0, 1) := by decide +kernel
theorem dX12_takeRest_11 : decode cX12_takeRest 11 = .ok (.getfield 24, 3) := by decide +kernel
theorem dX12_takeRest_14 : decode cX12_takeRest 14 = .ok (.iload_n 2, 1) := by decide +kernel
theorem dX12_takeRest_15 : decode cX12_takeRest 15 = .ok (.aload_n 0, 1) := by decide +kernel
theorem dX12_takeRest_16 : decode cX12_takeRest 16 = .ok (.invokevirtual 169, 3) := by decide +kernel
theorem dX12_takeRest_19 : decode cX12_takeRest 19 = .ok (.iastore, 1) := by decide +kernel
theorem dX12_takeRest_20 : decode cX12_takeRest 20 = .ok (.aload_n 0, 1) := by decide +kernel
theorem dX12_takeRest_21 : decode cX12_takeRest 21 = .ok (.getfield 30, 3) := by decide +kernel
theorem dX12_takeRest_24 : decode cX12_takeRest 24 = .ok (.iload_n 2, 1) := by decide +kernel
theorem dX12_takeRest_25 : decode cX12_takeRest 25 = .ok (.aload_n 0, 1) := by decide +kernel
theorem dX12_takeRest_26 : decode cX12_takeRest 26 = .ok (.iconst 1, 1) := by decide +kernel
theorem dX12_takeRest_27 : decode cX12_takeRest 27 = .ok (.bipush 20, 2) := by decide +kernel
theorem dX12_takeRest_29 : decode cX12_takeRest 29 = .ok (.invokevirtual 172, 3) := by decide +kernel
theorem dX12_takeRest_32 : decode cX12_takeRest 32 = .ok (.iastore, 1) := by decide +kernel
theorem dX12_takeRest_33 : decode cX12_takeRest 33 = .ok (.goto 247, 3) := by decide +kernel
theorem dX12_takeRest_36 : decode cX12_takeRest 36 = .ok (.iload_n 1, 1) := by decide +kernel
theorem dX12_takeRest_37 : decode cX12_takeRest 37 = .ok (.iconst 2, 1) := by decide +kernel
theorem dX12_takeRest_38 : decode cX12_takeRest 38 = .ok (.if_icmp .eq 8, 3) := by decide +kernel
theorem dX12_takeRest_41 : decode cX12_takeRest 41 = .ok (.iload_n 1, 1) := by decide +kernel
theorem dX12_takeRest_42 : decode cX12_takeRest 42 = .ok (.iconst 5, 1) := by decide +kernel
theorem dX12_takeRest_43 : decode cX12_takeRest 43 = .ok (.if_icmp .ne 29, 3) := by decide +kernel
theorem dX12_takeRest_46 : decode cX12_takeRest 46 = .ok (.aload_n 0, 1) := by decide +kernel
theorem dX12_takeRest_47 : decode cX12_takeRest 47 = .ok (.getfield 33, 3) := by decide +kernel
theorem dX12_takeRest_50 : decode cX12_takeRest 50 = .ok (.iload_n 2, 1) := by decide +kernel
theorem dX12_takeRest_51 : decode cX12_takeRest 51 = .ok (.aload_n 0, 1) := by decide +kernel
theorem dX12_takeRest_52 : decode cX12_takeRest 52 = .ok (.invokevirtual 176, 3) := by decide +kernel
theorem dX12_takeRest_55 : decode cX12_takeRest 55 = .ok (.iastore, 1) := by decide +kernel
theorem dX12_takeRest_56 : decode cX12_takeRest 56 = .ok (.aload_n 0, 1) := by decide +kernel
theorem dX12_takeRest_57 : decode cX12_takeRest 57 = .ok (.getfield 30, 3) := by decide +kernel
theorem dX12_takeRest_60 : decode cX12_takeRest 60 = .ok (.iload_n 2, 1) := by decide +kernel
theorem dX12_takeRest_61 : decode cX12_takeRest 61 = .ok (.aload_n 0, 1) := by decide +kernel
theorem dX12_takeRest_62 : decode cX12_takeRest 62 = .ok (.iconst 1, 1) := by decide +kernel
theorem dX12_takeRest_63 : decode cX12_takeRest 63 = .ok (.bipush 20, 2) := by decide +kernel
theorem dX12_takeRest_65 : decode cX12_takeRest 65 = .ok (.invokevirtual 172, 3) := by decide +kernel
theorem dX12_takeRest_68 : decode cX12_takeRest 68 = .ok (.iastore, 1) := by decide +kernel
theorem dX12_takeRest_69 : decode cX12_takeRest 69 = .ok (.goto 211, 3) := by decide +kernel
theorem dX12_takeRest_72 : decode cX12_takeRest 72 = .ok (.iload_n 1, 1) := by decide +kernel
theorem dX12_takeRest_73 : decode cX12_takeRest 73 = .ok (.iconst 3, 1) := by decide +kernel
theorem dX12_takeRest_74 : decode cX12_takeRest 74 = .ok (.if_icmp .ne 49, 3) := by decide +kernel
theorem dX12_takeRest_77 : decode cX12_takeRest 77 = .ok (.aload_n 0, 1) := by decide +kernel
theorem dX12_takeRest_78 : decode cX12_takeRest 78 = .ok (.getfield 24, 3) := by decide +kernel
theorem dX12_takeRest_81 : decode cX12_takeRest 81 = .ok (.iload_n 2, 1) := by decide +kernel
theorem dX12_takeRest_82 : decode cX12_takeRest 82 = .ok (.aload_n 0, 1) := by decide +kernel
theorem dX12_takeRest_83 : decode cX12_takeRest 83 = .ok (.invokevirtual 169, 3) := by decide +kernel
theorem dX12_takeRest_86 : decode cX12_takeRest 86 = .ok (.iastore, 1) := by decide +kernel
theorem dX12_takeRest_87 : decode cX12_takeRest 87 = .ok (.aload_n 0, 1) := by decide +kernel
theorem dX12_takeRest_88 : decode cX12_takeRest 88 = .ok (.getfield 27, 3) := by decide +kernel
theorem dX12_takeRest_91 : decode cX12_takeRest 91 = .ok (.iload_n 2, 1) := by decide +kernel
theorem dX12_takeRest_92 : decode cX12_takeRest 92 = .ok (.aload_n 0, 1) := by decide +kernel
theorem dX12_takeRest_93 : decode cX12_takeRest 93 = .ok (.invokevirtual 169, 3) := by decide +kernel
theorem dX12_takeRest_96 : decode cX12_takeRest 96 = .ok (.iastore, 1) := by decide +kernel
theorem dX12_takeRest_97 : decode cX12_takeRest 97 = .ok (.aload_n 0, 1) := by decide +kernel
theorem dX12_takeRest_98 : decode cX12_takeRest 98 = .ok (.getfield 30, 3) := by decide +kernel
theorem dX12_takeRest_101 : decode cX12_takeRest 101 = .ok (.iload_n 2, 1) := by decide +kernel
theorem dX12_takeRest_102 : decode cX12_takeRest 102 = .ok (.aload_n 0, 1) := by decide +kernel
theorem dX12_takeRest_103 : decode cX12_takeRest 103 = .ok (.iconst 1, 1) := by decide +kernel
theorem dX12_takeRest_104 : decode cX12_takeRest 104 = .ok (.bipush 20, 2) := by decide +kernel
theorem dX12_takeRest_106 : decode cX12_takeRest 106 = .ok (.invokevirtual 172, 3) := by decide +kernel
theorem dX12_takeRest_109 : decode cX12_takeRest 109 = .ok (.iastore, 1) := by decide +kernel
theorem dX12_takeRest_110 : decode cX12_takeRest 110 = .ok (.aload_n 0, 1) := by decide +kernel
theorem dX12_takeRest_111 : decode cX12_takeRest 111 = .ok (.getfield 33, 3) := by decide +kernel
theorem dX12_takeRest_114 : decode cX12_takeRest 114 = .ok (.iload_n 2, 1) := by decide +kernel
theorem dX12_takeRest_115 : decode cX12_takeRest 115 = .ok (.aload_n 0, 1) := by decide +kernel
theorem dX12_takeRest_116 : decode cX12_takeRest 116 = .ok (.invokevirtual 176, 3) := by decide +kernel
theorem dX12_takeRest_119 : decode cX12_takeRest 119 = .ok (.iastore, 1) := by decide +kernel
theorem dX12_takeRest_120 : decode cX12_takeRest 120 = .ok (.goto 160, 3) := by decide +kernel
theorem dX12_takeRest_123 : decode cX12_takeRest 123 = .ok (.iload_n 1, 1) := by decide +kernel
theorem dX12_takeRest_124 : decode cX12_takeRest 124 = .ok (.bipush 6, 2) := by decide +kernel
theorem dX12_takeRest_126 : decode cX12_takeRest 126 = .ok (.if_icmp .ne 39, 3) := by decide +kernel
theorem dX12_takeRest_129 : decode cX12_takeRest 129 = .ok (.aload_n 0, 1) := by decide +kernel
theorem dX12_takeRest_130 : decode cX12_takeRest 130 = .ok (.getfield 24, 3) := by decide +kernel
theorem dX12_takeRest_133 : decode cX12_takeRest 133 = .ok (.iload_n 2, 1) := by decide +kernel
theorem dX12_takeRest_134 : decode cX12_takeRest 134 = .ok (.aload_n 0, 1) := by decide +kernel
theorem dX12_takeRest_135 : decode cX12_takeRest 135 = .ok (.invokevirtual 169, 3) := by decide +kernel
theorem dX12_takeRest_138 : decode cX12_takeRest 138 = .ok (.iastore, 1) := by decide +kernel
theorem dX12_takeRest_139 : decode cX12_takeRest 139 = .ok (.aload_n 0, 1) := by decide +kernel
theorem dX12_takeRest_140 : decode cX12_takeRest 140 = .ok (.getfield 27, 3) := by decide +kernel
theorem dX12_takeRest_143 : decode cX12_takeRest 143 = .ok (.iload_n 2, 1) := by decide +kernel
theorem dX12_takeRest_144 : decode cX12_takeRest 144 = .ok (.aload_n 0, 1) := by decide +kernel
theorem dX12_takeRest_145 : decode cX12_takeRest 145 = .ok (.invokevirtual 169, 3) := by decide +kernel
theorem dX12_takeRest_148 : decode cX12_takeRest 148 = .ok (.iastore, 1) := by decide +kernel
theorem dX12_takeRest_149 : decode cX12_takeRest 149 = .ok (.aload_n 0, 1) := by decide +kernel
theorem dX12_takeRest_150 : decode cX12_takeRest 150 = .ok (.getfield 30, 3) := by decide +kernel
theorem dX12_takeRest_153 : decode cX12_takeRest 153 = .ok (.iload_n 2, 1) := by decide +kernel
theorem dX12_takeRest_154 : decode cX12_takeRest 154 = .ok (.aload_n 0, 1) := by decide +kernel
theorem dX12_takeRest_155 : decode cX12_takeRest 155 = .ok (.iconst 1, 1) := by decide +kernel
theorem dX12_takeRest_156 : decode cX12_takeRest 156 = .ok (.bipush 20, 2) := by decide +kernel
theorem dX12_takeRest_158 : decode cX12_takeRest 158 = .ok (.invokevirtual 172, 3) := by decide +kernel
theorem dX12_takeRest_161 : decode cX12_takeRest 161 = .ok (.iastore, 1) := by decide +kernel
theorem dX12_takeRest_162 : decode cX12_takeRest 162 = .ok (.goto 118, 3) := by decide +kernel
theorem dX12_takeRest_165 : decode cX12_takeRest 165 = .ok (.iload_n 1, 1) := by decide +kernel
theorem dX12_takeRest_166 : decode cX12_takeRest 166 = .ok (.bipush 7, 2) := by decide +kernel
theorem dX12_takeRest_168 : decode cX12_takeRest 168 = .ok (.if_icmp .ne 29, 3) := by decide +kernel
theorem dX12_takeRest_171 : decode cX12_takeRest 171 = .ok (.aload_n 0, 1) := by decide +kernel
theorem dX12_takeRest_172 : decode cX12_takeRest 172 = .ok (.getfield 24, 3) := by decide +kernel
theorem dX12_takeRest_175 : decode cX12_takeRest 175 = .ok (.iload_n 2, 1) := by decide +kernel
theorem dX12_takeRest_176 : decode cX12_takeRest 176 = .ok (.aload_n 0, 1) := by decide +kernel
theorem dX12_takeRest_177 : decode cX12_takeRest 177 = .ok (.invokevirtual 169, 3) := by decide +kernel
theorem dX12_takeRest_180 : decode cX12_takeRest 180 = .ok (.iastore, 1) := by decide +kernel
theorem dX12_takeRest_181 : decode cX12_takeRest 181 = .ok (.aload_n 0, 1) := by decide +kernel
theorem dX12_takeRest_182 : decode cX12_takeRest 182 = .ok (.getfield 30, 3) := by decide +kernel
theorem dX12_takeRest_185 : decode cX12_takeRest 185 = .ok (.iload_n 2, 1) := by decide +kernel
theorem dX12_takeRest_186 : decode cX12_takeRest 186 = .ok (.aload_n 0, 1) := by decide +kernel
theorem dX12_takeRest_187 : decode cX12_takeRest 187 = .ok (.iconst 0, 1) := by decide +kernel
theorem dX12_takeRest_188 : decode cX12_takeRest 188 = .ok (.bipush 20, 2) := by decide +kernel
theorem dX12_takeRest_190 : decode cX12_takeRest 190 = .ok (.invokevirtual 172, 3) := by decide +kernel
theorem dX12_takeRest_193 : decode cX12_takeRest 193 = .ok (.iastore, 1) := by decide +kernel
theorem dX12_takeRest_194 : decode cX12_takeRest 194 = .ok (.goto 86, 3) := by decide +kernel
theorem dX12_takeRest_197 : decode cX12_takeRest 197 = .ok (.iload_n 1, 1) := by decide +kernel
theorem dX12_takeRest_198 : decode cX12_takeRest 198 = .ok (.bipush 8, 2) := by decide +kernel
theorem dX12_takeRest_200 : decode cX12_takeRest 200 = .ok (.if_icmp .ne 19, 3) := by decide +kernel
theorem dX12_takeRest_203 : decode cX12_takeRest 203 = .ok (.aload_n 0, 1) := by decide +kernel
theorem dX12_takeRest_204 : decode cX12_takeRest 204 = .ok (.getfield 30, 3) := by decide +kernel
theorem dX12_takeRest_207 : decode cX12_takeRest 207 = .ok (.iload_n 2, 1) := by decide +kernel
theorem dX12_takeRest_208 : decode cX12_takeRest 208 = .ok (.aload_n 0, 1) := by decide +kernel
theorem dX12_takeRest_209 : decode cX12_takeRest 209 = .ok (.iconst 0, 1) := by decide +kernel
theorem dX12_takeRest_210 : decode cX12_takeRest 210 = .ok (.bipush 20, 2) := by decide +kernel
theorem dX12_takeRest_212 : decode cX12_takeRest 212 = .ok (.invokevirtual 172, 3) := by decide +kernel
theorem dX12_takeRest_215 : decode cX12_takeRest 215 = .ok (.iastore, 1) := by decide +kernel
theorem dX12_takeRest_216 : decode cX12_takeRest 216 = .ok (.goto 64, 3) := by decide +kernel
theorem dX12_takeRest_219 : decode cX12_takeRest 219 = .ok (.iload_n 1, 1) := by decide +kernel
theorem dX12_takeRest_220 : decode cX12_takeRest 220 = .ok (.bipush 10, 2) := by decide +kernel
theorem dX12_takeRest_222 : decode cX12_takeRest 222 = .ok (.if_icmp .ne 19, 3) := by decide +kernel
theorem dX12_takeRest_225 : decode cX12_takeRest 225 = .ok (.aload_n 0, 1) := by decide +kernel
theorem dX12_takeRest_226 : decode cX12_takeRest 226 = .ok (.getfield 30, 3) := by decide +kernel
theorem dX12_takeRest_229 : decode cX12_takeRest 229 = .ok (.iload_n 2, 1) := by decide +kernel
theorem dX12_takeRest_230 : decode cX12_takeRest 230 = .ok (.aload_n 0, 1) := by decide +kernel
theorem dX12_takeRest_231 : decode cX12_takeRest 231 = .ok (.iconst 0, 1) := by decide +kernel
theorem dX12_takeRest_232 : decode cX12_takeRest 232 = .ok (.bipush 7, 2) := by decide +kernel
theorem dX12_takeRest_234 : decode cX12_takeRest 234 = .ok (.invokevirtual 172, 3) := by decide +kernel
theorem dX12_takeRest_237 : decode cX12_takeRest 237 = .ok (.iastore, 1) := by decide +kernel
theorem dX12_takeRest_238 : decode cX12_takeRest 238 = .ok (.goto 42, 3) := by decide +kernel
theorem dX12_takeRest_241 : decode cX12_takeRest 241 = .ok (.iload_n 1, 1) := by decide +kernel
theorem dX12_takeRest_242 : decode cX12_takeRest 242 = .ok (.bipush 12, 2) := by decide +kernel
theorem dX12_takeRest_244 : decode cX12_takeRest 244 = .ok (.if_icmp .ne 36, 3) := by decide +kernel
theorem dX12_takeRest_247 : decode cX12_takeRest 247 = .ok (.aload_n 0, 1) := by decide +kernel
theorem dX12_takeRest_248 : decode cX12_takeRest 248 = .ok (.getfield 24, 3) := by decide +kernel
theorem dX12_takeRest_251 : decode cX12_takeRest 251 = .ok (.iload_n 2, 1) := by decide +kernel
theorem dX12_takeRest_252 : decode cX12_takeRest 252 = .ok (.aload_n 0, 1) := by decide +kernel
theorem dX12_takeRest_253 : decode cX12_takeRest 253 = .ok (.invokevirtual 169, 3) := by decide +kernel
theorem dX12_takeRest_256 : decode cX12_takeRest 256 = .ok (.iastore, 1) := by decide +kernel
theorem dX12_takeRest_257 : decode cX12_takeRest 257 = .ok (.aload_n 0, 1) := by decide +kernel
theorem dX12_takeRest_258 : decode cX12_takeRest 258 = .ok (.getfield 27, 3) := by decide +kernel
theorem dX12_takeRest_261 : decode cX12_takeRest 261 = .ok (.iload_n 2, 1) := by decide +kernel
theorem dX12_takeRest_262 : decode cX12_takeRest 262 = .ok (.aload_n 0, 1) := by decide +kernel
theorem dX12_takeRest_263 : decode cX12_takeRest 263 = .ok (.invokevirtual 179, 3) := by decide +kernel
theorem dX12_takeRest_266 : decode cX12_takeRest 266 = .ok (.iastore, 1) := by decide +kernel
theorem dX12_takeRest_267 : decode cX12_takeRest 267 = .ok (.aload_n 0, 1) := by decide +kernel
theorem dX12_takeRest_268 : decode cX12_takeRest 268 = .ok (.getfield 30, 3) := by decide +kernel
theorem dX12_takeRest_271 : decode cX12_takeRest 271 = .ok (.iload_n 2, 1) := by decide +kernel
theorem dX12_takeRest_272 : decode cX12_takeRest 272 = .ok (.aload_n 0, 1) := by decide +kernel
theorem dX12_takeRest_273 : decode cX12_takeRest 273 = .ok (.iconst 0, 1) := by decide +kernel
theorem dX12_takeRest_274 : decode cX12_takeRest 274 = .ok (.bipush 99, 2) := by decide +kernel
theorem dX12_takeRest_276 : decode cX12_takeRest 276 = .ok (.invokevirtual 172, 3) := by decide +kernel
theorem dX12_takeRest_279 : decode cX12_takeRest 279 = .ok (.iastore, 1) := by decide +kernel
theorem dX12_takeRest_280 : decode cX12_takeRest 280 = .ok (.return_, 1) := by decide +kernel
set_option maxRecDepth 20000 in
theorem ggX12_takeStep_X12_kindOf : GoodIn wsX12_takeStep wsX12_kindOf := goodIn_r _ [12, 13, 14, 11, 15, 16, 17, 18, 19, 20, 21, 22, 23] (by decide +kernel) (by decide +kernel)
set_option maxRecDepth 20000 in
theorem gX12_takeStep_X12_kindOf : GoodIn wsX12_takeStep (va_wsS RX12 182 yX12_kindOf wsX12_kindOf) := goodIn_app (goodIn_of _ (by decide +kernel)) ggX12_takeStep_X12_kindOf
set_option maxRecDepth 20000 in
theorem ggX12_takeStep_X12_wrong : GoodIn wsX12_takeStep wsX12_wrong := goodIn_r _ [27, 28, 6, 29, 89, 90, 91, 92, 93, 94, 95, 96, 97, 98, 99, 100, 101, 102, 103, 104, 105, 106, 107, 108, 109, 110, 111, 112, 113, 114, 115, 116, 117, 118, 119, 120, 121, 122, 123, 124, 125, 126, 127, 128] (by decide +kernel) (by decide +kernel)
set_option maxRecDepth 20000 in
theorem gX12_takeStep_X12_wrong : GoodIn wsX12_takeStep (wsV RX12 149 RX12 yX12_wrong wsX12_wrong) := goodIn_app (goodIn_of _ (by decide +kernel)) ggX12_takeStep_X12_wrong
set_option maxRecDepth 20000 in
theorem ggX12_takeStep_X12_fine : GoodIn wsX12_takeStep wsX12_fine := goodIn_r _ [33, 28, 89, 90, 91, 92, 93, 94, 95, 96, 97, 98, 99, 100, 101, 102, 103, 104, 105, 106, 107, 108, 109, 110, 111, 112, 113, 114, 115, 116, 117, 118, 119, 120, 121, 122, 123, 124, 125, 126, 127, 128] (by decide +kernel) (by decide +kernel)
set_option maxRecDepth 20000 in
theorem gX12_takeStep_X12_fine : GoodIn wsX12_takeStep (wsV RX12 142 RX12 yX12_fine wsX12_fine) := goodIn_app (goodIn_of _ (by decide +kernel)) ggX12_takeStep_X12_fine
set_option maxRecDepth 20000 in
theorem ggX12_takeStep_X12_put : GoodIn wsX12_takeStep wsX12_put := goodIn_r _ [37, 38, 39, 40, 41, 7, 42, 43, 44, 89, 90, 91, 92, 93, 94, 95, 96, 97, 98, 99, 100, 101, 102, 103, 104, 105, 106, 107, 108, 109, 110, 111, 112, 113, 114, 115, 116, 117, 118, 119, 120, 121, 122, 123, 124, 125, 126, 127, 128] (by decide +kernel) (by decide +kernel)
set_option maxRecDepth 20000 in
theorem gX12_takeStep_X12_put : GoodIn wsX12_takeStep (wsV RX12 192 RX12 yX12_put wsX12_put) := goodIn_app (goodIn_of _ (by decide +kernel)) ggX12_takeStep_X12_put
set_option maxRecDepth 20000 in
theorem ggX12_takeStep_X12_next : GoodIn wsX12_takeStep wsX12_next := goodIn_r _ [48, 49, 6, 2, 50, 3, 51, 1, 52, 53, 16, 54, 55, 56, 57, 58, 11, 59, 60, 61, 62, 63, 89, 90, 91, 92, 93, 94, 95, 96, 97, 98, 99, 100, 101, 102, 103, 104, 105, 106, 107, 108, 109, 110, 111, 112, 113, 114, 115, 116, 117, 118, 119, 120, 121, 122, 123, 124, 125, 126, 127, 128] (by decide +kernel) (by decide +kernel)
set_option maxRecDepth 20000 in
theorem gX12_takeStep_X12_next : GoodIn wsX12_takeStep (wsV RX12 146 RX12 yX12_next wsX12_next) := goodIn_app (goodIn_of _ (by decide +kernel)) ggX12_takeStep_X12_next
set_option maxRecDepth 20000 in
theorem ggX12_takeStep_X12_number : GoodIn wsX12_takeStep wsX12_number := goodIn_r _ [67, 1, 3, 50, 30, 31, 32, 11, 33, 28, 24, 25, 26, 27, 6, 29, 61, 62, 63, 45, 46, 47, 48, 49, 2, 51, 52, 53, 16, 54, 55, 56, 57, 58, 59, 60, 89, 90, 91, 92, 93, 94, 95, 96, 97, 98, 99, 100, 101, 102, 103, 104, 105, 106, 107, 108, 109, 110, 111, 112, 113, 114, 115, 116, 117, 118, 119, 120, 121, 122, 123, 124, 125, 126, 127, 128] (by decide +kernel) (by decide +kernel)
set_option maxRecDepth 20000 in
theorem gX12_takeStep_X12_number : GoodIn wsX12_takeStep (wsV RX12 172 RX12 yX12_number wsX12_number) := goodIn_app (goodIn_of _ (by decide +kernel)) ggX12_takeStep_X12_number
set_option maxRecDepth 20000 in
theorem ggX12_takeStep_X12_want : GoodIn wsX12_takeStep wsX12_want := goodIn_r _ [71, 1, 30, 31, 32, 11, 33, 28, 45, 46, 47, 48, 49, 6, 2, 50, 3, 51, 52, 53, 16, 54, 55, 56, 57, 58, 59, 60, 61, 62, 63, 24, 25, 26, 27, 29, 89, 90, 91, 92, 93, 94, 95, 96, 97, 98, 99, 100, 101, 102, 103, 104, 105, 106, 107, 108, 109, 110, 111, 112, 113, 114, 115, 116, 117, 118, 119, 120, 121, 122, 123, 124, 125, 126, 127, 128] (by decide +kernel) (by decide +kernel)
set_option maxRecDepth 20000 in
theorem gX12_takeStep_X12_want : GoodIn wsX12_takeStep (wsV RX12 195 RX12 yX12_want wsX12_want) := goodIn_app (goodIn_of _ (by decide +kernel)) ggX12_takeStep_X12_want
set_option maxRecDepth 20000 in
theorem ggX12_takeStep_X12_takeRest : GoodIn wsX12_takeStep wsX12_takeRest := goodIn_r _ [75, 40, 7, 42, 41, 76, 77, 78, 11, 79, 1, 3, 2, 80, 30, 31, 32, 33, 28, 24, 25, 26, 27, 6, 29, 45, 46, 47, 48, 49, 50, 51, 52, 53, 16, 54, 55, 56, 57, 58, 59, 60, 61, 62, 63, 64, 65, 66, 67, 81, 82, 83, 84, 85, 86, 87, 88, 89, 90, 91, 92, 93, 94, 95, 96, 97, 98, 99, 100, 101, 102, 103, 104, 105, 106, 107, 108, 109, 110, 111, 112, 113, 114, 115, 116, 117, 118, 119, 120, 121, 122, 123, 124, 125, 126, 127, 128] (by decide +kernel) (by decide +kernel)
set_option maxRecDepth 20000 in
theorem gX12_takeStep_X12_takeRest : GoodIn wsX12_takeStep (wsV RX12 198 RX12 yX12_takeRest wsX12_takeRest) := goodIn_app (goodIn_of _ (by decide +kernel)) ggX12_takeStep_X12_takeRest
theorem dX12_takeStep_0 : decode cX12_takeStep 0 = .ok (.aload_n 0, 1) := by decide +kernel
theorem dX12_takeStep_1 : decode cX12_takeStep 1 = .ok (.getfield 123, 3) := by decide +kernel
theorem dX12_takeStep_4 : decode cX12_takeStep 4 = .ok (.sipush 300, 3) := by decide +kernel
theorem dX12_takeStep_7 : decode cX12_takeStep 7 = .ok (.if_icmp .ne 17, 3) := by decide +kernel
theorem dX12_takeStep_10 : decode cX12_takeStep 10 = .ok (.aload_n 0, 1) := by decide +kernel
theorem dX12_takeStep_11 : decode cX12_takeStep 11 = .ok (.getfield 113, 3) := by decide +kernel
theorem dX12_takeStep_14 : decode cX12_takeStep 14 = .ok (.aload_n 0, 1) := by decide +kernel
theorem dX12_takeStep_15 : decode cX12_takeStep 15 = .ok (.getfield 120, 3) := by decide +kernel
theorem dX12_takeStep_18 : decode cX12_takeStep 18 = .ok (.invokestatic 182, 3) := by decide +kernel
theorem dX12_takeStep_21 : decode cX12_takeStep 21 = .ok (.goto 4, 3) := by decide +kernel
theorem dX12_takeStep_24 : decode cX12_takeStep 24 = .ok (.iconst 0, 1) := by decide +kernel
theorem dX12_takeStep_25 : decode cX12_takeStep 25 = .ok (.istore_n 1, 1) := by decide +kernel
theorem dX12_takeStep_26 : decode cX12_takeStep 26 = .ok (.iload_n 1, 1) := by decide +kernel
theorem dX12_takeStep_27 : decode cX12_takeStep 27 = .ok (.ifCond .ne 11, 3) := by decide +kernel
theorem dX12_takeStep_30 : decode cX12_takeStep 30 = .ok (.aload_n 0, 1) := by decide +kernel
theorem dX12_takeStep_31 : decode cX12_takeStep 31 = .ok (.iconst 1, 1) := by decide +kernel
theorem dX12_takeStep_32 : decode cX12_takeStep 32 = .ok (.invokevirtual 149, 3) := by decide +kernel
theorem dX12_takeStep_35 : decode cX12_takeStep 35 = .ok (.goto 39, 3) := by decide +kernel
theorem dX12_takeStep_38 : decode cX12_takeStep 38 = .ok (.iload_n 1, 1) := by decide +kernel
theorem dX12_takeStep_39 : decode cX12_takeStep 39 = .ok (.bipush 14, 2) := by decide +kernel
theorem dX12_takeStep_41 : decode cX12_takeStep 41 = .ok (.if_icmp .ne 19, 3) := by decide +kernel
theorem dX12_takeStep_44 : decode cX12_takeStep 44 = .ok (.aload_n 0, 1) := by decide +kernel
theorem dX12_takeStep_45 : decode cX12_takeStep 45 = .ok (.getfield 186, 3) := by decide +kernel
theorem dX12_takeStep_48 : decode cX12_takeStep 48 = .ok (.iconst 4, 1) := by decide +kernel
theorem dX12_takeStep_49 : decode cX12_takeStep 49 = .ok (.if_icmp .ne 11, 3) := by decide +kernel
theorem dX12_takeStep_52 : decode cX12_takeStep 52 = .ok (.aload_n 0, 1) := by decide +kernel
theorem dX12_takeStep_53 : decode cX12_takeStep 53 = .ok (.iconst 3, 1) := by decide +kernel
theorem dX12_takeStep_54 : decode cX12_takeStep 54 = .ok (.invokevirtual 149, 3) := by decide +kernel
theorem dX12_takeStep_57 : decode cX12_takeStep 57 = .ok (.goto 17, 3) := by decide +kernel
theorem dX12_takeStep_60 : decode cX12_takeStep 60 = .ok (.aload_n 0, 1) := by decide +kernel
theorem dX12_takeStep_61 : decode cX12_takeStep 61 = .ok (.getfield 189, 3) := by decide +kernel
theorem dX12_takeStep_64 : decode cX12_takeStep 64 = .ok (.bipush 60, 2) := by decide +kernel
theorem dX12_takeStep_66 : decode cX12_takeStep 66 = .ok (.if_icmp .ne 8, 3) := by decide +kernel
theorem dX12_takeStep_69 : decode cX12_takeStep 69 = .ok (.aload_n 0, 1) := by decide +kernel
theorem dX12_takeStep_70 : decode cX12_takeStep 70 = .ok (.iconst 4, 1) := by decide +kernel
theorem dX12_takeStep_71 : decode cX12_takeStep 71 = .ok (.invokevirtual 149, 3) := by decide +kernel
theorem dX12_takeStep_74 : decode cX12_takeStep 74 = .ok (.aload_n 0, 1) := by decide +kernel
theorem dX12_takeStep_75 : decode cX12_takeStep 75 = .ok (.invokevirtual 142, 3) := by decide +kernel
theorem dX12_takeStep_78 : decode cX12_takeStep 78 = .ok (.ifCond .ne 4, 3) := by decide +kernel
theorem dX12_takeStep_81 : decode cX12_takeStep 81 = .ok (.return_, 1) := by decide +kernel
theorem dX12_takeStep_82 : decode cX12_takeStep 82 = .ok (.aload_n 0, 1) := by decide +kernel
theorem dX12_takeStep_83 : decode cX12_takeStep 83 = .ok (.dup, 1) := by decide +kernel
theorem dX12_takeStep_84 : decode cX12_takeStep 84 = .ok (.getfield 189, 3) := by decide +kernel
theorem dX12_takeStep_87 : decode cX12_takeStep 87 = .ok (.iconst 1, 1) := by decide +kernel
theorem dX12_takeStep_88 : decode cX12_takeStep 88 = .ok (.iadd, 1) := by decide +kernel
theorem dX12_takeStep_89 : decode cX12_takeStep 89 = .ok (.putfield 189, 3) := by decide +kernel
theorem dX12_takeStep_92 : decode cX12_takeStep 92 = .ok (.aload_n 0, 1) := by decide +kernel
theorem dX12_takeStep_93 : decode cX12_takeStep 93 = .ok (.iload_n 1, 1) := by decide +kernel
theorem dX12_takeStep_94 : decode cX12_takeStep 94 = .ok (.aload_n 0, 1) := by decide +kernel
theorem dX12_takeStep_95 : decode cX12_takeStep 95 = .ok (.getfield 110, 3) := by decide +kernel
theorem dX12_takeStep_98 : decode cX12_takeStep 98 = .ok (.invokevirtual 192, 3) := by decide +kernel
theorem dX12_takeStep_101 : decode cX12_takeStep 101 = .ok (.istore_n 2, 1) := by decide +kernel
theorem dX12_takeStep_102 : decode cX12_takeStep 102 = .ok (.aload_n 0, 1) := by decide +kernel
theorem dX12_takeStep_103 : decode cX12_takeStep 103 = .ok (.invokevirtual 146, 3) := by decide +kernel
theorem dX12_takeStep_106 : decode cX12_takeStep 106 = .ok (.iload_n 1, 1) := by decide +kernel
theorem dX12_takeStep_107 : decode cX12_takeStep 107 = .ok (.bipush 14, 2) := by decide +kernel
theorem dX12_takeStep_109 : decode cX12_takeStep 109 = .ok (.if_icmp .ne 45, 3) := by decide +kernel
theorem dX12_takeStep_112 : decode cX12_takeStep 112 = .ok (.aload_n 0, 1) := by decide +kernel
theorem dX12_takeStep_113 : decode cX12_takeStep 113 = .ok (.getfield 30, 3) := by decide +kernel
theorem dX12_takeStep_116 : decode cX12_takeStep 116 = .ok (.iload_n 2, 1) := by decide +kernel
theorem dX12_takeStep_117 : decode cX12_takeStep 117 = .ok (.aload_n 0, 1) := by decide +kernel
theorem dX12_takeStep_118 : decode cX12_takeStep 118 = .ok (.iconst 0, 1) := by decide +kernel
theorem dX12_takeStep_119 : decode cX12_takeStep 119 = .ok (.bipush 9, 2) := by decide +kernel
theorem dX12_takeStep_121 : decode cX12_takeStep 121 = .ok (.invokevirtual 172, 3) := by decide +kernel
theorem dX12_takeStep_124 : decode cX12_takeStep 124 = .ok (.iastore, 1) := by decide +kernel
theorem dX12_takeStep_125 : decode cX12_takeStep 125 = .ok (.aload_n 0, 1) := by decide +kernel
theorem dX12_takeStep_126 : decode cX12_takeStep 126 = .ok (.bipush 123, 2) := by decide +kernel
theorem dX12_takeStep_128 : decode cX12_takeStep 128 = .ok (.invokevirtual 195, 3) := by decide +kernel
theorem dX12_takeStep_131 : decode cX12_takeStep 131 = .ok (.aload_n 0, 1) := by decide +kernel
theorem dX12_takeStep_132 : decode cX12_takeStep 132 = .ok (.getfield 42, 3) := by decide +kernel
theorem dX12_takeStep_135 : decode cX12_takeStep 135 = .ok (.aload_n 0, 1) := by decide +kernel
theorem dX12_takeStep_136 : decode cX12_takeStep 136 = .ok (.getfield 186, 3) := by decide +kernel
theorem dX12_takeStep_139 : decode cX12_takeStep 139 = .ok (.iload_n 2, 1) := by decide +kernel
theorem dX12_takeStep_140 : decode cX12_takeStep 140 = .ok (.iastore, 1) := by decide +kernel
theorem dX12_takeStep_141 : decode cX12_takeStep 141 = .ok (.aload_n 0, 1) := by decide +kernel
theorem dX12_takeStep_142 : decode cX12_takeStep 142 = .ok (.dup, 1) := by decide +kernel
theorem dX12_takeStep_143 : decode cX12_takeStep 143 = .ok (.getfield 186, 3) := by decide +kernel
theorem dX12_takeStep_146 : decode cX12_takeStep 146 = .ok (.iconst 1, 1) := by decide +kernel
theorem dX12_takeStep_147 : decode cX12_takeStep 147 = .ok (.iadd, 1) := by decide +kernel
theorem dX12_takeStep_148 : decode cX12_takeStep 148 = .ok (.putfield 186, 3) := by decide +kernel
theorem dX12_takeStep_151 : decode cX12_takeStep 151 = .ok (.goto 15, 3) := by decide +kernel
theorem dX12_takeStep_154 : decode cX12_takeStep 154 = .ok (.aload_n 0, 1) := by decide +kernel
theorem dX12_takeStep_155 : decode cX12_takeStep 155 = .ok (.iload_n 1, 1) := by decide +kernel
theorem dX12_takeStep_156 : decode cX12_takeStep 156 = .ok (.iload_n 2, 1) := by decide +kernel
theorem dX12_takeStep_157 : decode cX12_takeStep 157 = .ok (.invokevirtual 198, 3) := by decide +kernel
theorem dX12_takeStep_160 : decode cX12_takeStep 160 = .ok (.aload_n 0, 1) := by decide +kernel
theorem dX12_takeStep_161 : decode cX12_takeStep 161 = .ok (.bipush 59, 2) := by decide +kernel
theorem dX12_takeStep_163 : decode cX12_takeStep 163 = .ok (.invokevirtual 195, 3) := by decide +kernel
theorem dX12_takeStep_166 : decode cX12_takeStep 166 = .ok (.return_, 1) := by decide +kernel
set_option maxRecDepth 20000 in
theorem ggX12_read_X12_next : GoodIn wsX12_read wsX12_next := goodIn_r _ [14, 5, 7, 15, 16, 17, 18, 6, 19, 20, 21, 22, 23, 24, 25, 26, 13, 27, 28, 29, 30, 31, 93, 94, 95, 96, 97, 98, 99, 100, 101, 102, 103, 104, 105, 106, 107, 108, 109, 110, 111, 112, 113, 114, 115, 116, 117, 118, 119, 120, 121, 122, 123, 124, 125, 126, 127, 128, 129, 130, 131, 132] (by decide +kernel) (by decide +kernel)
set_option maxRecDepth 20000 in
theorem gX12_read_X12_next : GoodIn wsX12_read (wsV RX12 146 RX12 yX12_next wsX12_next) := goodIn_app (goodIn_of _ (by decide +kernel)) ggX12_read_X12_next
set_option maxRecDepth 20000 in
theorem ggX12_read_X12_fine : GoodIn wsX12_read wsX12_fine := goodIn_r _ [35, 1, 93, 94, 95, 96, 97, 98, 99, 100, 101, 102, 103, 104, 105, 106, 107, 108, 109, 110, 111, 112, 113, 114, 115, 116, 117, 118, 119, 120, 121, 122, 123, 124, 125, 126, 127, 128, 129, 130, 131, 132] (by decide +kernel) (by decide +kernel)
set_option maxRecDepth 20000 in
theorem gX12_read_X12_fine : GoodIn wsX12_read (wsV RX12 142 RX12 yX12_fine wsX12_fine) := goodIn_app (goodIn_of _ (by decide +kernel)) ggX12_read_X12_fine
set_option maxRecDepth 20000 in
theorem ggX12_read_X12_put : GoodIn wsX12_read wsX12_put := goodIn_r _ [39, 40, 2, 41, 42, 43, 44, 45, 8, 93, 94, 95, 96, 97, 98, 99, 100, 101, 102, 103, 104, 105, 106, 107, 108, 109, 110, 111, 112, 113, 114, 115, 116, 117, 118, 119, 120, 121, 122, 123, 124, 125, 126, 127, 128, 129, 130, 131, 132] (by decide +kernel) (by decide +kernel)
set_option maxRecDepth 20000 in
theorem gX12_read_X12_put : GoodIn wsX12_read (wsV RX12 192 RX12 yX12_put wsX12_put) := goodIn_app (goodIn_of _ (by decide +kernel)) ggX12_read_X12_put
set_option maxRecDepth 20000 in
theorem ggX12_read_X12_want : GoodIn wsX12_read wsX12_want := goodIn_r _ [49, 6, 32, 33, 34, 13, 35, 1, 10, 11, 12, 14, 5, 7, 15, 16, 17, 18, 19, 20, 21, 22, 23, 24, 25, 26, 27, 28, 29, 30, 31, 50, 51, 52, 53, 54, 93, 94, 95, 96, 97, 98, 99, 100, 101, 102, 103, 104, 105, 106, 107, 108, 109, 110, 111, 112, 113, 114, 115, 116, 117, 118, 119, 120, 121, 122, 123, 124, 125, 126, 127, 128, 129, 130, 131, 132] (by decide +kernel) (by decide +kernel)
set_option maxRecDepth 20000 in
theorem gX12_read_X12_want : GoodIn wsX12_read (wsV RX12 195 RX12 yX12_want wsX12_want) := goodIn_app (goodIn_of _ (by decide +kernel)) ggX12_read_X12_want
set_option maxRecDepth 20000 in
theorem ggX12_read_X12_takeStep : GoodIn wsX12_read wsX12_takeStep := goodIn_r _ [58, 6, 15, 17, 4, 3, 7, 43, 9, 59, 60, 13, 61, 62, 63, 64, 21, 65, 66, 67, 68, 69, 70, 71, 50, 51, 52, 53, 1, 54, 32, 33, 34, 35, 36, 37, 38, 39, 40, 2, 41, 42, 44, 45, 8, 10, 11, 12, 14, 5, 16, 18, 19, 20, 22, 23, 24, 25, 26, 27, 28, 29, 30, 31, 72, 73, 74, 75, 46, 47, 48, 49, 76, 77, 78, 79, 80, 81, 82, 83, 84, 85, 86, 87, 88, 89, 90, 91, 92, 93, 94, 95, 96, 97, 98, 99, 100, 101, 102, 103, 104, 105, 106, 107, 108, 109, 110, 111, 112, 113, 114, 115, 116, 117, 118, 119, 120, 121, 122, 123, 124, 125, 126, 127, 128, 129, 130, 131, 132] (by decide +kernel) (by decide +kernel)
set_option maxRecDepth 20000 in
theorem gX12_read_X12_takeStep : GoodIn wsX12_read (wsV RX12 202 RX12 yX12_takeStep wsX12_takeStep) := goodIn_app (goodIn_of _ (by decide +kernel)) ggX12_read_X12_takeStep
theorem dX12_read_0 : decode cX12_read 0 = .ok (.aload_n 0, 1) := by decide +kernel
theorem dX12_read_1 : decode cX12_read 1 = .ok (.iconst 0, 1) := by decide +kernel
theorem dX12_read_2 : decode cX12_read 2 = .ok (.putfield 136, 3) := by decide +kernel
theorem dX12_read_5 : decode cX12_read 5 = .ok (.aload_n 0, 1) := by decide +kernel
theorem dX12_read_6 : decode cX12_read 6 = .ok (.iconst 0, 1) := by decide +kernel
theorem dX12_read_7 : decode cX12_read 7 = .ok (.putfield 166, 3) := by decide +kernel
theorem dX12_read_10 : decode cX12_read 10 = .ok (.aload_n 0, 1) := by decide +kernel
theorem dX12_read_11 : decode cX12_read 11 = .ok (.iconst 0, 1) := by decide +kernel
theorem dX12_read_12 : decode cX12_read 12 = .ok (.putfield 189, 3) := by decide +kernel
theorem dX12_read_15 : decode cX12_read 15 = .ok (.aload_n 0, 1) := by decide +kernel
theorem dX12_read_16 : decode cX12_read 16 = .ok (.iconst 0, 1) := by decide +kernel
theorem dX12_read_17 : decode cX12_read 17 = .ok (.putfield 186, 3) := by decide +kernel
theorem dX12_read_20 : decode cX12_read 20 = .ok (.aload_n 0, 1) := by decide +kernel
theorem dX12_read_21 : decode cX12_read 21 = .ok (.iconst 0, 1) := by decide +kernel
theorem dX12_read_22 : decode cX12_read 22 = .ok (.putfield 103, 3) := by decide +kernel
theorem dX12_read_25 : decode cX12_read 25 = .ok (.aload_n 0, 1) := by decide +kernel
theorem dX12_read_26 : decode cX12_read 26 = .ok (.invokevirtual 146, 3) := by decide +kernel
theorem dX12_read_29 : decode cX12_read 29 = .ok (.aload_n 0, 1) := by decide +kernel
theorem dX12_read_30 : decode cX12_read 30 = .ok (.invokevirtual 142, 3) := by decide +kernel
theorem dX12_read_33 : decode cX12_read 33 = .ok (.ifCond .eq 105, 3) := by decide +kernel
theorem dX12_read_36 : decode cX12_read 36 = .ok (.aload_n 0, 1) := by decide +kernel
theorem dX12_read_37 : decode cX12_read 37 = .ok (.getfield 123, 3) := by decide +kernel
theorem dX12_read_40 : decode cX12_read 40 = .ok (.iconst (-1), 1) := by decide +kernel
theorem dX12_read_41 : decode cX12_read 41 = .ok (.if_icmp .ne 10, 3) := by decide +kernel
theorem dX12_read_44 : decode cX12_read 44 = .ok (.aload_n 0, 1) := by decide +kernel
theorem dX12_read_45 : decode cX12_read 45 = .ok (.getfield 186, 3) := by decide +kernel
theorem dX12_read_48 : decode cX12_read 48 = .ok (.ifCond .le 90, 3) := by decide +kernel
theorem dX12_read_51 : decode cX12_read 51 = .ok (.aload_n 0, 1) := by decide +kernel
theorem dX12_read_52 : decode cX12_read 52 = .ok (.getfield 123, 3) := by decide +kernel
theorem dX12_read_55 : decode cX12_read 55 = .ok (.bipush 125, 2) := by decide +kernel
theorem dX12_read_57 : decode cX12_read 57 = .ok (.if_icmp .ne 74, 3) := by decide +kernel
theorem dX12_read_60 : decode cX12_read 60 = .ok (.aload_n 0, 1) := by decide +kernel
theorem dX12_read_61 : decode cX12_read 61 = .ok (.getfield 186, 3) := by decide +kernel
theorem dX12_read_64 : decode cX12_read 64 = .ok (.ifCond .le 67, 3) := by decide +kernel
theorem dX12_read_67 : decode cX12_read 67 = .ok (.aload_n 0, 1) := by decide +kernel
theorem dX12_read_68 : decode cX12_read 68 = .ok (.dup, 1) := by decide +kernel
theorem dX12_read_69 : decode cX12_read 69 = .ok (.getfield 186, 3) := by decide +kernel
theorem dX12_read_72 : decode cX12_read 72 = .ok (.iconst 1, 1) := by decide +kernel
theorem dX12_read_73 : decode cX12_read 73 = .ok (.isub, 1) := by decide +kernel
theorem dX12_read_74 : decode cX12_read 74 = .ok (.putfield 186, 3) := by decide +kernel
theorem dX12_read_77 : decode cX12_read 77 = .ok (.aload_n 0, 1) := by decide +kernel
theorem dX12_read_78 : decode cX12_read 78 = .ok (.bipush 15, 2) := by decide +kernel
theorem dX12_read_80 : decode cX12_read 80 = .ok (.aload_n 0, 1) := by decide +kernel
theorem dX12_read_81 : decode cX12_read 81 = .ok (.getfield 110, 3) := by decide +kernel
theorem dX12_read_84 : decode cX12_read 84 = .ok (.invokevirtual 192, 3) := by decide +kernel
theorem dX12_read_87 : decode cX12_read 87 = .ok (.istore_n 1, 1) := by decide +kernel
theorem dX12_read_88 : decode cX12_read 88 = .ok (.aload_n 0, 1) := by decide +kernel
theorem dX12_read_89 : decode cX12_read 89 = .ok (.getfield 39, 3) := by decide +kernel
theorem dX12_read_92 : decode cX12_read 92 = .ok (.iload_n 1, 1) := by decide +kernel
theorem dX12_read_93 : decode cX12_read 93 = .ok (.aload_n 0, 1) := by decide +kernel
theorem dX12_read_94 : decode cX12_read 94 = .ok (.getfield 42, 3) := by decide +kernel
theorem dX12_read_97 : decode cX12_read 97 = .ok (.aload_n 0, 1) := by decide +kernel
theorem dX12_read_98 : decode cX12_read 98 = .ok (.getfield 186, 3) := by decide +kernel
theorem dX12_read_101 : decode cX12_read 101 = .ok (.iaload, 1) := by decide +kernel
theorem dX12_read_102 : decode cX12_read 102 = .ok (.iastore, 1) := by decide +kernel
theorem dX12_read_103 : decode cX12_read 103 = .ok (.aload_n 0, 1) := by decide +kernel
theorem dX12_read_104 : decode cX12_read 104 = .ok (.getfield 39, 3) := by decide +kernel
theorem dX12_read_107 : decode cX12_read 107 = .ok (.aload_n 0, 1) := by decide +kernel
theorem dX12_read_108 : decode cX12_read 108 = .ok (.getfield 42, 3) := by decide +kernel
theorem dX12_read_111 : decode cX12_read 111 = .ok (.aload_n 0, 1) := by decide +kernel
theorem dX12_read_112 : decode cX12_read 112 = .ok (.getfield 186, 3) := by decide +kernel
theorem dX12_read_115 : decode cX12_read 115 = .ok (.iaload, 1) := by decide +kernel
theorem dX12_read_116 : decode cX12_read 116 = .ok (.iload_n 1, 1) := by decide +kernel
theorem dX12_read_117 : decode cX12_read 117 = .ok (.iastore, 1) := by decide +kernel
theorem dX12_read_118 : decode cX12_read 118 = .ok (.aload_n 0, 1) := by decide +kernel
theorem dX12_read_119 : decode cX12_read 119 = .ok (.invokevirtual 146, 3) := by decide +kernel
theorem dX12_read_122 : decode cX12_read 122 = .ok (.aload_n 0, 1) := by decide +kernel
theorem dX12_read_123 : decode cX12_read 123 = .ok (.bipush 59, 2) := by decide +kernel
theorem dX12_read_125 : decode cX12_read 125 = .ok (.invokevirtual 195, 3) := by decide +kernel
theorem dX12_read_128 : decode cX12_read 128 = .ok (.goto (-99), 3) := by decide +kernel
theorem dX12_read_131 : decode cX12_read 131 = .ok (.aload_n 0, 1) := by decide +kernel
theorem dX12_read_132 : decode cX12_read 132 = .ok (.invokevirtual 202, 3) := by decide +kernel
theorem dX12_read_135 : decode cX12_read 135 = .ok (.goto (-106), 3) := by decide +kernel
theorem dX12_read_138 : decode cX12_read 138 = .ok (.return_, 1) := by decide +kernel
theorem dX12_beside_0 : decode cX12_beside 0 = .ok (.iload_n 0, 1) := by decide +kernel
theorem dX12_beside_1 : decode cX12_beside 1 = .ok (.bipush 12, 2) := by decide +kernel
theorem dX12_beside_3 : decode cX12_beside 3 = .ok (.irem, 1) := by decide +kernel
theorem dX12_beside_4 : decode cX12_beside 4 = .ok (.istore_n 2, 1) := by decide +kernel
theorem dX12_beside_5 : decode cX12_beside 5 = .ok (.iload_n 0, 1) := by decide +kernel
theorem dX12_beside_6 : decode cX12_beside 6 = .ok (.bipush 12, 2) := by decide +kernel
theorem dX12_beside_8 : decode cX12_beside 8 = .ok (.idiv, 1) := by decide +kernel
theorem dX12_beside_9 : decode cX12_beside 9 = .ok (.bipush 12, 2) := by decide +kernel
theorem dX12_beside_11 : decode cX12_beside 11 = .ok (.irem, 1) := by decide +kernel
theorem dX12_beside_12 : decode cX12_beside 12 = .ok (.istore_n 3, 1) := by decide +kernel
theorem dX12_beside_13 : decode cX12_beside 13 = .ok (.iload_n 0, 1) := by decide +kernel
theorem dX12_beside_14 : decode cX12_beside 14 = .ok (.sipush 144, 3) := by decide +kernel
theorem dX12_beside_17 : decode cX12_beside 17 = .ok (.idiv, 1) := by decide +kernel
theorem dX12_beside_18 : decode cX12_beside 18 = .ok (.istore 4, 2) := by decide +kernel
theorem dX12_beside_20 : decode cX12_beside 20 = .ok (.iload_n 1, 1) := by decide +kernel
theorem dX12_beside_21 : decode cX12_beside 21 = .ok (.tableswitch 104 0 4 #[35, 47, 61, 74, 89], 35) := by decide +kernel
theorem dX12_beside_56 : decode cX12_beside 56 = .ok (.iload_n 2, 1) := by decide +kernel
theorem dX12_beside_57 : decode cX12_beside 57 = .ok (.ifCond .le 9, 3) := by decide +kernel
theorem dX12_beside_60 : decode cX12_beside 60 = .ok (.iload_n 0, 1) := by decide +kernel
theorem dX12_beside_61 : decode cX12_beside 61 = .ok (.iconst 1, 1) := by decide +kernel
theorem dX12_beside_62 : decode cX12_beside 62 = .ok (.isub, 1) := by decide +kernel
theorem dX12_beside_63 : decode cX12_beside 63 = .ok (.goto 4, 3) := by decide +kernel
theorem dX12_beside_66 : decode cX12_beside 66 = .ok (.iconst (-1), 1) := by decide +kernel
theorem dX12_beside_67 : decode cX12_beside 67 = .ok (.ireturn, 1) := by decide +kernel
theorem dX12_beside_68 : decode cX12_beside 68 = .ok (.iload_n 2, 1) := by decide +kernel
theorem dX12_beside_69 : decode cX12_beside 69 = .ok (.bipush 11, 2) := by decide +kernel
theorem dX12_beside_71 : decode cX12_beside 71 = .ok (.if_icmp .ge 9, 3) := by decide +kernel
theorem dX12_beside_74 : decode cX12_beside 74 = .ok (.iload_n 0, 1) := by decide +kernel
theorem dX12_beside_75 : decode cX12_beside 75 = .ok (.iconst 1, 1) := by decide +kernel
theorem dX12_beside_76 : decode cX12_beside 76 = .ok (.iadd, 1) := by decide +kernel
theorem dX12_beside_77 : decode cX12_beside 77 = .ok (.goto 4, 3) := by decide +kernel
theorem dX12_beside_80 : decode cX12_beside 80 = .ok (.iconst (-1), 1) := by decide +kernel
theorem dX12_beside_81 : decode cX12_beside 81 = .ok (.ireturn, 1) := by decide +kernel
theorem dX12_beside_82 : decode cX12_beside 82 = .ok (.iload_n 3, 1) := by decide +kernel
theorem dX12_beside_83 : decode cX12_beside 83 = .ok (.ifCond .le 10, 3) := by decide +kernel
theorem dX12_beside_86 : decode cX12_beside 86 = .ok (.iload_n 0, 1) := by decide +kernel
theorem dX12_beside_87 : decode cX12_beside 87 = .ok (.bipush 12, 2) := by decide +kernel
theorem dX12_beside_89 : decode cX12_beside 89 = .ok (.isub, 1) := by decide +kernel
theorem dX12_beside_90 : decode cX12_beside 90 = .ok (.goto 4, 3) := by decide +kernel
theorem dX12_beside_93 : decode cX12_beside 93 = .ok (.iconst (-1), 1) := by decide +kernel
theorem dX12_beside_94 : decode cX12_beside 94 = .ok (.ireturn, 1) := by decide +kernel
theorem dX12_beside_95 : decode cX12_beside 95 = .ok (.iload_n 3, 1) := by decide +kernel
theorem dX12_beside_96 : decode cX12_beside 96 = .ok (.bipush 11, 2) := by decide +kernel
theorem dX12_beside_98 : decode cX12_beside 98 = .ok (.if_icmp .ge 10, 3) := by decide +kernel
theorem dX12_beside_101 : decode cX12_beside 101 = .ok (.iload_n 0, 1) := by decide +kernel
theorem dX12_beside_102 : decode cX12_beside 102 = .ok (.bipush 12, 2) := by decide +kernel
theorem dX12_beside_104 : decode cX12_beside 104 = .ok (.iadd, 1) := by decide +kernel
theorem dX12_beside_105 : decode cX12_beside 105 = .ok (.goto 4, 3) := by decide +kernel
theorem dX12_beside_108 : decode cX12_beside 108 = .ok (.iconst (-1), 1) := by decide +kernel
theorem dX12_beside_109 : decode cX12_beside 109 = .ok (.ireturn, 1) := by decide +kernel
theorem dX12_beside_110 : decode cX12_beside 110 = .ok (.iload 4, 2) := by decide +kernel
theorem dX12_beside_112 : decode cX12_beside 112 = .ok (.ifCond .le 11, 3) := by decide +kernel
theorem dX12_beside_115 : decode cX12_beside 115 = .ok (.iload_n 0, 1) := by decide +kernel
theorem dX12_beside_116 : decode cX12_beside 116 = .ok (.sipush 144, 3) := by decide +kernel
theorem dX12_beside_119 : decode cX12_beside 119 = .ok (.isub, 1) := by decide +kernel
theorem dX12_beside_120 : decode cX12_beside 120 = .ok (.goto 4, 3) := by decide +kernel
theorem dX12_beside_123 : decode cX12_beside 123 = .ok (.iconst (-1), 1) := by decide +kernel
theorem dX12_beside_124 : decode cX12_beside 124 = .ok (.ireturn, 1) := by decide +kernel
theorem dX12_beside_125 : decode cX12_beside 125 = .ok (.iload 4, 2) := by decide +kernel
theorem dX12_beside_127 : decode cX12_beside 127 = .ok (.bipush 19, 2) := by decide +kernel
theorem dX12_beside_129 : decode cX12_beside 129 = .ok (.if_icmp .ge 11, 3) := by decide +kernel
theorem dX12_beside_132 : decode cX12_beside 132 = .ok (.iload_n 0, 1) := by decide +kernel
theorem dX12_beside_133 : decode cX12_beside 133 = .ok (.sipush 144, 3) := by decide +kernel
theorem dX12_beside_136 : decode cX12_beside 136 = .ok (.iadd, 1) := by decide +kernel
theorem dX12_beside_137 : decode cX12_beside 137 = .ok (.goto 4, 3) := by decide +kernel
theorem dX12_beside_140 : decode cX12_beside 140 = .ok (.iconst (-1), 1) := by decide +kernel
theorem dX12_beside_141 : decode cX12_beside 141 = .ok (.ireturn, 1) := by decide +kernel
theorem dX12_come_0 : decode cX12_come 0 = .ok (.aload_n 0, 1) := by decide +kernel
theorem dX12_come_1 : decode cX12_come 1 = .ok (.getfield 45, 3) := by decide +kernel
theorem dX12_come_4 : decode cX12_come 4 = .ok (.iload_n 1, 1) := by decide +kernel
theorem dX12_come_5 : decode cX12_come 5 = .ok (.baload, 1) := by decide +kernel
theorem dX12_come_6 : decode cX12_come 6 = .ok (.ifCond .ne 30, 3) := by decide +kernel
theorem dX12_come_9 : decode cX12_come 9 = .ok (.aload_n 0, 1) := by decide +kernel
theorem dX12_come_10 : decode cX12_come 10 = .ok (.getfield 45, 3) := by decide +kernel
theorem dX12_come_13 : decode cX12_come 13 = .ok (.iload_n 1, 1) := by decide +kernel
theorem dX12_come_14 : decode cX12_come 14 = .ok (.iconst 1, 1) := by decide +kernel
theorem dX12_come_15 : decode cX12_come 15 = .ok (.bastore, 1) := by decide +kernel
theorem dX12_come_16 : decode cX12_come 16 = .ok (.aload_n 0, 1) := by decide +kernel
theorem dX12_come_17 : decode cX12_come 17 = .ok (.getfield 48, 3) := by decide +kernel
theorem dX12_come_20 : decode cX12_come 20 = .ok (.aload_n 0, 1) := by decide +kernel
theorem dX12_come_21 : decode cX12_come 21 = .ok (.getfield 205, 3) := by decide +kernel
theorem dX12_come_24 : decode cX12_come 24 = .ok (.iload_n 1, 1) := by decide +kernel
theorem dX12_come_25 : decode cX12_come 25 = .ok (.iastore, 1) := by decide +kernel
theorem dX12_come_26 : decode cX12_come 26 = .ok (.aload_n 0, 1) := by decide +kernel
theorem dX12_come_27 : decode cX12_come 27 = .ok (.dup, 1) := by decide +kernel
theorem dX12_come_28 : decode cX12_come 28 = .ok (.getfield 205, 3) := by decide +kernel
theorem dX12_come_31 : decode cX12_come 31 = .ok (.iconst 1, 1) := by decide +kernel
theorem dX12_come_32 : decode cX12_come 32 = .ok (.iadd, 1) := by decide +kernel
theorem dX12_come_33 : decode cX12_come 33 = .ok (.putfield 205, 3) := by decide +kernel
theorem dX12_come_36 : decode cX12_come 36 = .ok (.return_, 1) := by decide +kernel
theorem dX12_clearMarks_0 : decode cX12_clearMarks 0 = .ok (.iconst 0, 1) := by decide +kernel
theorem dX12_clearMarks_1 : decode cX12_clearMarks 1 = .ok (.istore_n 1, 1) := by decide +kernel
theorem dX12_clearMarks_2 : decode cX12_clearMarks 2 = .ok (.iload_n 1, 1) := by decide +kernel
theorem dX12_clearMarks_3 : decode cX12_clearMarks 3 = .ok (.sipush 2880, 3) := by decide +kernel
theorem dX12_clearMarks_6 : decode cX12_clearMarks 6 = .ok (.if_icmp .ge 16, 3) := by decide +kernel
theorem dX12_clearMarks_9 : decode cX12_clearMarks 9 = .ok (.aload_n 0, 1) := by decide +kernel
theorem dX12_clearMarks_10 : decode cX12_clearMarks 10 = .ok (.getfield 45, 3) := by decide +kernel
theorem dX12_clearMarks_13 : decode cX12_clearMarks 13 = .ok (.iload_n 1, 1) := by decide +kernel
theorem dX12_clearMarks_14 : decode cX12_clearMarks 14 = .ok (.iconst 0, 1) := by decide +kernel
theorem dX12_clearMarks_15 : decode cX12_clearMarks 15 = .ok (.bastore, 1) := by decide +kernel
theorem dX12_clearMarks_16 : decode cX12_clearMarks 16 = .ok (.iinc 1 1, 3) := by decide +kernel
theorem dX12_clearMarks_19 : decode cX12_clearMarks 19 = .ok (.goto (-17), 3) := by decide +kernel
theorem dX12_clearMarks_22 : decode cX12_clearMarks 22 = .ok (.aload_n 0, 1) := by decide +kernel
theorem dX12_clearMarks_23 : decode cX12_clearMarks 23 = .ok (.iconst 0, 1) := by decide +kernel
theorem dX12_clearMarks_24 : decode cX12_clearMarks 24 = .ok (.putfield 205, 3) := by decide +kernel
theorem dX12_clearMarks_27 : decode cX12_clearMarks 27 = .ok (.return_, 1) := by decide +kernel
set_option maxRecDepth 20000 in
theorem ggX12_spread_X12_beside : GoodIn wsX12_spread wsX12_beside := goodIn_r _ [7] (by decide +kernel) (by decide +kernel)
set_option maxRecDepth 20000 in
theorem gX12_spread_X12_beside : GoodIn wsX12_spread (va_wsS RX12 208 yX12_beside wsX12_beside) := goodIn_app (goodIn_of _ (by decide +kernel)) ggX12_spread_X12_beside
set_option maxRecDepth 20000 in
theorem ggX12_spread_X12_come : GoodIn wsX12_spread wsX12_come := goodIn_r _ [11, 12, 2, 1, 13, 14, 15, 16, 17, 18, 19, 20, 21, 22, 23, 24, 25, 26, 27, 28, 29, 30, 31, 32, 33, 34, 35, 36, 37, 38, 39, 40, 41, 42, 43, 44, 45, 46, 47, 48, 49, 50, 51, 52] (by decide +kernel) (by decide +kernel)
set_option maxRecDepth 20000 in
theorem gX12_spread_X12_come : GoodIn wsX12_spread (wsV RX12 211 RX12 yX12_come wsX12_come) := goodIn_app (goodIn_of _ (by decide +kernel)) ggX12_spread_X12_come
theorem dX12_spread_0 : decode cX12_spread 0 = .ok (.iconst 0, 1) := by decide +kernel
theorem dX12_spread_1 : decode cX12_spread 1 = .ok (.istore_n 2, 1) := by decide +kernel
theorem dX12_spread_2 : decode cX12_spread 2 = .ok (.iload_n 2, 1) := by decide +kernel
theorem dX12_spread_3 : decode cX12_spread 3 = .ok (.aload_n 0, 1) := by decide +kernel
theorem dX12_spread_4 : decode cX12_spread 4 = .ok (.getfield 205, 3) := by decide +kernel
theorem dX12_spread_7 : decode cX12_spread 7 = .ok (.if_icmp .ge 61, 3) := by decide +kernel
theorem dX12_spread_10 : decode cX12_spread 10 = .ok (.iconst 0, 1) := by decide +kernel
theorem dX12_spread_11 : decode cX12_spread 11 = .ok (.istore_n 3, 1) := by decide +kernel
theorem dX12_spread_12 : decode cX12_spread 12 = .ok (.iload_n 3, 1) := by decide +kernel
theorem dX12_spread_13 : decode cX12_spread 13 = .ok (.bipush 6, 2) := by decide +kernel
theorem dX12_spread_15 : decode cX12_spread 15 = .ok (.if_icmp .ge 47, 3) := by decide +kernel
theorem dX12_spread_18 : decode cX12_spread 18 = .ok (.aload_n 0, 1) := by decide +kernel
theorem dX12_spread_19 : decode cX12_spread 19 = .ok (.getfield 48, 3) := by decide +kernel
theorem dX12_spread_22 : decode cX12_spread 22 = .ok (.iload_n 2, 1) := by decide +kernel
theorem dX12_spread_23 : decode cX12_spread 23 = .ok (.iaload, 1) := by decide +kernel
theorem dX12_spread_24 : decode cX12_spread 24 = .ok (.iload_n 3, 1) := by decide +kernel
theorem dX12_spread_25 : decode cX12_spread 25 = .ok (.invokestatic 208, 3) := by decide +kernel
theorem dX12_spread_28 : decode cX12_spread 28 = .ok (.istore 4, 2) := by decide +kernel
theorem dX12_spread_30 : decode cX12_spread 30 = .ok (.iload 4, 2) := by decide +kernel
theorem dX12_spread_32 : decode cX12_spread 32 = .ok (.ifCond .lt 24, 3) := by decide +kernel
theorem dX12_spread_35 : decode cX12_spread 35 = .ok (.iload_n 1, 1) := by decide +kernel
theorem dX12_spread_36 : decode cX12_spread 36 = .ok (.aload_n 0, 1) := by decide +kernel
theorem dX12_spread_37 : decode cX12_spread 37 = .ok (.getfield 7, 3) := by decide +kernel
theorem dX12_spread_40 : decode cX12_spread 40 = .ok (.iload 4, 2) := by decide +kernel
theorem dX12_spread_42 : decode cX12_spread 42 = .ok (.iaload, 1) := by decide +kernel
theorem dX12_spread_43 : decode cX12_spread 43 = .ok (.ishr, 1) := by decide +kernel
theorem dX12_spread_44 : decode cX12_spread 44 = .ok (.iconst 1, 1) := by decide +kernel
theorem dX12_spread_45 : decode cX12_spread 45 = .ok (.iand, 1) := by decide +kernel
theorem dX12_spread_46 : decode cX12_spread 46 = .ok (.iconst 1, 1) := by decide +kernel
theorem dX12_spread_47 : decode cX12_spread 47 = .ok (.if_icmp .ne 9, 3) := by decide +kernel
theorem dX12_spread_50 : decode cX12_spread 50 = .ok (.aload_n 0, 1) := by decide +kernel
theorem dX12_spread_51 : decode cX12_spread 51 = .ok (.iload 4, 2) := by decide +kernel
theorem dX12_spread_53 : decode cX12_spread 53 = .ok (.invokevirtual 211, 3) := by decide +kernel
theorem dX12_spread_56 : decode cX12_spread 56 = .ok (.iinc 3 1, 3) := by decide +kernel
theorem dX12_spread_59 : decode cX12_spread 59 = .ok (.goto (-47), 3) := by decide +kernel
theorem dX12_spread_62 : decode cX12_spread 62 = .ok (.iinc 2 1, 3) := by decide +kernel
theorem dX12_spread_65 : decode cX12_spread 65 = .ok (.goto (-63), 3) := by decide +kernel
theorem dX12_spread_68 : decode cX12_spread 68 = .ok (.return_, 1) := by decide +kernel
set_option maxRecDepth 20000 in
theorem ggX12_findOpen_X12_clearMarks : GoodIn wsX12_findOpen wsX12_clearMarks := goodIn_r _ [6, 7, 8, 21, 22, 23, 24, 25, 26, 27, 28, 29, 30, 31, 32, 33, 34, 35, 36, 37, 38, 39, 40, 41, 42, 43, 44, 45, 46, 47, 48, 49, 50, 51, 52, 53, 54, 55, 56, 57, 58, 59, 60] (by decide +kernel) (by decide +kernel)
set_option maxRecDepth 20000 in
theorem gX12_findOpen_X12_clearMarks : GoodIn wsX12_findOpen (wsV RX12 214 RX12 yX12_clearMarks wsX12_clearMarks) := goodIn_app (goodIn_of _ (by decide +kernel)) ggX12_findOpen_X12_clearMarks
set_option maxRecDepth 20000 in
theorem ggX12_findOpen_X12_come : GoodIn wsX12_findOpen wsX12_come := goodIn_r _ [12, 7, 13, 8, 21, 22, 23, 24, 25, 26, 27, 28, 29, 30, 31, 32, 33, 34, 35, 36, 37, 38, 39, 40, 41, 42, 43, 44, 45, 46, 47, 48, 49, 50, 51, 52, 53, 54, 55, 56, 57, 58, 59, 60] (by decide +kernel) (by decide +kernel)
set_option maxRecDepth 20000 in
theorem gX12_findOpen_X12_come : GoodIn wsX12_findOpen (wsV RX12 211 RX12 yX12_come wsX12_come) := goodIn_app (goodIn_of _ (by decide +kernel)) ggX12_findOpen_X12_come
set_option maxRecDepth 20000 in
theorem ggX12_findOpen_X12_spread : GoodIn wsX12_findOpen wsX12_spread := goodIn_r _ [17, 8, 13, 1, 18, 19, 5, 20, 9, 10, 11, 12, 7, 21, 22, 23, 24, 25, 26, 27, 28, 29, 30, 31, 32, 33, 34, 35, 36, 37, 38, 39, 40, 41, 42, 43, 44, 45, 46, 47, 48, 49, 50, 51, 52, 53, 54, 55, 56, 57, 58, 59, 60] (by decide +kernel) (by decide +kernel)
set_option maxRecDepth 20000 in
theorem gX12_findOpen_X12_spread : GoodIn wsX12_findOpen (wsV RX12 217 RX12 yX12_spread wsX12_spread) := goodIn_app (goodIn_of _ (by decide +kernel)) ggX12_findOpen_X12_spread
theorem dX12_findOpen_0 : decode cX12_findOpen 0 = .ok (.aload_n 0, 1) := by decide +kernel
theorem dX12_findOpen_1 : decode cX12_findOpen 1 = .ok (.invokevirtual 214, 3) := by decide +kernel
theorem dX12_findOpen_4 : decode cX12_findOpen 4 = .ok (.sipush 2736, 3) := by decide +kernel
theorem dX12_findOpen_7 : decode cX12_findOpen 7 = .ok (.istore_n 1, 1) := by decide +kernel
theorem dX12_findOpen_8 : decode cX12_findOpen 8 = .ok (.iload_n 1, 1) := by decide +kernel
theorem dX12_findOpen_9 : decode cX12_findOpen 9 = .ok (.sipush 2880, 3) := by decide +kernel
theorem dX12_findOpen_12 : decode cX12_findOpen 12 = .ok (.if_icmp .ge 23, 3) := by decide +kernel
theorem dX12_findOpen_15 : decode cX12_findOpen 15 = .ok (.aload_n 0, 1) := by decide +kernel
theorem dX12_findOpen_16 : decode cX12_findOpen 16 = .ok (.getfield 7, 3) := by decide +kernel
theorem dX12_findOpen_19 : decode cX12_findOpen 19 = .ok (.iload_n 1, 1) := by decide +kernel
theorem dX12_findOpen_20 : decode cX12_findOpen 20 = .ok (.iaload, 1) := by decide +kernel
theorem dX12_findOpen_21 : decode cX12_findOpen 21 = .ok (.ifCond .ne 8, 3) := by decide +kernel
theorem dX12_findOpen_24 : decode cX12_findOpen 24 = .ok (.aload_n 0, 1) := by decide +kernel
theorem dX12_findOpen_25 : decode cX12_findOpen 25 = .ok (.iload_n 1, 1) := by decide +kernel
theorem dX12_findOpen_26 : decode cX12_findOpen 26 = .ok (.invokevirtual 211, 3) := by decide +kernel
theorem dX12_findOpen_29 : decode cX12_findOpen 29 = .ok (.iinc 1 1, 3) := by decide +kernel
theorem dX12_findOpen_32 : decode cX12_findOpen 32 = .ok (.goto (-24), 3) := by decide +kernel
theorem dX12_findOpen_35 : decode cX12_findOpen 35 = .ok (.aload_n 0, 1) := by decide +kernel
theorem dX12_findOpen_36 : decode cX12_findOpen 36 = .ok (.iconst 1, 1) := by decide +kernel
theorem dX12_findOpen_37 : decode cX12_findOpen 37 = .ok (.invokevirtual 217, 3) := by decide +kernel
theorem dX12_findOpen_40 : decode cX12_findOpen 40 = .ok (.return_, 1) := by decide +kernel
set_option maxRecDepth 20000 in
theorem ggX12_findStanding_X12_clearMarks : GoodIn wsX12_findStanding wsX12_clearMarks := goodIn_r _ [6, 7, 8, 21, 22, 23, 24, 25, 26, 27, 28, 29, 30, 31, 32, 33, 34, 35, 36, 37, 38, 39, 40, 41, 42, 43, 44, 45, 46, 47, 48, 49, 50, 51, 52, 53, 54, 55, 56, 57, 58, 59, 60] (by decide +kernel) (by decide +kernel)
set_option maxRecDepth 20000 in
theorem gX12_findStanding_X12_clearMarks : GoodIn wsX12_findStanding (wsV RX12 214 RX12 yX12_clearMarks wsX12_clearMarks) := goodIn_app (goodIn_of _ (by decide +kernel)) ggX12_findStanding_X12_clearMarks
set_option maxRecDepth 20000 in
theorem ggX12_findStanding_X12_come : GoodIn wsX12_findStanding wsX12_come := goodIn_r _ [12, 7, 13, 8, 21, 22, 23, 24, 25, 26, 27, 28, 29, 30, 31, 32, 33, 34, 35, 36, 37, 38, 39, 40, 41, 42, 43, 44, 45, 46, 47, 48, 49, 50, 51, 52, 53, 54, 55, 56, 57, 58, 59, 60] (by decide +kernel) (by decide +kernel)
set_option maxRecDepth 20000 in
theorem gX12_findStanding_X12_come : GoodIn wsX12_findStanding (wsV RX12 211 RX12 yX12_come wsX12_come) := goodIn_app (goodIn_of _ (by decide +kernel)) ggX12_findStanding_X12_come
set_option maxRecDepth 20000 in
theorem ggX12_findStanding_X12_spread : GoodIn wsX12_findStanding wsX12_spread := goodIn_r _ [17, 8, 13, 1, 18, 19, 5, 20, 9, 10, 11, 12, 7, 21, 22, 23, 24, 25, 26, 27, 28, 29, 30, 31, 32, 33, 34, 35, 36, 37, 38, 39, 40, 41, 42, 43, 44, 45, 46, 47, 48, 49, 50, 51, 52, 53, 54, 55, 56, 57, 58, 59, 60] (by decide +kernel) (by decide +kernel)
set_option maxRecDepth 20000 in
theorem gX12_findStanding_X12_spread : GoodIn wsX12_findStanding (wsV RX12 217 RX12 yX12_spread wsX12_spread) := goodIn_app (goodIn_of _ (by decide +kernel)) ggX12_findStanding_X12_spread
theorem dX12_findStanding_0 : decode cX12_findStanding 0 = .ok (.aload_n 0, 1) := by decide +kernel
theorem dX12_findStanding_1 : decode cX12_findStanding 1 = .ok (.invokevirtual 214, 3) := by decide +kernel
theorem dX12_findStanding_4 : decode cX12_findStanding 4 = .ok (.iconst 0, 1) := by decide +kernel
theorem dX12_findStanding_5 : decode cX12_findStanding 5 = .ok (.istore_n 1, 1) := by decide +kernel
theorem dX12_findStanding_6 : decode cX12_findStanding 6 = .ok (.iload_n 1, 1) := by decide +kernel
theorem dX12_findStanding_7 : decode cX12_findStanding 7 = .ok (.sipush 144, 3) := by decide +kernel
theorem dX12_findStanding_10 : decode cX12_findStanding 10 = .ok (.if_icmp .ge 23, 3) := by decide +kernel
theorem dX12_findStanding_13 : decode cX12_findStanding 13 = .ok (.aload_n 0, 1) := by decide +kernel
theorem dX12_findStanding_14 : decode cX12_findStanding 14 = .ok (.getfield 7, 3) := by decide +kernel
theorem dX12_findStanding_17 : decode cX12_findStanding 17 = .ok (.iload_n 1, 1) := by decide +kernel
theorem dX12_findStanding_18 : decode cX12_findStanding 18 = .ok (.iaload, 1) := by decide +kernel
theorem dX12_findStanding_19 : decode cX12_findStanding 19 = .ok (.ifCond .le 8, 3) := by decide +kernel
theorem dX12_findStanding_22 : decode cX12_findStanding 22 = .ok (.aload_n 0, 1) := by decide +kernel
theorem dX12_findStanding_23 : decode cX12_findStanding 23 = .ok (.iload_n 1, 1) := by decide +kernel
theorem dX12_findStanding_24 : decode cX12_findStanding 24 = .ok (.invokevirtual 211, 3) := by decide +kernel
theorem dX12_findStanding_27 : decode cX12_findStanding 27 = .ok (.iinc 1 1, 3) := by decide +kernel
theorem dX12_findStanding_30 : decode cX12_findStanding 30 = .ok (.goto (-24), 3) := by decide +kernel
theorem dX12_findStanding_33 : decode cX12_findStanding 33 = .ok (.aload_n 0, 1) := by decide +kernel
theorem dX12_findStanding_34 : decode cX12_findStanding 34 = .ok (.sipush 254, 3) := by decide +kernel
theorem dX12_findStanding_37 : decode cX12_findStanding 37 = .ok (.invokevirtual 217, 3) := by decide +kernel
theorem dX12_findStanding_40 : decode cX12_findStanding 40 = .ok (.return_, 1) := by decide +kernel
set_option maxRecDepth 20000 in
theorem ggX12_touches_X12_beside : GoodIn wsX12_touches wsX12_beside := goodIn_r _ [4] (by decide +kernel) (by decide +kernel)
set_option maxRecDepth 20000 in
theorem gX12_touches_X12_beside : GoodIn wsX12_touches (va_wsS RX12 208 yX12_beside wsX12_beside) := goodIn_app (goodIn_of _ (by decide +kernel)) ggX12_touches_X12_beside
theorem dX12_touches_0 : decode cX12_touches 0 = .ok (.iconst 0, 1) := by decide +kernel
theorem dX12_touches_1 : decode cX12_touches 1 = .ok (.istore_n 3, 1) := by decide +kernel
theorem dX12_touches_2 : decode cX12_touches 2 = .ok (.iconst 0, 1) := by decide +kernel
theorem dX12_touches_3 : decode cX12_touches 3 = .ok (.istore 4, 2) := by decide +kernel
theorem dX12_touches_5 : decode cX12_touches 5 = .ok (.iload 4, 2) := by decide +kernel
theorem dX12_touches_7 : decode cX12_touches 7 = .ok (.bipush 6, 2) := by decide +kernel
theorem dX12_touches_9 : decode cX12_touches 9 = .ok (.if_icmp .ge 39, 3) := by decide +kernel
theorem dX12_touches_12 : decode cX12_touches 12 = .ok (.iload_n 1, 1) := by decide +kernel
theorem dX12_touches_13 : decode cX12_touches 13 = .ok (.iload 4, 2) := by decide +kernel
theorem dX12_touches_15 : decode cX12_touches 15 = .ok (.invokestatic 208, 3) := by decide +kernel
theorem dX12_touches_18 : decode cX12_touches 18 = .ok (.istore 5, 2) := by decide +kernel
theorem dX12_touches_20 : decode cX12_touches 20 = .ok (.iload_n 3, 1) := by decide +kernel
theorem dX12_touches_21 : decode cX12_touches 21 = .ok (.ifCond .ne 15, 3) := by decide +kernel
theorem dX12_touches_24 : decode cX12_touches 24 = .ok (.iload 5, 2) := by decide +kernel
theorem dX12_touches_26 : decode cX12_touches 26 = .ok (.ifCond .lt 14, 3) := by decide +kernel
theorem dX12_touches_29 : decode cX12_touches 29 = .ok (.aload_n 2, 1) := by decide +kernel
theorem dX12_touches_30 : decode cX12_touches 30 = .ok (.iload 5, 2) := by decide +kernel
theorem dX12_touches_32 : decode cX12_touches 32 = .ok (.baload, 1) := by decide +kernel
theorem dX12_touches_33 : decode cX12_touches 33 = .ok (.ifCond .eq 7, 3) := by decide +kernel
theorem dX12_touches_36 : decode cX12_touches 36 = .ok (.iconst 1, 1) := by decide +kernel
theorem dX12_touches_37 : decode cX12_touches 37 = .ok (.goto 4, 3) := by decide +kernel
theorem dX12_touches_40 : decode cX12_touches 40 = .ok (.iconst 0, 1) := by decide +kernel
theorem dX12_touches_41 : decode cX12_touches 41 = .ok (.istore_n 3, 1) := by decide +kernel
theorem dX12_touches_42 : decode cX12_touches 42 = .ok (.iinc 4 1, 3) := by decide +kernel
theorem dX12_touches_45 : decode cX12_touches 45 = .ok (.goto (-40), 3) := by decide +kernel
theorem dX12_touches_48 : decode cX12_touches 48 = .ok (.iload_n 3, 1) := by decide +kernel
theorem dX12_touches_49 : decode cX12_touches 49 = .ok (.ireturn, 1) := by decide +kernel
set_option maxRecDepth 20000 in
theorem ggX12_touchesStuff_X12_beside : GoodIn wsX12_touchesStuff wsX12_beside := goodIn_r _ [5] (by decide +kernel) (by decide +kernel)
set_option maxRecDepth 20000 in
theorem gX12_touchesStuff_X12_beside : GoodIn wsX12_touchesStuff (va_wsS RX12 208 yX12_beside wsX12_beside) := goodIn_app (goodIn_of _ (by decide +kernel)) ggX12_touchesStuff_X12_beside
theorem dX12_touchesStuff_0 : decode cX12_touchesStuff 0 = .ok (.iconst 0, 1) := by decide +kernel
theorem dX12_touchesStuff_1 : decode cX12_touchesStuff 1 = .ok (.istore_n 2, 1) := by decide +kernel
theorem dX12_touchesStuff_2 : decode cX12_touchesStuff 2 = .ok (.iconst 0, 1) := by decide +kernel
theorem dX12_touchesStuff_3 : decode cX12_touchesStuff 3 = .ok (.istore_n 3, 1) := by decide +kernel
theorem dX12_touchesStuff_4 : decode cX12_touchesStuff 4 = .ok (.iload_n 3, 1) := by decide +kernel
theorem dX12_touchesStuff_5 : decode cX12_touchesStuff 5 = .ok (.bipush 6, 2) := by decide +kernel
theorem dX12_touchesStuff_7 : decode cX12_touchesStuff 7 = .ok (.if_icmp .ge 41, 3) := by decide +kernel
theorem dX12_touchesStuff_10 : decode cX12_touchesStuff 10 = .ok (.iload_n 1, 1) := by decide +kernel
theorem dX12_touchesStuff_11 : decode cX12_touchesStuff 11 = .ok (.iload_n 3, 1) := by decide +kernel
theorem dX12_touchesStuff_12 : decode cX12_touchesStuff 12 = .ok (.invokestatic 208, 3) := by decide +kernel
theorem dX12_touchesStuff_15 : decode cX12_touchesStuff 15 = .ok (.istore 4, 2) := by decide +kernel
theorem dX12_touchesStuff_17 : decode cX12_touchesStuff 17 = .ok (.iload_n 2, 1) := by decide +kernel
theorem dX12_touchesStuff_18 : decode cX12_touchesStuff 18 = .ok (.ifCond .ne 18, 3) := by decide +kernel
theorem dX12_touchesStuff_21 : decode cX12_touchesStuff 21 = .ok (.iload 4, 2) := by decide +kernel
theorem dX12_touchesStuff_23 : decode cX12_touchesStuff 23 = .ok (.ifCond .lt 17, 3) := by decide +kernel
theorem dX12_touchesStuff_26 : decode cX12_touchesStuff 26 = .ok (.aload_n 0, 1) := by decide +kernel
theorem dX12_touchesStuff_27 : decode cX12_touchesStuff 27 = .ok (.getfield 7, 3) := by decide +kernel
theorem dX12_touchesStuff_30 : decode cX12_touchesStuff 30 = .ok (.iload 4, 2) := by decide +kernel
theorem dX12_touchesStuff_32 : decode cX12_touchesStuff 32 = .ok (.iaload, 1) := by decide +kernel
theorem dX12_touchesStuff_33 : decode cX12_touchesStuff 33 = .ok (.ifCond .le 7, 3) := by decide +kernel
theorem dX12_touchesStuff_36 : decode cX12_touchesStuff 36 = .ok (.iconst 1, 1) := by decide +kernel
theorem dX12_touchesStuff_37 : decode cX12_touchesStuff 37 = .ok (.goto 4, 3) := by decide +kernel
theorem dX12_touchesStuff_40 : decode cX12_touchesStuff 40 = .ok (.iconst 0, 1) := by decide +kernel
theorem dX12_touchesStuff_41 : decode cX12_touchesStuff 41 = .ok (.istore_n 2, 1) := by decide +kernel
theorem dX12_touchesStuff_42 : decode cX12_touchesStuff 42 = .ok (.iinc 3 1, 3) := by decide +kernel
theorem dX12_touchesStuff_45 : decode cX12_touchesStuff 45 = .ok (.goto (-41), 3) := by decide +kernel
theorem dX12_touchesStuff_48 : decode cX12_touchesStuff 48 = .ok (.iload_n 2, 1) := by decide +kernel
theorem dX12_touchesStuff_49 : decode cX12_touchesStuff 49 = .ok (.ireturn, 1) := by decide +kernel
theorem dX12_topOf_0 : decode cX12_topOf 0 = .ok (.bipush 19, 2) := by decide +kernel
theorem dX12_topOf_2 : decode cX12_topOf 2 = .ok (.istore_n 2, 1) := by decide +kernel
theorem dX12_topOf_3 : decode cX12_topOf 3 = .ok (.iload_n 2, 1) := by decide +kernel
theorem dX12_topOf_4 : decode cX12_topOf 4 = .ok (.ifCond .lt 24, 3) := by decide +kernel
theorem dX12_topOf_7 : decode cX12_topOf 7 = .ok (.aload_n 0, 1) := by decide +kernel
theorem dX12_topOf_8 : decode cX12_topOf 8 = .ok (.getfield 7, 3) := by decide +kernel
theorem dX12_topOf_11 : decode cX12_topOf 11 = .ok (.sipush 144, 3) := by decide +kernel
theorem dX12_topOf_14 : decode cX12_topOf 14 = .ok (.iload_n 2, 1) := by decide +kernel
theorem dX12_topOf_15 : decode cX12_topOf 15 = .ok (.imul, 1) := by decide +kernel
theorem dX12_topOf_16 : decode cX12_topOf 16 = .ok (.iload_n 1, 1) := by decide +kernel
theorem dX12_topOf_17 : decode cX12_topOf 17 = .ok (.iadd, 1) := by decide +kernel
theorem dX12_topOf_18 : decode cX12_topOf 18 = .ok (.iaload, 1) := by decide +kernel
theorem dX12_topOf_19 : decode cX12_topOf 19 = .ok (.ifCond .ne 9, 3) := by decide +kernel
theorem dX12_topOf_22 : decode cX12_topOf 22 = .ok (.iinc 2 (-1), 3) := by decide +kernel
theorem dX12_topOf_25 : decode cX12_topOf 25 = .ok (.goto (-22), 3) := by decide +kernel
theorem dX12_topOf_28 : decode cX12_topOf 28 = .ok (.iload_n 2, 1) := by decide +kernel
theorem dX12_topOf_29 : decode cX12_topOf 29 = .ok (.ireturn, 1) := by decide +kernel
set_option maxRecDepth 20000 in
theorem ggX12_layAt_X12_topOf : GoodIn wsX12_layAt wsX12_topOf := goodIn_r _ [6, 1, 7, 8, 9, 10, 11, 12, 13, 14, 15, 16, 17, 18, 19, 20, 21, 22, 23, 24, 25, 26, 27, 28, 29, 30, 31, 32, 33, 34, 35, 36, 37, 38, 39, 40, 41, 42, 43, 44, 45, 46] (by decide +kernel) (by decide +kernel)
set_option maxRecDepth 20000 in
theorem gX12_layAt_X12_topOf : GoodIn wsX12_layAt (wsV RX12 220 RX12 yX12_topOf wsX12_topOf) := goodIn_app (goodIn_of _ (by decide +kernel)) ggX12_layAt_X12_topOf
theorem dX12_layAt_0 : decode cX12_layAt 0 = .ok (.aload_n 0, 1) := by decide +kernel
theorem dX12_layAt_1 : decode cX12_layAt 1 = .ok (.iload_n 1, 1) := by decide +kernel
theorem dX12_layAt_2 : decode cX12_layAt 2 = .ok (.invokevirtual 220, 3) := by decide +kernel
theorem dX12_layAt_5 : decode cX12_layAt 5 = .ok (.istore 4, 2) := by decide +kernel
theorem dX12_layAt_7 : decode cX12_layAt 7 = .ok (.iload 4, 2) := by decide +kernel
theorem dX12_layAt_9 : decode cX12_layAt 9 = .ok (.iconst 1, 1) := by decide +kernel
theorem dX12_layAt_10 : decode cX12_layAt 10 = .ok (.iadd, 1) := by decide +kernel
theorem dX12_layAt_11 : decode cX12_layAt 11 = .ok (.istore 5, 2) := by decide +kernel
theorem dX12_layAt_13 : decode cX12_layAt 13 = .ok (.iload 5, 2) := by decide +kernel
theorem dX12_layAt_15 : decode cX12_layAt 15 = .ok (.iload 4, 2) := by decide +kernel
theorem dX12_layAt_17 : decode cX12_layAt 17 = .ok (.iload_n 3, 1) := by decide +kernel
theorem dX12_layAt_18 : decode cX12_layAt 18 = .ok (.iadd, 1) := by decide +kernel
theorem dX12_layAt_19 : decode cX12_layAt 19 = .ok (.if_icmp .gt 30, 3) := by decide +kernel
theorem dX12_layAt_22 : decode cX12_layAt 22 = .ok (.iload 5, 2) := by decide +kernel
theorem dX12_layAt_24 : decode cX12_layAt 24 = .ok (.bipush 20, 2) := by decide +kernel
theorem dX12_layAt_26 : decode cX12_layAt 26 = .ok (.if_icmp .ge 23, 3) := by decide +kernel
theorem dX12_layAt_29 : decode cX12_layAt 29 = .ok (.aload_n 0, 1) := by decide +kernel
theorem dX12_layAt_30 : decode cX12_layAt 30 = .ok (.getfield 7, 3) := by decide +kernel
theorem dX12_layAt_33 : decode cX12_layAt 33 = .ok (.sipush 144, 3) := by decide +kernel
theorem dX12_layAt_36 : decode cX12_layAt 36 = .ok (.iload 5, 2) := by decide +kernel
theorem dX12_layAt_38 : decode cX12_layAt 38 = .ok (.imul, 1) := by decide +kernel
theorem dX12_layAt_39 : decode cX12_layAt 39 = .ok (.iload_n 1, 1) := by decide +kernel
theorem dX12_layAt_40 : decode cX12_layAt 40 = .ok (.iadd, 1) := by decide +kernel
theorem dX12_layAt_41 : decode cX12_layAt 41 = .ok (.iload_n 2, 1) := by decide +kernel
theorem dX12_layAt_42 : decode cX12_layAt 42 = .ok (.iastore, 1) := by decide +kernel
theorem dX12_layAt_43 : decode cX12_layAt 43 = .ok (.iinc 5 1, 3) := by decide +kernel
theorem dX12_layAt_46 : decode cX12_layAt 46 = .ok (.goto (-33), 3) := by decide +kernel
theorem dX12_layAt_49 : decode cX12_layAt 49 = .ok (.return_, 1) := by decide +kernel
set_option maxRecDepth 20000 in
theorem ggX12_cutAt_X12_topOf : GoodIn wsX12_cutAt wsX12_topOf := goodIn_r _ [6, 1, 7, 8, 9, 10, 11, 12, 13, 14, 15, 16, 17, 18, 19, 20, 21, 22, 23, 24, 25, 26, 27, 28, 29, 30, 31, 32, 33, 34, 35, 36, 37, 38, 39, 40, 41, 42, 43, 44, 45, 46] (by decide +kernel) (by decide +kernel)
set_option maxRecDepth 20000 in
theorem gX12_cutAt_X12_topOf : GoodIn wsX12_cutAt (wsV RX12 220 RX12 yX12_topOf wsX12_topOf) := goodIn_app (goodIn_of _ (by decide +kernel)) ggX12_cutAt_X12_topOf
theorem dX12_cutAt_0 : decode cX12_cutAt 0 = .ok (.iconst 0, 1) := by decide +kernel
theorem dX12_cutAt_1 : decode cX12_cutAt 1 = .ok (.istore 4, 2) := by decide +kernel
theorem dX12_cutAt_3 : decode cX12_cutAt 3 = .ok (.iload 4, 2) := by decide +kernel
theorem dX12_cutAt_5 : decode cX12_cutAt 5 = .ok (.iload_n 3, 1) := by decide +kernel
theorem dX12_cutAt_6 : decode cX12_cutAt 6 = .ok (.if_icmp .ge 56, 3) := by decide +kernel
theorem dX12_cutAt_9 : decode cX12_cutAt 9 = .ok (.aload_n 0, 1) := by decide +kernel
theorem dX12_cutAt_10 : decode cX12_cutAt 10 = .ok (.iload_n 1, 1) := by decide +kernel
theorem dX12_cutAt_11 : decode cX12_cutAt 11 = .ok (.invokevirtual 220, 3) := by decide +kernel
theorem dX12_cutAt_14 : decode cX12_cutAt 14 = .ok (.istore 5, 2) := by decide +kernel
theorem dX12_cutAt_16 : decode cX12_cutAt 16 = .ok (.iload 5, 2) := by decide +kernel
theorem dX12_cutAt_18 : decode cX12_cutAt 18 = .ok (.ifCond .lt 38, 3) := by decide +kernel
theorem dX12_cutAt_21 : decode cX12_cutAt 21 = .ok (.iload_n 2, 1) := by decide +kernel
theorem dX12_cutAt_22 : decode cX12_cutAt 22 = .ok (.aload_n 0, 1) := by decide +kernel
theorem dX12_cutAt_23 : decode cX12_cutAt 23 = .ok (.getfield 7, 3) := by decide +kernel
theorem dX12_cutAt_26 : decode cX12_cutAt 26 = .ok (.sipush 144, 3) := by decide +kernel
theorem dX12_cutAt_29 : decode cX12_cutAt 29 = .ok (.iload 5, 2) := by decide +kernel
theorem dX12_cutAt_31 : decode cX12_cutAt 31 = .ok (.imul, 1) := by decide +kernel
theorem dX12_cutAt_32 : decode cX12_cutAt 32 = .ok (.iload_n 1, 1) := by decide +kernel
theorem dX12_cutAt_33 : decode cX12_cutAt 33 = .ok (.iadd, 1) := by decide +kernel
theorem dX12_cutAt_34 : decode cX12_cutAt 34 = .ok (.iaload, 1) := by decide +kernel
theorem dX12_cutAt_35 : decode cX12_cutAt 35 = .ok (.ishr, 1) := by decide +kernel
theorem dX12_cutAt_36 : decode cX12_cutAt 36 = .ok (.iconst 1, 1) := by decide +kernel
theorem dX12_cutAt_37 : decode cX12_cutAt 37 = .ok (.iand, 1) := by decide +kernel
theorem dX12_cutAt_38 : decode cX12_cutAt 38 = .ok (.iconst 1, 1) := by decide +kernel
theorem dX12_cutAt_39 : decode cX12_cutAt 39 = .ok (.if_icmp .ne 17, 3) := by decide +kernel
theorem dX12_cutAt_42 : decode cX12_cutAt 42 = .ok (.aload_n 0, 1) := by decide +kernel
theorem dX12_cutAt_43 : decode cX12_cutAt 43 = .ok (.getfield 7, 3) := by decide +kernel
theorem dX12_cutAt_46 : decode cX12_cutAt 46 = .ok (.sipush 144, 3) := by decide +kernel
theorem dX12_cutAt_49 : decode cX12_cutAt 49 = .ok (.iload 5, 2) := by decide +kernel
theorem dX12_cutAt_51 : decode cX12_cutAt 51 = .ok (.imul, 1) := by decide +kernel
theorem dX12_cutAt_52 : decode cX12_cutAt 52 = .ok (.iload_n 1, 1) := by decide +kernel
theorem dX12_cutAt_53 : decode cX12_cutAt 53 = .ok (.iadd, 1) := by decide +kernel
theorem dX12_cutAt_54 : decode cX12_cutAt 54 = .ok (.iconst 0, 1) := by decide +kernel
theorem dX12_cutAt_55 : decode cX12_cutAt 55 = .ok (.iastore, 1) := by decide +kernel
theorem dX12_cutAt_56 : decode cX12_cutAt 56 = .ok (.iinc 4 1, 3) := by decide +kernel
theorem dX12_cutAt_59 : decode cX12_cutAt 59 = .ok (.goto (-56), 3) := by decide +kernel
theorem dX12_cutAt_62 : decode cX12_cutAt 62 = .ok (.return_, 1) := by decide +kernel
set_option maxRecDepth 20000 in
theorem ggX12_dopeAt_X12_topOf : GoodIn wsX12_dopeAt wsX12_topOf := goodIn_r _ [6, 1, 7, 8, 9, 10, 11, 12, 13, 14, 15, 16, 17, 18, 19, 20, 21, 22, 23, 24, 25, 26, 27, 28, 29, 30, 31, 32, 33, 34, 35, 36, 37, 38, 39, 40, 41, 42, 43, 44, 45, 46] (by decide +kernel) (by decide +kernel)
set_option maxRecDepth 20000 in
theorem gX12_dopeAt_X12_topOf : GoodIn wsX12_dopeAt (wsV RX12 220 RX12 yX12_topOf wsX12_topOf) := goodIn_app (goodIn_of _ (by decide +kernel)) ggX12_dopeAt_X12_topOf
theorem dX12_dopeAt_0 : decode cX12_dopeAt 0 = .ok (.aload_n 0, 1) := by decide +kernel
theorem dX12_dopeAt_1 : decode cX12_dopeAt 1 = .ok (.iload_n 1, 1) := by decide +kernel
theorem dX12_dopeAt_2 : decode cX12_dopeAt 2 = .ok (.invokevirtual 220, 3) := by decide +kernel
theorem dX12_dopeAt_5 : decode cX12_dopeAt 5 = .ok (.istore 6, 2) := by decide +kernel
theorem dX12_dopeAt_7 : decode cX12_dopeAt 7 = .ok (.iconst 0, 1) := by decide +kernel
theorem dX12_dopeAt_8 : decode cX12_dopeAt 8 = .ok (.istore 7, 2) := by decide +kernel
theorem dX12_dopeAt_10 : decode cX12_dopeAt 10 = .ok (.iload 7, 2) := by decide +kernel
theorem dX12_dopeAt_12 : decode cX12_dopeAt 12 = .ok (.iload 4, 2) := by decide +kernel
theorem dX12_dopeAt_14 : decode cX12_dopeAt 14 = .ok (.if_icmp .ge 117, 3) := by decide +kernel
theorem dX12_dopeAt_17 : decode cX12_dopeAt 17 = .ok (.iload 6, 2) := by decide +kernel
theorem dX12_dopeAt_19 : decode cX12_dopeAt 19 = .ok (.ifCond .lt 112, 3) := by decide +kernel
theorem dX12_dopeAt_22 : decode cX12_dopeAt 22 = .ok (.sipush 144, 3) := by decide +kernel
theorem dX12_dopeAt_25 : decode cX12_dopeAt 25 = .ok (.iload 6, 2) := by decide +kernel
theorem dX12_dopeAt_27 : decode cX12_dopeAt 27 = .ok (.imul, 1) := by decide +kernel
theorem dX12_dopeAt_28 : decode cX12_dopeAt 28 = .ok (.iload_n 1, 1) := by decide +kernel
theorem dX12_dopeAt_29 : decode cX12_dopeAt 29 = .ok (.iadd, 1) := by decide +kernel
theorem dX12_dopeAt_30 : decode cX12_dopeAt 30 = .ok (.istore 8, 2) := by decide +kernel
theorem dX12_dopeAt_32 : decode cX12_dopeAt 32 = .ok (.aload_n 0, 1) := by decide +kernel
theorem dX12_dopeAt_33 : decode cX12_dopeAt 33 = .ok (.getfield 7, 3) := by decide +kernel
theorem dX12_dopeAt_36 : decode cX12_dopeAt 36 = .ok (.iload 8, 2) := by decide +kernel
theorem dX12_dopeAt_38 : decode cX12_dopeAt 38 = .ok (.iaload, 1) := by decide +kernel
theorem dX12_dopeAt_39 : decode cX12_dopeAt 39 = .ok (.iload_n 2, 1) := by decide +kernel
theorem dX12_dopeAt_40 : decode cX12_dopeAt 40 = .ok (.if_icmp .eq 29, 3) := by decide +kernel
theorem dX12_dopeAt_43 : decode cX12_dopeAt 43 = .ok (.aload_n 0, 1) := by decide +kernel
theorem dX12_dopeAt_44 : decode cX12_dopeAt 44 = .ok (.getfield 7, 3) := by decide +kernel
theorem dX12_dopeAt_47 : decode cX12_dopeAt 47 = .ok (.iload 8, 2) := by decide +kernel
theorem dX12_dopeAt_49 : decode cX12_dopeAt 49 = .ok (.iaload, 1) := by decide +kernel
theorem dX12_dopeAt_50 : decode cX12_dopeAt 50 = .ok (.ifCond .le 23, 3) := by decide +kernel
theorem dX12_dopeAt_53 : decode cX12_dopeAt 53 = .ok (.iload 5, 2) := by decide +kernel
theorem dX12_dopeAt_55 : decode cX12_dopeAt 55 = .ok (.aload_n 0, 1) := by decide +kernel
theorem dX12_dopeAt_56 : decode cX12_dopeAt 56 = .ok (.getfield 7, 3) := by decide +kernel
theorem dX12_dopeAt_59 : decode cX12_dopeAt 59 = .ok (.iload 8, 2) := by decide +kernel
theorem dX12_dopeAt_61 : decode cX12_dopeAt 61 = .ok (.iaload, 1) := by decide +kernel
theorem dX12_dopeAt_62 : decode cX12_dopeAt 62 = .ok (.ishr, 1) := by decide +kernel
theorem dX12_dopeAt_63 : decode cX12_dopeAt 63 = .ok (.iconst 1, 1) := by decide +kernel
theorem dX12_dopeAt_64 : decode cX12_dopeAt 64 = .ok (.iand, 1) := by decide +kernel
theorem dX12_dopeAt_65 : decode cX12_dopeAt 65 = .ok (.iconst 1, 1) := by decide +kernel
theorem dX12_dopeAt_66 : decode cX12_dopeAt 66 = .ok (.if_icmp .ne 7, 3) := by decide +kernel
theorem dX12_dopeAt_69 : decode cX12_dopeAt 69 = .ok (.iconst 1, 1) := by decide +kernel
theorem dX12_dopeAt_70 : decode cX12_dopeAt 70 = .ok (.goto 4, 3) := by decide +kernel
theorem dX12_dopeAt_73 : decode cX12_dopeAt 73 = .ok (.iconst 0, 1) := by decide +kernel
theorem dX12_dopeAt_74 : decode cX12_dopeAt 74 = .ok (.istore 9, 2) := by decide +kernel
theorem dX12_dopeAt_76 : decode cX12_dopeAt 76 = .ok (.aload_n 0, 1) := by decide +kernel
theorem dX12_dopeAt_77 : decode cX12_dopeAt 77 = .ok (.getfield 7, 3) := by decide +kernel
theorem dX12_dopeAt_80 : decode cX12_dopeAt 80 = .ok (.iload 8, 2) := by decide +kernel
theorem dX12_dopeAt_82 : decode cX12_dopeAt 82 = .ok (.iload 9, 2) := by decide +kernel
theorem dX12_dopeAt_84 : decode cX12_dopeAt 84 = .ok (.ifCond .eq 18, 3) := by decide +kernel
theorem dX12_dopeAt_87 : decode cX12_dopeAt 87 = .ok (.aload_n 0, 1) := by decide +kernel
theorem dX12_dopeAt_88 : decode cX12_dopeAt 88 = .ok (.getfield 7, 3) := by decide +kernel
theorem dX12_dopeAt_91 : decode cX12_dopeAt 91 = .ok (.iload 8, 2) := by decide +kernel
theorem dX12_dopeAt_93 : decode cX12_dopeAt 93 = .ok (.iaload, 1) := by decide +kernel
theorem dX12_dopeAt_94 : decode cX12_dopeAt 94 = .ok (.iload_n 2, 1) := by decide +kernel
theorem dX12_dopeAt_95 : decode cX12_dopeAt 95 = .ok (.if_icmp .ne 7, 3) := by decide +kernel
theorem dX12_dopeAt_98 : decode cX12_dopeAt 98 = .ok (.iload_n 3, 1) := by decide +kernel
theorem dX12_dopeAt_99 : decode cX12_dopeAt 99 = .ok (.goto 10, 3) := by decide +kernel
theorem dX12_dopeAt_102 : decode cX12_dopeAt 102 = .ok (.aload_n 0, 1) := by decide +kernel
theorem dX12_dopeAt_103 : decode cX12_dopeAt 103 = .ok (.getfield 7, 3) := by decide +kernel
theorem dX12_dopeAt_106 : decode cX12_dopeAt 106 = .ok (.iload 8, 2) := by decide +kernel
theorem dX12_dopeAt_108 : decode cX12_dopeAt 108 = .ok (.iaload, 1) := by decide +kernel
theorem dX12_dopeAt_109 : decode cX12_dopeAt 109 = .ok (.iastore, 1) := by decide +kernel
theorem dX12_dopeAt_110 : decode cX12_dopeAt 110 = .ok (.iload 9, 2) := by decide +kernel
theorem dX12_dopeAt_112 : decode cX12_dopeAt 112 = .ok (.ifCond .eq 10, 3) := by decide +kernel
theorem dX12_dopeAt_115 : decode cX12_dopeAt 115 = .ok (.iload 6, 2) := by decide +kernel
theorem dX12_dopeAt_117 : decode cX12_dopeAt 117 = .ok (.iconst 1, 1) := by decide +kernel
theorem dX12_dopeAt_118 : decode cX12_dopeAt 118 = .ok (.isub, 1) := by decide +kernel
theorem dX12_dopeAt_119 : decode cX12_dopeAt 119 = .ok (.goto 4, 3) := by decide +kernel
theorem dX12_dopeAt_122 : decode cX12_dopeAt 122 = .ok (.iconst (-1), 1) := by decide +kernel
theorem dX12_dopeAt_123 : decode cX12_dopeAt 123 = .ok (.istore 6, 2) := by decide +kernel
theorem dX12_dopeAt_125 : decode cX12_dopeAt 125 = .ok (.iinc 7 1, 3) := by decide +kernel
theorem dX12_dopeAt_128 : decode cX12_dopeAt 128 = .ok (.goto (-118), 3) := by decide +kernel
theorem dX12_dopeAt_131 : decode cX12_dopeAt 131 = .ok (.return_, 1) := by decide +kernel
theorem dX12_change_0 : decode cX12_change 0 = .ok (.iconst 0, 1) := by decide +kernel
theorem dX12_change_1 : decode cX12_change 1 = .ok (.istore_n 2, 1) := by decide +kernel
theorem dX12_change_2 : decode cX12_change 2 = .ok (.iload_n 2, 1) := by decide +kernel
theorem dX12_change_3 : decode cX12_change 3 = .ok (.sipush 2880, 3) := by decide +kernel
theorem dX12_change_6 : decode cX12_change 6 = .ok (.if_icmp .ge 34, 3) := by decide +kernel
theorem dX12_change_9 : decode cX12_change 9 = .ok (.aload_n 0, 1) := by decide +kernel
theorem dX12_change_10 : decode cX12_change 10 = .ok (.getfield 7, 3) := by decide +kernel
theorem dX12_change_13 : decode cX12_change 13 = .ok (.iload_n 2, 1) := by decide +kernel
theorem dX12_change_14 : decode cX12_change 14 = .ok (.aload_n 0, 1) := by decide +kernel
theorem dX12_change_15 : decode cX12_change 15 = .ok (.getfield 51, 3) := by decide +kernel
theorem dX12_change_18 : decode cX12_change 18 = .ok (.iload_n 2, 1) := by decide +kernel
theorem dX12_change_19 : decode cX12_change 19 = .ok (.baload, 1) := by decide +kernel
theorem dX12_change_20 : decode cX12_change 20 = .ok (.ifCond .eq 7, 3) := by decide +kernel
theorem dX12_change_23 : decode cX12_change 23 = .ok (.iload_n 1, 1) := by decide +kernel
theorem dX12_change_24 : decode cX12_change 24 = .ok (.goto 9, 3) := by decide +kernel
theorem dX12_change_27 : decode cX12_change 27 = .ok (.aload_n 0, 1) := by decide +kernel
theorem dX12_change_28 : decode cX12_change 28 = .ok (.getfield 7, 3) := by decide +kernel
theorem dX12_change_31 : decode cX12_change 31 = .ok (.iload_n 2, 1) := by decide +kernel
theorem dX12_change_32 : decode cX12_change 32 = .ok (.iaload, 1) := by decide +kernel
theorem dX12_change_33 : decode cX12_change 33 = .ok (.iastore, 1) := by decide +kernel
theorem dX12_change_34 : decode cX12_change 34 = .ok (.iinc 2 1, 3) := by decide +kernel
theorem dX12_change_37 : decode cX12_change 37 = .ok (.goto (-35), 3) := by decide +kernel
theorem dX12_change_40 : decode cX12_change 40 = .ok (.return_, 1) := by decide +kernel
set_option maxRecDepth 20000 in
theorem ggX12_coat_X12_findOpen : GoodIn wsX12_coat wsX12_findOpen := goodIn_r _ [7, 8, 9, 10, 11, 6, 12, 2, 13, 14, 15, 16, 17, 18, 19, 20, 21, 22, 23, 24, 25, 34, 35, 36, 37, 38, 39, 40, 41, 42, 43, 44, 45, 46, 47, 48, 49, 50, 51, 52, 53, 54, 55, 56, 57, 58, 59, 60, 61, 62, 63, 64, 65, 66, 67, 68, 69, 70, 71, 72, 73] (by decide +kernel) (by decide +kernel)
set_option maxRecDepth 20000 in
theorem gX12_coat_X12_findOpen : GoodIn wsX12_coat (wsV RX12 223 RX12 yX12_findOpen wsX12_findOpen) := goodIn_app (goodIn_of _ (by decide +kernel)) ggX12_coat_X12_findOpen
set_option maxRecDepth 20000 in
theorem ggX12_coat_X12_touchesStuff : GoodIn wsX12_coat wsX12_touchesStuff := goodIn_r _ [29, 8, 23, 24, 6, 25, 34, 35, 36, 37, 38, 39, 40, 41, 42, 43, 44, 45, 46, 47, 48, 49, 50, 51, 52, 53, 54, 55, 56, 57, 58, 59, 60, 61, 62, 63, 64, 65, 66, 67, 68, 69, 70, 71, 72, 73] (by decide +kernel) (by decide +kernel)
set_option maxRecDepth 20000 in
theorem gX12_coat_X12_touchesStuff : GoodIn wsX12_coat (wsV RX12 226 RX12 yX12_touchesStuff wsX12_touchesStuff) := goodIn_app (goodIn_of _ (by decide +kernel)) ggX12_coat_X12_touchesStuff
set_option maxRecDepth 20000 in
theorem ggX12_coat_X12_change : GoodIn wsX12_coat wsX12_change := goodIn_r _ [33, 8, 1, 34, 35, 36, 37, 38, 39, 40, 41, 42, 43, 44, 45, 46, 47, 48, 49, 50, 51, 52, 53, 54, 55, 56, 57, 58, 59, 60, 61, 62, 63, 64, 65, 66, 67, 68, 69, 70, 71, 72, 73] (by decide +kernel) (by decide +kernel)
set_option maxRecDepth 20000 in
theorem gX12_coat_X12_change : GoodIn wsX12_coat (wsV RX12 230 RX12 yX12_change wsX12_change) := goodIn_app (goodIn_of _ (by decide +kernel)) ggX12_coat_X12_change
theorem dX12_coat_0 : decode cX12_coat 0 = .ok (.iconst 0, 1) := by decide +kernel
theorem dX12_coat_1 : decode cX12_coat 1 = .ok (.istore_n 3, 1) := by decide +kernel
theorem dX12_coat_2 : decode cX12_coat 2 = .ok (.iload_n 3, 1) := by decide +kernel
theorem dX12_coat_3 : decode cX12_coat 3 = .ok (.iload_n 2, 1) := by decide +kernel
theorem dX12_coat_4 : decode cX12_coat 4 = .ok (.if_icmp .ge 66, 3) := by decide +kernel
theorem dX12_coat_7 : decode cX12_coat 7 = .ok (.aload_n 0, 1) := by decide +kernel
theorem dX12_coat_8 : decode cX12_coat 8 = .ok (.invokevirtual 223, 3) := by decide +kernel
theorem dX12_coat_11 : decode cX12_coat 11 = .ok (.iconst 0, 1) := by decide +kernel
theorem dX12_coat_12 : decode cX12_coat 12 = .ok (.istore 4, 2) := by decide +kernel
theorem dX12_coat_14 : decode cX12_coat 14 = .ok (.iload 4, 2) := by decide +kernel
theorem dX12_coat_16 : decode cX12_coat 16 = .ok (.sipush 2880, 3) := by decide +kernel
theorem dX12_coat_19 : decode cX12_coat 19 = .ok (.if_icmp .ge 40, 3) := by decide +kernel
theorem dX12_coat_22 : decode cX12_coat 22 = .ok (.aload_n 0, 1) := by decide +kernel
theorem dX12_coat_23 : decode cX12_coat 23 = .ok (.getfield 51, 3) := by decide +kernel
theorem dX12_coat_26 : decode cX12_coat 26 = .ok (.iload 4, 2) := by decide +kernel
theorem dX12_coat_28 : decode cX12_coat 28 = .ok (.aload_n 0, 1) := by decide +kernel
theorem dX12_coat_29 : decode cX12_coat 29 = .ok (.getfield 45, 3) := by decide +kernel
theorem dX12_coat_32 : decode cX12_coat 32 = .ok (.iload 4, 2) := by decide +kernel
theorem dX12_coat_34 : decode cX12_coat 34 = .ok (.baload, 1) := by decide +kernel
theorem dX12_coat_35 : decode cX12_coat 35 = .ok (.ifCond .eq 16, 3) := by decide +kernel
theorem dX12_coat_38 : decode cX12_coat 38 = .ok (.aload_n 0, 1) := by decide +kernel
theorem dX12_coat_39 : decode cX12_coat 39 = .ok (.iload 4, 2) := by decide +kernel
theorem dX12_coat_41 : decode cX12_coat 41 = .ok (.invokevirtual 226, 3) := by decide +kernel
theorem dX12_coat_44 : decode cX12_coat 44 = .ok (.ifCond .eq 7, 3) := by decide +kernel
theorem dX12_coat_47 : decode cX12_coat 47 = .ok (.iconst 1, 1) := by decide +kernel
theorem dX12_coat_48 : decode cX12_coat 48 = .ok (.goto 4, 3) := by decide +kernel
theorem dX12_coat_51 : decode cX12_coat 51 = .ok (.iconst 0, 1) := by decide +kernel
theorem dX12_coat_52 : decode cX12_coat 52 = .ok (.bastore, 1) := by decide +kernel
theorem dX12_coat_53 : decode cX12_coat 53 = .ok (.iinc 4 1, 3) := by decide +kernel
theorem dX12_coat_56 : decode cX12_coat 56 = .ok (.goto (-42), 3) := by decide +kernel
theorem dX12_coat_59 : decode cX12_coat 59 = .ok (.aload_n 0, 1) := by decide +kernel
theorem dX12_coat_60 : decode cX12_coat 60 = .ok (.iload_n 1, 1) := by decide +kernel
theorem dX12_coat_61 : decode cX12_coat 61 = .ok (.invokevirtual 230, 3) := by decide +kernel
theorem dX12_coat_64 : decode cX12_coat 64 = .ok (.iinc 3 1, 3) := by decide +kernel
theorem dX12_coat_67 : decode cX12_coat 67 = .ok (.goto (-65), 3) := by decide +kernel
theorem dX12_coat_70 : decode cX12_coat 70 = .ok (.return_, 1) := by decide +kernel
set_option maxRecDepth 20000 in
theorem ggX12_chooseBare_X12_findOpen : GoodIn wsX12_chooseBare wsX12_findOpen := goodIn_r _ [8, 2, 9, 10, 11, 7, 12, 3, 13, 14, 15, 16, 17, 18, 19, 20, 21, 22, 23, 24, 25, 30, 31, 32, 33, 34, 35, 36, 37, 38, 39, 40, 41, 42, 43, 44, 45, 46, 47, 48, 49, 50, 51, 52, 53, 54, 55, 56, 57, 58, 59, 60, 61, 62, 63, 64, 65, 66, 67, 68, 69] (by decide +kernel) (by decide +kernel)
set_option maxRecDepth 20000 in
theorem gX12_chooseBare_X12_findOpen : GoodIn wsX12_chooseBare (wsV RX12 223 RX12 yX12_findOpen wsX12_findOpen) := goodIn_app (goodIn_of _ (by decide +kernel)) ggX12_chooseBare_X12_findOpen
set_option maxRecDepth 20000 in
theorem ggX12_chooseBare_X12_touches : GoodIn wsX12_chooseBare wsX12_touches := goodIn_r _ [29, 23, 24, 7, 25] (by decide +kernel) (by decide +kernel)
set_option maxRecDepth 20000 in
theorem gX12_chooseBare_X12_touches : GoodIn wsX12_chooseBare (wsV RX12 233 RX12 yX12_touches wsX12_touches) := goodIn_app (goodIn_of _ (by decide +kernel)) ggX12_chooseBare_X12_touches
theorem dX12_chooseBare_0 : decode cX12_chooseBare 0 = .ok (.aload_n 0, 1) := by decide +kernel
theorem dX12_chooseBare_1 : decode cX12_chooseBare 1 = .ok (.invokevirtual 223, 3) := by decide +kernel
theorem dX12_chooseBare_4 : decode cX12_chooseBare 4 = .ok (.iconst 0, 1) := by decide +kernel
theorem dX12_chooseBare_5 : decode cX12_chooseBare 5 = .ok (.istore_n 2, 1) := by decide +kernel
theorem dX12_chooseBare_6 : decode cX12_chooseBare 6 = .ok (.iload_n 2, 1) := by decide +kernel
theorem dX12_chooseBare_7 : decode cX12_chooseBare 7 = .ok (.sipush 2880, 3) := by decide +kernel
theorem dX12_chooseBare_10 : decode cX12_chooseBare 10 = .ok (.if_icmp .ge 62, 3) := by decide +kernel
theorem dX12_chooseBare_13 : decode cX12_chooseBare 13 = .ok (.aload_n 0, 1) := by decide +kernel
theorem dX12_chooseBare_14 : decode cX12_chooseBare 14 = .ok (.getfield 51, 3) := by decide +kernel
theorem dX12_chooseBare_17 : decode cX12_chooseBare 17 = .ok (.iload_n 2, 1) := by decide +kernel
theorem dX12_chooseBare_18 : decode cX12_chooseBare 18 = .ok (.aload_n 0, 1) := by decide +kernel
theorem dX12_chooseBare_19 : decode cX12_chooseBare 19 = .ok (.getfield 7, 3) := by decide +kernel
theorem dX12_chooseBare_22 : decode cX12_chooseBare 22 = .ok (.iload_n 2, 1) := by decide +kernel
theorem dX12_chooseBare_23 : decode cX12_chooseBare 23 = .ok (.iaload, 1) := by decide +kernel
theorem dX12_chooseBare_24 : decode cX12_chooseBare 24 = .ok (.ifCond .le 40, 3) := by decide +kernel
theorem dX12_chooseBare_27 : decode cX12_chooseBare 27 = .ok (.iload_n 1, 1) := by decide +kernel
theorem dX12_chooseBare_28 : decode cX12_chooseBare 28 = .ok (.aload_n 0, 1) := by decide +kernel
theorem dX12_chooseBare_29 : decode cX12_chooseBare 29 = .ok (.getfield 7, 3) := by decide +kernel
theorem dX12_chooseBare_32 : decode cX12_chooseBare 32 = .ok (.iload_n 2, 1) := by decide +kernel
theorem dX12_chooseBare_33 : decode cX12_chooseBare 33 = .ok (.iaload, 1) := by decide +kernel
