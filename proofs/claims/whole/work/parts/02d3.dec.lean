theorem dX8_isWishSide_26 : decode cX8_isWishSide 26 = .ok (.ireturn, 1) := by decide +kernel
theorem dX8_turnedX_0 : decode cX8_turnedX 0 = .ok (.iload_n 2, 1) := by decide +kernel
theorem dX8_turnedX_1 : decode cX8_turnedX 1 = .ok (.tableswitch 41 1 3 #[27, 29, 35], 27) := by decide +kernel
theorem dX8_turnedX_28 : decode cX8_turnedX 28 = .ok (.iload_n 1, 1) := by decide +kernel
theorem dX8_turnedX_29 : decode cX8_turnedX 29 = .ok (.ireturn, 1) := by decide +kernel
theorem dX8_turnedX_30 : decode cX8_turnedX 30 = .ok (.iload_n 3, 1) := by decide +kernel
theorem dX8_turnedX_31 : decode cX8_turnedX 31 = .ok (.iconst 1, 1) := by decide +kernel
theorem dX8_turnedX_32 : decode cX8_turnedX 32 = .ok (.isub, 1) := by decide +kernel
theorem dX8_turnedX_33 : decode cX8_turnedX 33 = .ok (.iload_n 0, 1) := by decide +kernel
theorem dX8_turnedX_34 : decode cX8_turnedX 34 = .ok (.isub, 1) := by decide +kernel
theorem dX8_turnedX_35 : decode cX8_turnedX 35 = .ok (.ireturn, 1) := by decide +kernel
theorem dX8_turnedX_36 : decode cX8_turnedX 36 = .ok (.iload_n 3, 1) := by decide +kernel
theorem dX8_turnedX_37 : decode cX8_turnedX 37 = .ok (.iconst 1, 1) := by decide +kernel
theorem dX8_turnedX_38 : decode cX8_turnedX 38 = .ok (.isub, 1) := by decide +kernel
theorem dX8_turnedX_39 : decode cX8_turnedX 39 = .ok (.iload_n 1, 1) := by decide +kernel
theorem dX8_turnedX_40 : decode cX8_turnedX 40 = .ok (.isub, 1) := by decide +kernel
theorem dX8_turnedX_41 : decode cX8_turnedX 41 = .ok (.ireturn, 1) := by decide +kernel
theorem dX8_turnedX_42 : decode cX8_turnedX 42 = .ok (.iload_n 0, 1) := by decide +kernel
theorem dX8_turnedX_43 : decode cX8_turnedX 43 = .ok (.ireturn, 1) := by decide +kernel
theorem dX8_turnedY_0 : decode cX8_turnedY 0 = .ok (.iload_n 2, 1) := by decide +kernel
theorem dX8_turnedY_1 : decode cX8_turnedY 1 = .ok (.tableswitch 41 1 3 #[27, 33, 39], 27) := by decide +kernel
theorem dX8_turnedY_28 : decode cX8_turnedY 28 = .ok (.iload_n 3, 1) := by decide +kernel
theorem dX8_turnedY_29 : decode cX8_turnedY 29 = .ok (.iconst 1, 1) := by decide +kernel
theorem dX8_turnedY_30 : decode cX8_turnedY 30 = .ok (.isub, 1) := by decide +kernel
theorem dX8_turnedY_31 : decode cX8_turnedY 31 = .ok (.iload_n 0, 1) := by decide +kernel
theorem dX8_turnedY_32 : decode cX8_turnedY 32 = .ok (.isub, 1) := by decide +kernel
theorem dX8_turnedY_33 : decode cX8_turnedY 33 = .ok (.ireturn, 1) := by decide +kernel
theorem dX8_turnedY_34 : decode cX8_turnedY 34 = .ok (.iload_n 3, 1) := by decide +kernel
theorem dX8_turnedY_35 : decode cX8_turnedY 35 = .ok (.iconst 1, 1) := by decide +kernel
theorem dX8_turnedY_36 : decode cX8_turnedY 36 = .ok (.isub, 1) := by decide +kernel
theorem dX8_turnedY_37 : decode cX8_turnedY 37 = .ok (.iload_n 1, 1) := by decide +kernel
theorem dX8_turnedY_38 : decode cX8_turnedY 38 = .ok (.isub, 1) := by decide +kernel
theorem dX8_turnedY_39 : decode cX8_turnedY 39 = .ok (.ireturn, 1) := by decide +kernel
theorem dX8_turnedY_40 : decode cX8_turnedY 40 = .ok (.iload_n 0, 1) := by decide +kernel
theorem dX8_turnedY_41 : decode cX8_turnedY 41 = .ok (.ireturn, 1) := by decide +kernel
theorem dX8_turnedY_42 : decode cX8_turnedY 42 = .ok (.iload_n 1, 1) := by decide +kernel
theorem dX8_turnedY_43 : decode cX8_turnedY 43 = .ok (.ireturn, 1) := by decide +kernel
theorem dX9_init_0 : decode cX9_init 0 = .ok (.aload_n 0, 1) := by decide +kernel
theorem dX9_init_1 : decode cX9_init 1 = .ok (.invokespecial 1, 3) := by decide +kernel
theorem dX9_init_4 : decode cX9_init 4 = .ok (.aload_n 0, 1) := by decide +kernel
theorem dX9_init_5 : decode cX9_init 5 = .ok (.bipush 9, 2) := by decide +kernel
theorem dX9_init_7 : decode cX9_init 7 = .ok (.newarray .int, 2) := by decide +kernel
theorem dX9_init_9 : decode cX9_init 9 = .ok (.putfield 7, 3) := by decide +kernel
theorem dX9_init_12 : decode cX9_init 12 = .ok (.aload_n 0, 1) := by decide +kernel
theorem dX9_init_13 : decode cX9_init 13 = .ok (.bipush 9, 2) := by decide +kernel
theorem dX9_init_15 : decode cX9_init 15 = .ok (.newarray .int, 2) := by decide +kernel
theorem dX9_init_17 : decode cX9_init 17 = .ok (.putfield 13, 3) := by decide +kernel
theorem dX9_init_20 : decode cX9_init 20 = .ok (.aload_n 0, 1) := by decide +kernel
theorem dX9_init_21 : decode cX9_init 21 = .ok (.bipush 16, 2) := by decide +kernel
theorem dX9_init_23 : decode cX9_init 23 = .ok (.newarray .int, 2) := by decide +kernel
theorem dX9_init_25 : decode cX9_init 25 = .ok (.putfield 16, 3) := by decide +kernel
theorem dX9_init_28 : decode cX9_init 28 = .ok (.aload_n 0, 1) := by decide +kernel
theorem dX9_init_29 : decode cX9_init 29 = .ok (.bipush 16, 2) := by decide +kernel
theorem dX9_init_31 : decode cX9_init 31 = .ok (.newarray .int, 2) := by decide +kernel
theorem dX9_init_33 : decode cX9_init 33 = .ok (.putfield 19, 3) := by decide +kernel
theorem dX9_init_36 : decode cX9_init 36 = .ok (.aload_n 0, 1) := by decide +kernel
theorem dX9_init_37 : decode cX9_init 37 = .ok (.bipush 16, 2) := by decide +kernel
theorem dX9_init_39 : decode cX9_init 39 = .ok (.newarray .int, 2) := by decide +kernel
theorem dX9_init_41 : decode cX9_init 41 = .ok (.putfield 22, 3) := by decide +kernel
theorem dX9_init_44 : decode cX9_init 44 = .ok (.aload_n 0, 1) := by decide +kernel
theorem dX9_init_45 : decode cX9_init 45 = .ok (.bipush 16, 2) := by decide +kernel
theorem dX9_init_47 : decode cX9_init 47 = .ok (.newarray .int, 2) := by decide +kernel
theorem dX9_init_49 : decode cX9_init 49 = .ok (.putfield 25, 3) := by decide +kernel
theorem dX9_init_52 : decode cX9_init 52 = .ok (.aload_n 0, 1) := by decide +kernel
theorem dX9_init_53 : decode cX9_init 53 = .ok (.sipush 1152, 3) := by decide +kernel
theorem dX9_init_56 : decode cX9_init 56 = .ok (.newarray .int, 2) := by decide +kernel
theorem dX9_init_58 : decode cX9_init 58 = .ok (.putfield 28, 3) := by decide +kernel
theorem dX9_init_61 : decode cX9_init 61 = .ok (.aload_n 0, 1) := by decide +kernel
theorem dX9_init_62 : decode cX9_init 62 = .ok (.iconst 1, 1) := by decide +kernel
theorem dX9_init_63 : decode cX9_init 63 = .ok (.putfield 31, 3) := by decide +kernel
theorem dX9_init_66 : decode cX9_init 66 = .ok (.aload_n 0, 1) := by decide +kernel
theorem dX9_init_67 : decode cX9_init 67 = .ok (.iconst 1, 1) := by decide +kernel
theorem dX9_init_68 : decode cX9_init 68 = .ok (.putfield 35, 3) := by decide +kernel
theorem dX9_init_71 : decode cX9_init 71 = .ok (.aload_n 0, 1) := by decide +kernel
theorem dX9_init_72 : decode cX9_init 72 = .ok (.iconst 2, 1) := by decide +kernel
theorem dX9_init_73 : decode cX9_init 73 = .ok (.putfield 38, 3) := by decide +kernel
theorem dX9_init_76 : decode cX9_init 76 = .ok (.aload_n 0, 1) := by decide +kernel
theorem dX9_init_77 : decode cX9_init 77 = .ok (.bipush 16, 2) := by decide +kernel
theorem dX9_init_79 : decode cX9_init 79 = .ok (.newarray .int, 2) := by decide +kernel
theorem dX9_init_81 : decode cX9_init 81 = .ok (.putfield 41, 3) := by decide +kernel
theorem dX9_init_84 : decode cX9_init 84 = .ok (.aload_n 0, 1) := by decide +kernel
theorem dX9_init_85 : decode cX9_init 85 = .ok (.bipush 16, 2) := by decide +kernel
theorem dX9_init_87 : decode cX9_init 87 = .ok (.newarray .int, 2) := by decide +kernel
theorem dX9_init_89 : decode cX9_init 89 = .ok (.putfield 44, 3) := by decide +kernel
theorem dX9_init_92 : decode cX9_init 92 = .ok (.aload_n 0, 1) := by decide +kernel
theorem dX9_init_93 : decode cX9_init 93 = .ok (.bipush 9, 2) := by decide +kernel
theorem dX9_init_95 : decode cX9_init 95 = .ok (.newarray .long, 2) := by decide +kernel
theorem dX9_init_97 : decode cX9_init 97 = .ok (.putfield 47, 3) := by decide +kernel
theorem dX9_init_100 : decode cX9_init 100 = .ok (.aload_n 0, 1) := by decide +kernel
theorem dX9_init_101 : decode cX9_init 101 = .ok (.bipush 9, 2) := by decide +kernel
theorem dX9_init_103 : decode cX9_init 103 = .ok (.newarray .long, 2) := by decide +kernel
theorem dX9_init_105 : decode cX9_init 105 = .ok (.putfield 51, 3) := by decide +kernel
theorem dX9_init_108 : decode cX9_init 108 = .ok (.aload_n 0, 1) := by decide +kernel
theorem dX9_init_109 : decode cX9_init 109 = .ok (.bipush 15, 2) := by decide +kernel
theorem dX9_init_111 : decode cX9_init 111 = .ok (.putfield 54, 3) := by decide +kernel
theorem dX9_init_114 : decode cX9_init 114 = .ok (.aload_n 0, 1) := by decide +kernel
theorem dX9_init_115 : decode cX9_init 115 = .ok (.bipush 8, 2) := by decide +kernel
theorem dX9_init_117 : decode cX9_init 117 = .ok (.newarray .int, 2) := by decide +kernel
theorem dX9_init_119 : decode cX9_init 119 = .ok (.putfield 57, 3) := by decide +kernel
theorem dX9_init_122 : decode cX9_init 122 = .ok (.aload_n 0, 1) := by decide +kernel
theorem dX9_init_123 : decode cX9_init 123 = .ok (.iconst 1, 1) := by decide +kernel
theorem dX9_init_124 : decode cX9_init 124 = .ok (.putfield 60, 3) := by decide +kernel
theorem dX9_init_127 : decode cX9_init 127 = .ok (.aload_n 0, 1) := by decide +kernel
theorem dX9_init_128 : decode cX9_init 128 = .ok (.bipush 6, 2) := by decide +kernel
theorem dX9_init_130 : decode cX9_init 130 = .ok (.newarray .int, 2) := by decide +kernel
theorem dX9_init_132 : decode cX9_init 132 = .ok (.putfield 63, 3) := by decide +kernel
theorem dX9_init_135 : decode cX9_init 135 = .ok (.aload_n 0, 1) := by decide +kernel
theorem dX9_init_136 : decode cX9_init 136 = .ok (.bipush 6, 2) := by decide +kernel
theorem dX9_init_138 : decode cX9_init 138 = .ok (.newarray .int, 2) := by decide +kernel
theorem dX9_init_140 : decode cX9_init 140 = .ok (.putfield 66, 3) := by decide +kernel
theorem dX9_init_143 : decode cX9_init 143 = .ok (.aload_n 0, 1) := by decide +kernel
theorem dX9_init_144 : decode cX9_init 144 = .ok (.bipush 6, 2) := by decide +kernel
theorem dX9_init_146 : decode cX9_init 146 = .ok (.newarray .int, 2) := by decide +kernel
theorem dX9_init_148 : decode cX9_init 148 = .ok (.putfield 69, 3) := by decide +kernel
theorem dX9_init_151 : decode cX9_init 151 = .ok (.aload_n 0, 1) := by decide +kernel
theorem dX9_init_152 : decode cX9_init 152 = .ok (.bipush 64, 2) := by decide +kernel
theorem dX9_init_154 : decode cX9_init 154 = .ok (.newarray .int, 2) := by decide +kernel
theorem dX9_init_156 : decode cX9_init 156 = .ok (.putfield 72, 3) := by decide +kernel
theorem dX9_init_159 : decode cX9_init 159 = .ok (.aload_n 0, 1) := by decide +kernel
theorem dX9_init_160 : decode cX9_init 160 = .ok (.bipush 64, 2) := by decide +kernel
theorem dX9_init_162 : decode cX9_init 162 = .ok (.newarray .int, 2) := by decide +kernel
theorem dX9_init_164 : decode cX9_init 164 = .ok (.putfield 75, 3) := by decide +kernel
theorem dX9_init_167 : decode cX9_init 167 = .ok (.aload_n 0, 1) := by decide +kernel
theorem dX9_init_168 : decode cX9_init 168 = .ok (.bipush 64, 2) := by decide +kernel
theorem dX9_init_170 : decode cX9_init 170 = .ok (.newarray .int, 2) := by decide +kernel
theorem dX9_init_172 : decode cX9_init 172 = .ok (.putfield 78, 3) := by decide +kernel
theorem dX9_init_175 : decode cX9_init 175 = .ok (.aload_n 0, 1) := by decide +kernel
theorem dX9_init_176 : decode cX9_init 176 = .ok (.sipush 4096, 3) := by decide +kernel
theorem dX9_init_179 : decode cX9_init 179 = .ok (.newarray .boolean, 2) := by decide +kernel
theorem dX9_init_181 : decode cX9_init 181 = .ok (.putfield 81, 3) := by decide +kernel
theorem dX9_init_184 : decode cX9_init 184 = .ok (.aload_n 0, 1) := by decide +kernel
theorem dX9_init_185 : decode cX9_init 185 = .ok (.bipush 64, 2) := by decide +kernel
theorem dX9_init_187 : decode cX9_init 187 = .ok (.newarray .long, 2) := by decide +kernel
theorem dX9_init_189 : decode cX9_init 189 = .ok (.putfield 85, 3) := by decide +kernel
theorem dX9_init_192 : decode cX9_init 192 = .ok (.aload_n 0, 1) := by decide +kernel
theorem dX9_init_193 : decode cX9_init 193 = .ok (.bipush 64, 2) := by decide +kernel
theorem dX9_init_195 : decode cX9_init 195 = .ok (.newarray .long, 2) := by decide +kernel
theorem dX9_init_197 : decode cX9_init 197 = .ok (.putfield 88, 3) := by decide +kernel
theorem dX9_init_200 : decode cX9_init 200 = .ok (.aload_n 0, 1) := by decide +kernel
theorem dX9_init_201 : decode cX9_init 201 = .ok (.sipush 256, 3) := by decide +kernel
theorem dX9_init_204 : decode cX9_init 204 = .ok (.newarray .int, 2) := by decide +kernel
theorem dX9_init_206 : decode cX9_init 206 = .ok (.putfield 91, 3) := by decide +kernel
theorem dX9_init_209 : decode cX9_init 209 = .ok (.aload_n 0, 1) := by decide +kernel
theorem dX9_init_210 : decode cX9_init 210 = .ok (.bipush 18, 2) := by decide +kernel
theorem dX9_init_212 : decode cX9_init 212 = .ok (.newarray .boolean, 2) := by decide +kernel
theorem dX9_init_214 : decode cX9_init 214 = .ok (.putfield 94, 3) := by decide +kernel
theorem dX9_init_217 : decode cX9_init 217 = .ok (.iconst 1, 1) := by decide +kernel
theorem dX9_init_218 : decode cX9_init 218 = .ok (.istore_n 1, 1) := by decide +kernel
theorem dX9_init_219 : decode cX9_init 219 = .ok (.iload_n 1, 1) := by decide +kernel
theorem dX9_init_220 : decode cX9_init 220 = .ok (.bipush 9, 2) := by decide +kernel
theorem dX9_init_222 : decode cX9_init 222 = .ok (.if_icmp .ge 26, 3) := by decide +kernel
theorem dX9_init_225 : decode cX9_init 225 = .ok (.aload_n 0, 1) := by decide +kernel
theorem dX9_init_226 : decode cX9_init 226 = .ok (.getfield 7, 3) := by decide +kernel
theorem dX9_init_229 : decode cX9_init 229 = .ok (.iload_n 1, 1) := by decide +kernel
theorem dX9_init_230 : decode cX9_init 230 = .ok (.bipush 10, 2) := by decide +kernel
theorem dX9_init_232 : decode cX9_init 232 = .ok (.iload_n 1, 1) := by decide +kernel
theorem dX9_init_233 : decode cX9_init 233 = .ok (.imul, 1) := by decide +kernel
theorem dX9_init_234 : decode cX9_init 234 = .ok (.iastore, 1) := by decide +kernel
theorem dX9_init_235 : decode cX9_init 235 = .ok (.aload_n 0, 1) := by decide +kernel
theorem dX9_init_236 : decode cX9_init 236 = .ok (.getfield 13, 3) := by decide +kernel
theorem dX9_init_239 : decode cX9_init 239 = .ok (.iload_n 1, 1) := by decide +kernel
theorem dX9_init_240 : decode cX9_init 240 = .ok (.iconst 1, 1) := by decide +kernel
theorem dX9_init_241 : decode cX9_init 241 = .ok (.iastore, 1) := by decide +kernel
theorem dX9_init_242 : decode cX9_init 242 = .ok (.iinc 1 1, 3) := by decide +kernel
theorem dX9_init_245 : decode cX9_init 245 = .ok (.goto (-26), 3) := by decide +kernel
theorem dX9_init_248 : decode cX9_init 248 = .ok (.iconst 0, 1) := by decide +kernel
theorem dX9_init_249 : decode cX9_init 249 = .ok (.istore_n 1, 1) := by decide +kernel
theorem dX9_init_250 : decode cX9_init 250 = .ok (.iload_n 1, 1) := by decide +kernel
theorem dX9_init_251 : decode cX9_init 251 = .ok (.bipush 16, 2) := by decide +kernel
theorem dX9_init_253 : decode cX9_init 253 = .ok (.if_icmp .ge 17, 3) := by decide +kernel
theorem dX9_init_256 : decode cX9_init 256 = .ok (.aload_n 0, 1) := by decide +kernel
theorem dX9_init_257 : decode cX9_init 257 = .ok (.getfield 41, 3) := by decide +kernel
theorem dX9_init_260 : decode cX9_init 260 = .ok (.iload_n 1, 1) := by decide +kernel
theorem dX9_init_261 : decode cX9_init 261 = .ok (.bipush (-9), 2) := by decide +kernel
theorem dX9_init_263 : decode cX9_init 263 = .ok (.iastore, 1) := by decide +kernel
theorem dX9_init_264 : decode cX9_init 264 = .ok (.iinc 1 1, 3) := by decide +kernel
theorem dX9_init_267 : decode cX9_init 267 = .ok (.goto (-17), 3) := by decide +kernel
theorem dX9_init_270 : decode cX9_init 270 = .ok (.aload_n 0, 1) := by decide +kernel
theorem dX9_init_271 : decode cX9_init 271 = .ok (.getfield 28, 3) := by decide +kernel
theorem dX9_init_274 : decode cX9_init 274 = .ok (.sipush 1088, 3) := by decide +kernel
theorem dX9_init_277 : decode cX9_init 277 = .ok (.bipush (-9), 2) := by decide +kernel
theorem dX9_init_279 : decode cX9_init 279 = .ok (.iastore, 1) := by decide +kernel
theorem dX9_init_280 : decode cX9_init 280 = .ok (.return_, 1) := by decide +kernel
theorem dX9_in_0 : decode cX9_in 0 = .ok (.iload_n 0, 1) := by decide +kernel
theorem dX9_in_1 : decode cX9_in 1 = .ok (.iload_n 1, 1) := by decide +kernel
theorem dX9_in_2 : decode cX9_in 2 = .ok (.if_icmp .lt 12, 3) := by decide +kernel
theorem dX9_in_5 : decode cX9_in 5 = .ok (.iload_n 0, 1) := by decide +kernel
theorem dX9_in_6 : decode cX9_in 6 = .ok (.iload_n 2, 1) := by decide +kernel
theorem dX9_in_7 : decode cX9_in 7 = .ok (.if_icmp .gt 7, 3) := by decide +kernel
theorem dX9_in_10 : decode cX9_in 10 = .ok (.iconst 1, 1) := by decide +kernel
theorem dX9_in_11 : decode cX9_in 11 = .ok (.goto 4, 3) := by decide +kernel
theorem dX9_in_14 : decode cX9_in 14 = .ok (.iconst 0, 1) := by decide +kernel
theorem dX9_in_15 : decode cX9_in 15 = .ok (.ireturn, 1) := by decide +kernel
theorem dX9_isGlass_0 : decode cX9_isGlass 0 = .ok (.iload_n 0, 1) := by decide +kernel
theorem dX9_isGlass_1 : decode cX9_isGlass 1 = .ok (.iconst 1, 1) := by decide +kernel
theorem dX9_isGlass_2 : decode cX9_isGlass 2 = .ok (.bipush 8, 2) := by decide +kernel
theorem dX9_isGlass_4 : decode cX9_isGlass 4 = .ok (.invokestatic 97, 3) := by decide +kernel
theorem dX9_isGlass_7 : decode cX9_isGlass 7 = .ok (.ireturn, 1) := by decide +kernel
theorem dX9_isCane_0 : decode cX9_isCane 0 = .ok (.iload_n 1, 1) := by decide +kernel
theorem dX9_isCane_1 : decode cX9_isCane 1 = .ok (.iconst 0, 1) := by decide +kernel
theorem dX9_isCane_2 : decode cX9_isCane 2 = .ok (.aload_n 0, 1) := by decide +kernel
theorem dX9_isCane_3 : decode cX9_isCane 3 = .ok (.getfield 101, 3) := by decide +kernel
theorem dX9_isCane_6 : decode cX9_isCane 6 = .ok (.iconst 1, 1) := by decide +kernel
theorem dX9_isCane_7 : decode cX9_isCane 7 = .ok (.isub, 1) := by decide +kernel
theorem dX9_isCane_8 : decode cX9_isCane 8 = .ok (.invokestatic 97, 3) := by decide +kernel
theorem dX9_isCane_11 : decode cX9_isCane 11 = .ok (.ireturn, 1) := by decide +kernel
theorem dX9_isWhole_0 : decode cX9_isWhole 0 = .ok (.aload_n 0, 1) := by decide +kernel
theorem dX9_isWhole_1 : decode cX9_isWhole 1 = .ok (.iload_n 1, 1) := by decide +kernel
theorem dX9_isWhole_2 : decode cX9_isWhole 2 = .ok (.invokevirtual 104, 3) := by decide +kernel
theorem dX9_isWhole_5 : decode cX9_isWhole 5 = .ok (.ifCond .eq 16, 3) := by decide +kernel
theorem dX9_isWhole_8 : decode cX9_isWhole 8 = .ok (.aload_n 0, 1) := by decide +kernel
theorem dX9_isWhole_9 : decode cX9_isWhole 9 = .ok (.getfield 19, 3) := by decide +kernel
theorem dX9_isWhole_12 : decode cX9_isWhole 12 = .ok (.iload_n 1, 1) := by decide +kernel
theorem dX9_isWhole_13 : decode cX9_isWhole 13 = .ok (.iaload, 1) := by decide +kernel
theorem dX9_isWhole_14 : decode cX9_isWhole 14 = .ok (.ifCond .le 7, 3) := by decide +kernel
theorem dX9_isWhole_17 : decode cX9_isWhole 17 = .ok (.iconst 1, 1) := by decide +kernel
theorem dX9_isWhole_18 : decode cX9_isWhole 18 = .ok (.goto 4, 3) := by decide +kernel
theorem dX9_isWhole_21 : decode cX9_isWhole 21 = .ok (.iconst 0, 1) := by decide +kernel
theorem dX9_isWhole_22 : decode cX9_isWhole 22 = .ok (.ireturn, 1) := by decide +kernel
theorem dX9_glass_0 : decode cX9_glass 0 = .ok (.iload_n 1, 1) := by decide +kernel
theorem dX9_glass_1 : decode cX9_glass 1 = .ok (.invokestatic 108, 3) := by decide +kernel
theorem dX9_glass_4 : decode cX9_glass 4 = .ok (.ifCond .eq 41, 3) := by decide +kernel
theorem dX9_glass_7 : decode cX9_glass 7 = .ok (.iload_n 2, 1) := by decide +kernel
theorem dX9_glass_8 : decode cX9_glass 8 = .ok (.ifCond .ne 13, 3) := by decide +kernel
theorem dX9_glass_11 : decode cX9_glass 11 = .ok (.iload_n 3, 1) := by decide +kernel
theorem dX9_glass_12 : decode cX9_glass 12 = .ok (.iconst 0, 1) := by decide +kernel
theorem dX9_glass_13 : decode cX9_glass 13 = .ok (.bipush 99, 2) := by decide +kernel
theorem dX9_glass_15 : decode cX9_glass 15 = .ok (.invokestatic 97, 3) := by decide +kernel
theorem dX9_glass_18 : decode cX9_glass 18 = .ok (.ifCond .eq 27, 3) := by decide +kernel
theorem dX9_glass_21 : decode cX9_glass 21 = .ok (.iload_n 2, 1) := by decide +kernel
theorem dX9_glass_22 : decode cX9_glass 22 = .ok (.iconst 1, 1) := by decide +kernel
theorem dX9_glass_23 : decode cX9_glass 23 = .ok (.if_icmp .ne 13, 3) := by decide +kernel
theorem dX9_glass_26 : decode cX9_glass 26 = .ok (.iload_n 3, 1) := by decide +kernel
theorem dX9_glass_27 : decode cX9_glass 27 = .ok (.iconst 1, 1) := by decide +kernel
theorem dX9_glass_28 : decode cX9_glass 28 = .ok (.bipush 9, 2) := by decide +kernel
theorem dX9_glass_30 : decode cX9_glass 30 = .ok (.invokestatic 97, 3) := by decide +kernel
theorem dX9_glass_33 : decode cX9_glass 33 = .ok (.ifCond .eq 12, 3) := by decide +kernel
theorem dX9_glass_36 : decode cX9_glass 36 = .ok (.iload_n 2, 1) := by decide +kernel
theorem dX9_glass_37 : decode cX9_glass 37 = .ok (.iconst 0, 1) := by decide +kernel
theorem dX9_glass_38 : decode cX9_glass 38 = .ok (.iconst 1, 1) := by decide +kernel
theorem dX9_glass_39 : decode cX9_glass 39 = .ok (.invokestatic 97, 3) := by decide +kernel
theorem dX9_glass_42 : decode cX9_glass 42 = .ok (.ifCond .ne 5, 3) := by decide +kernel
theorem dX9_glass_45 : decode cX9_glass 45 = .ok (.iconst (-1), 1) := by decide +kernel
theorem dX9_glass_46 : decode cX9_glass 46 = .ok (.ireturn, 1) := by decide +kernel
theorem dX9_glass_47 : decode cX9_glass 47 = .ok (.iload_n 2, 1) := by decide +kernel
theorem dX9_glass_48 : decode cX9_glass 48 = .ok (.ifCond .ne 12, 3) := by decide +kernel
theorem dX9_glass_51 : decode cX9_glass 51 = .ok (.aload_n 0, 1) := by decide +kernel
theorem dX9_glass_52 : decode cX9_glass 52 = .ok (.getfield 7, 3) := by decide +kernel
theorem dX9_glass_55 : decode cX9_glass 55 = .ok (.iload_n 1, 1) := by decide +kernel
theorem dX9_glass_56 : decode cX9_glass 56 = .ok (.iaload, 1) := by decide +kernel
theorem dX9_glass_57 : decode cX9_glass 57 = .ok (.goto 9, 3) := by decide +kernel
theorem dX9_glass_60 : decode cX9_glass 60 = .ok (.aload_n 0, 1) := by decide +kernel
theorem dX9_glass_61 : decode cX9_glass 61 = .ok (.getfield 13, 3) := by decide +kernel
theorem dX9_glass_64 : decode cX9_glass 64 = .ok (.iload_n 1, 1) := by decide +kernel
theorem dX9_glass_65 : decode cX9_glass 65 = .ok (.iaload, 1) := by decide +kernel
theorem dX9_glass_66 : decode cX9_glass 66 = .ok (.istore 4, 2) := by decide +kernel
theorem dX9_glass_68 : decode cX9_glass 68 = .ok (.iload_n 2, 1) := by decide +kernel
theorem dX9_glass_69 : decode cX9_glass 69 = .ok (.ifCond .ne 13, 3) := by decide +kernel
theorem dX9_glass_72 : decode cX9_glass 72 = .ok (.aload_n 0, 1) := by decide +kernel
theorem dX9_glass_73 : decode cX9_glass 73 = .ok (.getfield 7, 3) := by decide +kernel
theorem dX9_glass_76 : decode cX9_glass 76 = .ok (.iload_n 1, 1) := by decide +kernel
theorem dX9_glass_77 : decode cX9_glass 77 = .ok (.iload_n 3, 1) := by decide +kernel
theorem dX9_glass_78 : decode cX9_glass 78 = .ok (.iastore, 1) := by decide +kernel
theorem dX9_glass_79 : decode cX9_glass 79 = .ok (.goto 10, 3) := by decide +kernel
theorem dX9_glass_82 : decode cX9_glass 82 = .ok (.aload_n 0, 1) := by decide +kernel
theorem dX9_glass_83 : decode cX9_glass 83 = .ok (.getfield 13, 3) := by decide +kernel
theorem dX9_glass_86 : decode cX9_glass 86 = .ok (.iload_n 1, 1) := by decide +kernel
theorem dX9_glass_87 : decode cX9_glass 87 = .ok (.iload_n 3, 1) := by decide +kernel
theorem dX9_glass_88 : decode cX9_glass 88 = .ok (.iastore, 1) := by decide +kernel
theorem dX9_glass_89 : decode cX9_glass 89 = .ok (.iload 4, 2) := by decide +kernel
theorem dX9_glass_91 : decode cX9_glass 91 = .ok (.ireturn, 1) := by decide +kernel
theorem dX9_at_0 : decode cX9_at 0 = .ok (.aload_n 0, 1) := by decide +kernel
theorem dX9_at_1 : decode cX9_at 1 = .ok (.getfield 28, 3) := by decide +kernel
theorem dX9_at_4 : decode cX9_at 4 = .ok (.bipush 64, 2) := by decide +kernel
theorem dX9_at_6 : decode cX9_at 6 = .ok (.iload_n 1, 1) := by decide +kernel
theorem dX9_at_7 : decode cX9_at 7 = .ok (.imul, 1) := by decide +kernel
theorem dX9_at_8 : decode cX9_at 8 = .ok (.bipush 8, 2) := by decide +kernel
theorem dX9_at_10 : decode cX9_at 10 = .ok (.iload_n 3, 1) := by decide +kernel
theorem dX9_at_11 : decode cX9_at 11 = .ok (.imul, 1) := by decide +kernel
theorem dX9_at_12 : decode cX9_at 12 = .ok (.iadd, 1) := by decide +kernel
theorem dX9_at_13 : decode cX9_at 13 = .ok (.iload_n 2, 1) := by decide +kernel
theorem dX9_at_14 : decode cX9_at 14 = .ok (.iadd, 1) := by decide +kernel
theorem dX9_at_15 : decode cX9_at 15 = .ok (.iaload, 1) := by decide +kernel
theorem dX9_at_16 : decode cX9_at 16 = .ok (.ireturn, 1) := by decide +kernel
theorem dX9_put_0 : decode cX9_put 0 = .ok (.aload_n 0, 1) := by decide +kernel
theorem dX9_put_1 : decode cX9_put 1 = .ok (.getfield 28, 3) := by decide +kernel
theorem dX9_put_4 : decode cX9_put 4 = .ok (.bipush 64, 2) := by decide +kernel
theorem dX9_put_6 : decode cX9_put 6 = .ok (.iload_n 1, 1) := by decide +kernel
theorem dX9_put_7 : decode cX9_put 7 = .ok (.imul, 1) := by decide +kernel
theorem dX9_put_8 : decode cX9_put 8 = .ok (.bipush 8, 2) := by decide +kernel
theorem dX9_put_10 : decode cX9_put 10 = .ok (.iload_n 3, 1) := by decide +kernel
theorem dX9_put_11 : decode cX9_put 11 = .ok (.imul, 1) := by decide +kernel
theorem dX9_put_12 : decode cX9_put 12 = .ok (.iadd, 1) := by decide +kernel
theorem dX9_put_13 : decode cX9_put 13 = .ok (.iload_n 2, 1) := by decide +kernel
theorem dX9_put_14 : decode cX9_put 14 = .ok (.iadd, 1) := by decide +kernel
theorem dX9_put_15 : decode cX9_put 15 = .ok (.iload 4, 2) := by decide +kernel
theorem dX9_put_17 : decode cX9_put 17 = .ok (.iastore, 1) := by decide +kernel
theorem dX9_put_18 : decode cX9_put 18 = .ok (.return_, 1) := by decide +kernel
theorem dX9_newCane_0 : decode cX9_newCane 0 = .ok (.aload_n 0, 1) := by decide +kernel
theorem dX9_newCane_1 : decode cX9_newCane 1 = .ok (.getfield 16, 3) := by decide +kernel
theorem dX9_newCane_4 : decode cX9_newCane 4 = .ok (.aload_n 0, 1) := by decide +kernel
theorem dX9_newCane_5 : decode cX9_newCane 5 = .ok (.getfield 101, 3) := by decide +kernel
theorem dX9_newCane_8 : decode cX9_newCane 8 = .ok (.iload_n 1, 1) := by decide +kernel
theorem dX9_newCane_9 : decode cX9_newCane 9 = .ok (.iastore, 1) := by decide +kernel
theorem dX9_newCane_10 : decode cX9_newCane 10 = .ok (.aload_n 0, 1) := by decide +kernel
theorem dX9_newCane_11 : decode cX9_newCane 11 = .ok (.getfield 19, 3) := by decide +kernel
theorem dX9_newCane_14 : decode cX9_newCane 14 = .ok (.aload_n 0, 1) := by decide +kernel
theorem dX9_newCane_15 : decode cX9_newCane 15 = .ok (.getfield 101, 3) := by decide +kernel
theorem dX9_newCane_18 : decode cX9_newCane 18 = .ok (.iload_n 2, 1) := by decide +kernel
theorem dX9_newCane_19 : decode cX9_newCane 19 = .ok (.iastore, 1) := by decide +kernel
theorem dX9_newCane_20 : decode cX9_newCane 20 = .ok (.aload_n 0, 1) := by decide +kernel
theorem dX9_newCane_21 : decode cX9_newCane 21 = .ok (.getfield 22, 3) := by decide +kernel
theorem dX9_newCane_24 : decode cX9_newCane 24 = .ok (.aload_n 0, 1) := by decide +kernel
theorem dX9_newCane_25 : decode cX9_newCane 25 = .ok (.getfield 101, 3) := by decide +kernel
theorem dX9_newCane_28 : decode cX9_newCane 28 = .ok (.iload_n 3, 1) := by decide +kernel
theorem dX9_newCane_29 : decode cX9_newCane 29 = .ok (.iastore, 1) := by decide +kernel
theorem dX9_newCane_30 : decode cX9_newCane 30 = .ok (.aload_n 0, 1) := by decide +kernel
theorem dX9_newCane_31 : decode cX9_newCane 31 = .ok (.getfield 25, 3) := by decide +kernel
theorem dX9_newCane_34 : decode cX9_newCane 34 = .ok (.aload_n 0, 1) := by decide +kernel
theorem dX9_newCane_35 : decode cX9_newCane 35 = .ok (.getfield 101, 3) := by decide +kernel
theorem dX9_newCane_38 : decode cX9_newCane 38 = .ok (.iload 4, 2) := by decide +kernel
theorem dX9_newCane_40 : decode cX9_newCane 40 = .ok (.iastore, 1) := by decide +kernel
theorem dX9_newCane_41 : decode cX9_newCane 41 = .ok (.aload_n 0, 1) := by decide +kernel
theorem dX9_newCane_42 : decode cX9_newCane 42 = .ok (.dup, 1) := by decide +kernel
theorem dX9_newCane_43 : decode cX9_newCane 43 = .ok (.getfield 101, 3) := by decide +kernel
theorem dX9_newCane_46 : decode cX9_newCane 46 = .ok (.iconst 1, 1) := by decide +kernel
theorem dX9_newCane_47 : decode cX9_newCane 47 = .ok (.iadd, 1) := by decide +kernel
theorem dX9_newCane_48 : decode cX9_newCane 48 = .ok (.putfield 101, 3) := by decide +kernel
theorem dX9_newCane_51 : decode cX9_newCane 51 = .ok (.aload_n 0, 1) := by decide +kernel
theorem dX9_newCane_52 : decode cX9_newCane 52 = .ok (.getfield 101, 3) := by decide +kernel
theorem dX9_newCane_55 : decode cX9_newCane 55 = .ok (.iconst 1, 1) := by decide +kernel
theorem dX9_newCane_56 : decode cX9_newCane 56 = .ok (.isub, 1) := by decide +kernel
theorem dX9_newCane_57 : decode cX9_newCane 57 = .ok (.ireturn, 1) := by decide +kernel
theorem dX9_rod_0 : decode cX9_rod 0 = .ok (.iload_n 1, 1) := by decide +kernel
theorem dX9_rod_1 : decode cX9_rod 1 = .ok (.invokestatic 108, 3) := by decide +kernel
theorem dX9_rod_4 : decode cX9_rod 4 = .ok (.ifCond .eq 14, 3) := by decide +kernel
theorem dX9_rod_7 : decode cX9_rod 7 = .ok (.iload_n 2, 1) := by decide +kernel
theorem dX9_rod_8 : decode cX9_rod 8 = .ok (.iconst 1, 1) := by decide +kernel
theorem dX9_rod_9 : decode cX9_rod 9 = .ok (.sipush 9999, 3) := by decide +kernel
theorem dX9_rod_12 : decode cX9_rod 12 = .ok (.invokestatic 97, 3) := by decide +kernel
theorem dX9_rod_15 : decode cX9_rod 15 = .ok (.ifCond .ne 5, 3) := by decide +kernel
theorem dX9_rod_18 : decode cX9_rod 18 = .ok (.iconst (-1), 1) := by decide +kernel
theorem dX9_rod_19 : decode cX9_rod 19 = .ok (.ireturn, 1) := by decide +kernel
theorem dX9_rod_20 : decode cX9_rod 20 = .ok (.aload_n 0, 1) := by decide +kernel
theorem dX9_rod_21 : decode cX9_rod 21 = .ok (.getfield 101, 3) := by decide +kernel
theorem dX9_rod_24 : decode cX9_rod 24 = .ok (.bipush 16, 2) := by decide +kernel
theorem dX9_rod_26 : decode cX9_rod 26 = .ok (.if_icmp .ne 6, 3) := by decide +kernel
theorem dX9_rod_29 : decode cX9_rod 29 = .ok (.bipush (-3), 2) := by decide +kernel
theorem dX9_rod_31 : decode cX9_rod 31 = .ok (.ireturn, 1) := by decide +kernel
theorem dX9_rod_32 : decode cX9_rod 32 = .ok (.aload_n 0, 1) := by decide +kernel
theorem dX9_rod_33 : decode cX9_rod 33 = .ok (.aload_n 0, 1) := by decide +kernel
theorem dX9_rod_34 : decode cX9_rod 34 = .ok (.getfield 101, 3) := by decide +kernel
theorem dX9_rod_37 : decode cX9_rod 37 = .ok (.iconst 0, 1) := by decide +kernel
theorem dX9_rod_38 : decode cX9_rod 38 = .ok (.iconst 0, 1) := by decide +kernel
theorem dX9_rod_39 : decode cX9_rod 39 = .ok (.iload_n 1, 1) := by decide +kernel
theorem dX9_rod_40 : decode cX9_rod 40 = .ok (.invokevirtual 111, 3) := by decide +kernel
theorem dX9_rod_43 : decode cX9_rod 43 = .ok (.aload_n 0, 1) := by decide +kernel
theorem dX9_rod_44 : decode cX9_rod 44 = .ok (.getfield 47, 3) := by decide +kernel
theorem dX9_rod_47 : decode cX9_rod 47 = .ok (.iload_n 1, 1) := by decide +kernel
theorem dX9_rod_48 : decode cX9_rod 48 = .ok (.dup2, 1) := by decide +kernel
theorem dX9_rod_49 : decode cX9_rod 49 = .ok (.laload, 1) := by decide +kernel
theorem dX9_rod_50 : decode cX9_rod 50 = .ok (.ldc2_w 115, 3) := by decide +kernel
theorem dX9_rod_53 : decode cX9_rod 53 = .ok (.iload_n 2, 1) := by decide +kernel
theorem dX9_rod_54 : decode cX9_rod 54 = .ok (.i2l, 1) := by decide +kernel
theorem dX9_rod_55 : decode cX9_rod 55 = .ok (.lmul, 1) := by decide +kernel
theorem dX9_rod_56 : decode cX9_rod 56 = .ok (.ladd, 1) := by decide +kernel
theorem dX9_rod_57 : decode cX9_rod 57 = .ok (.lastore, 1) := by decide +kernel
theorem dX9_rod_58 : decode cX9_rod 58 = .ok (.aload_n 0, 1) := by decide +kernel
theorem dX9_rod_59 : decode cX9_rod 59 = .ok (.iconst 1, 1) := by decide +kernel
theorem dX9_rod_60 : decode cX9_rod 60 = .ok (.iload_n 2, 1) := by decide +kernel
theorem dX9_rod_61 : decode cX9_rod 61 = .ok (.iconst 1, 1) := by decide +kernel
theorem dX9_rod_62 : decode cX9_rod 62 = .ok (.iconst 0, 1) := by decide +kernel
theorem dX9_rod_63 : decode cX9_rod 63 = .ok (.invokevirtual 117, 3) := by decide +kernel
theorem dX9_rod_66 : decode cX9_rod 66 = .ok (.ireturn, 1) := by decide +kernel
theorem dX9_drips_0 : decode cX9_drips 0 = .ok (.iconst 0, 1) := by decide +kernel
theorem dX9_drips_1 : decode cX9_drips 1 = .ok (.istore_n 3, 1) := by decide +kernel
theorem dX9_drips_2 : decode cX9_drips 2 = .ok (.iload_n 3, 1) := by decide +kernel
theorem dX9_drips_3 : decode cX9_drips 3 = .ok (.aload_n 0, 1) := by decide +kernel
theorem dX9_drips_4 : decode cX9_drips 4 = .ok (.getfield 16, 3) := by decide +kernel
theorem dX9_drips_7 : decode cX9_drips 7 = .ok (.iload_n 1, 1) := by decide +kernel
theorem dX9_drips_8 : decode cX9_drips 8 = .ok (.iaload, 1) := by decide +kernel
theorem dX9_drips_9 : decode cX9_drips 9 = .ok (.if_icmp .ge 59, 3) := by decide +kernel
theorem dX9_drips_12 : decode cX9_drips 12 = .ok (.iconst 0, 1) := by decide +kernel
theorem dX9_drips_13 : decode cX9_drips 13 = .ok (.istore 4, 2) := by decide +kernel
theorem dX9_drips_15 : decode cX9_drips 15 = .ok (.iload 4, 2) := by decide +kernel
theorem dX9_drips_17 : decode cX9_drips 17 = .ok (.aload_n 0, 1) := by decide +kernel
theorem dX9_drips_18 : decode cX9_drips 18 = .ok (.getfield 16, 3) := by decide +kernel
theorem dX9_drips_21 : decode cX9_drips 21 = .ok (.iload_n 1, 1) := by decide +kernel
theorem dX9_drips_22 : decode cX9_drips 22 = .ok (.iaload, 1) := by decide +kernel
theorem dX9_drips_23 : decode cX9_drips 23 = .ok (.if_icmp .ge 39, 3) := by decide +kernel
theorem dX9_drips_26 : decode cX9_drips 26 = .ok (.aload_n 0, 1) := by decide +kernel
theorem dX9_drips_27 : decode cX9_drips 27 = .ok (.getfield 51, 3) := by decide +kernel
theorem dX9_drips_30 : decode cX9_drips 30 = .ok (.aload_n 0, 1) := by decide +kernel
theorem dX9_drips_31 : decode cX9_drips 31 = .ok (.iload_n 1, 1) := by decide +kernel
theorem dX9_drips_32 : decode cX9_drips 32 = .ok (.iload_n 3, 1) := by decide +kernel
theorem dX9_drips_33 : decode cX9_drips 33 = .ok (.iload 4, 2) := by decide +kernel
theorem dX9_drips_35 : decode cX9_drips 35 = .ok (.invokevirtual 121, 3) := by decide +kernel
theorem dX9_drips_38 : decode cX9_drips 38 = .ok (.dup2, 1) := by decide +kernel
theorem dX9_drips_39 : decode cX9_drips 39 = .ok (.laload, 1) := by decide +kernel
theorem dX9_drips_40 : decode cX9_drips 40 = .ok (.iload_n 2, 1) := by decide +kernel
theorem dX9_drips_41 : decode cX9_drips 41 = .ok (.i2l, 1) := by decide +kernel
theorem dX9_drips_42 : decode cX9_drips 42 = .ok (.sipush 4096, 3) := by decide +kernel
theorem dX9_drips_45 : decode cX9_drips 45 = .ok (.aload_n 0, 1) := by decide +kernel
theorem dX9_drips_46 : decode cX9_drips 46 = .ok (.getfield 22, 3) := by decide +kernel
theorem dX9_drips_49 : decode cX9_drips 49 = .ok (.iload_n 1, 1) := by decide +kernel
theorem dX9_drips_50 : decode cX9_drips 50 = .ok (.iaload, 1) := by decide +kernel
theorem dX9_drips_51 : decode cX9_drips 51 = .ok (.idiv, 1) := by decide +kernel
theorem dX9_drips_52 : decode cX9_drips 52 = .ok (.i2l, 1) := by decide +kernel
theorem dX9_drips_53 : decode cX9_drips 53 = .ok (.lmul, 1) := by decide +kernel
theorem dX9_drips_54 : decode cX9_drips 54 = .ok (.ladd, 1) := by decide +kernel
theorem dX9_drips_55 : decode cX9_drips 55 = .ok (.lastore, 1) := by decide +kernel
theorem dX9_drips_56 : decode cX9_drips 56 = .ok (.iinc 4 1, 3) := by decide +kernel
theorem dX9_drips_59 : decode cX9_drips 59 = .ok (.goto (-44), 3) := by decide +kernel
theorem dX9_drips_62 : decode cX9_drips 62 = .ok (.iinc 3 1, 3) := by decide +kernel
theorem dX9_drips_65 : decode cX9_drips 65 = .ok (.goto (-63), 3) := by decide +kernel
theorem dX9_drips_68 : decode cX9_drips 68 = .ok (.return_, 1) := by decide +kernel
theorem dX9_pull_0 : decode cX9_pull 0 = .ok (.aload_n 0, 1) := by decide +kernel
theorem dX9_pull_1 : decode cX9_pull 1 = .ok (.iload_n 1, 1) := by decide +kernel
theorem dX9_pull_2 : decode cX9_pull 2 = .ok (.invokevirtual 125, 3) := by decide +kernel
theorem dX9_pull_5 : decode cX9_pull 5 = .ok (.ifCond .eq 13, 3) := by decide +kernel
theorem dX9_pull_8 : decode cX9_pull 8 = .ok (.iload_n 2, 1) := by decide +kernel
theorem dX9_pull_9 : decode cX9_pull 9 = .ok (.iconst 2, 1) := by decide +kernel
theorem dX9_pull_10 : decode cX9_pull 10 = .ok (.if_icmp .eq 10, 3) := by decide +kernel
theorem dX9_pull_13 : decode cX9_pull 13 = .ok (.iload_n 2, 1) := by decide +kernel
theorem dX9_pull_14 : decode cX9_pull 14 = .ok (.iconst 4, 1) := by decide +kernel
theorem dX9_pull_15 : decode cX9_pull 15 = .ok (.if_icmp .eq 5, 3) := by decide +kernel
theorem dX9_pull_18 : decode cX9_pull 18 = .ok (.iconst (-1), 1) := by decide +kernel
theorem dX9_pull_19 : decode cX9_pull 19 = .ok (.ireturn, 1) := by decide +kernel
theorem dX9_pull_20 : decode cX9_pull 20 = .ok (.aload_n 0, 1) := by decide +kernel
theorem dX9_pull_21 : decode cX9_pull 21 = .ok (.getfield 19, 3) := by decide +kernel
theorem dX9_pull_24 : decode cX9_pull 24 = .ok (.iload_n 1, 1) := by decide +kernel
theorem dX9_pull_25 : decode cX9_pull 25 = .ok (.iaload, 1) := by decide +kernel
theorem dX9_pull_26 : decode cX9_pull 26 = .ok (.iload_n 2, 1) := by decide +kernel
theorem dX9_pull_27 : decode cX9_pull 27 = .ok (.imul, 1) := by decide +kernel
theorem dX9_pull_28 : decode cX9_pull 28 = .ok (.iconst 2, 1) := by decide +kernel
theorem dX9_pull_29 : decode cX9_pull 29 = .ok (.isub, 1) := by decide +kernel
theorem dX9_pull_30 : decode cX9_pull 30 = .ok (.istore_n 3, 1) := by decide +kernel
theorem dX9_pull_31 : decode cX9_pull 31 = .ok (.iload_n 3, 1) := by decide +kernel
theorem dX9_pull_32 : decode cX9_pull 32 = .ok (.iconst 1, 1) := by decide +kernel
theorem dX9_pull_33 : decode cX9_pull 33 = .ok (.sipush 9999, 3) := by decide +kernel
theorem dX9_pull_36 : decode cX9_pull 36 = .ok (.invokestatic 97, 3) := by decide +kernel
theorem dX9_pull_39 : decode cX9_pull 39 = .ok (.ifCond .eq 17, 3) := by decide +kernel
theorem dX9_pull_42 : decode cX9_pull 42 = .ok (.aload_n 0, 1) := by decide +kernel
theorem dX9_pull_43 : decode cX9_pull 43 = .ok (.getfield 22, 3) := by decide +kernel
theorem dX9_pull_46 : decode cX9_pull 46 = .ok (.iload_n 1, 1) := by decide +kernel
theorem dX9_pull_47 : decode cX9_pull 47 = .ok (.iaload, 1) := by decide +kernel
theorem dX9_pull_48 : decode cX9_pull 48 = .ok (.iload_n 2, 1) := by decide +kernel
theorem dX9_pull_49 : decode cX9_pull 49 = .ok (.imul, 1) := by decide +kernel
theorem dX9_pull_50 : decode cX9_pull 50 = .ok (.sipush 4096, 3) := by decide +kernel
theorem dX9_pull_53 : decode cX9_pull 53 = .ok (.if_icmp .le 6, 3) := by decide +kernel
theorem dX9_pull_56 : decode cX9_pull 56 = .ok (.bipush (-2), 2) := by decide +kernel
theorem dX9_pull_58 : decode cX9_pull 58 = .ok (.ireturn, 1) := by decide +kernel
theorem dX9_pull_59 : decode cX9_pull 59 = .ok (.aload_n 0, 1) := by decide +kernel
theorem dX9_pull_60 : decode cX9_pull 60 = .ok (.getfield 19, 3) := by decide +kernel
theorem dX9_pull_63 : decode cX9_pull 63 = .ok (.iload_n 1, 1) := by decide +kernel
theorem dX9_pull_64 : decode cX9_pull 64 = .ok (.iload_n 3, 1) := by decide +kernel
theorem dX9_pull_65 : decode cX9_pull 65 = .ok (.iastore, 1) := by decide +kernel
theorem dX9_pull_66 : decode cX9_pull 66 = .ok (.aload_n 0, 1) := by decide +kernel
theorem dX9_pull_67 : decode cX9_pull 67 = .ok (.getfield 22, 3) := by decide +kernel
theorem dX9_pull_70 : decode cX9_pull 70 = .ok (.iload_n 1, 1) := by decide +kernel
theorem dX9_pull_71 : decode cX9_pull 71 = .ok (.dup2, 1) := by decide +kernel
theorem dX9_pull_72 : decode cX9_pull 72 = .ok (.iaload, 1) := by decide +kernel
theorem dX9_pull_73 : decode cX9_pull 73 = .ok (.iload_n 2, 1) := by decide +kernel
theorem dX9_pull_74 : decode cX9_pull 74 = .ok (.imul, 1) := by decide +kernel
theorem dX9_pull_75 : decode cX9_pull 75 = .ok (.iastore, 1) := by decide +kernel
theorem dX9_pull_76 : decode cX9_pull 76 = .ok (.aload_n 0, 1) := by decide +kernel
theorem dX9_pull_77 : decode cX9_pull 77 = .ok (.iload_n 1, 1) := by decide +kernel
theorem dX9_pull_78 : decode cX9_pull 78 = .ok (.iconst 2, 1) := by decide +kernel
theorem dX9_pull_79 : decode cX9_pull 79 = .ok (.invokevirtual 128, 3) := by decide +kernel
theorem dX9_pull_82 : decode cX9_pull 82 = .ok (.iload_n 3, 1) := by decide +kernel
theorem dX9_pull_83 : decode cX9_pull 83 = .ok (.ireturn, 1) := by decide +kernel
theorem dX9_twist_0 : decode cX9_twist 0 = .ok (.aload_n 0, 1) := by decide +kernel
theorem dX9_twist_1 : decode cX9_twist 1 = .ok (.iload_n 1, 1) := by decide +kernel
theorem dX9_twist_2 : decode cX9_twist 2 = .ok (.invokevirtual 125, 3) := by decide +kernel
theorem dX9_twist_5 : decode cX9_twist 5 = .ok (.ifCond .eq 13, 3) := by decide +kernel
theorem dX9_twist_8 : decode cX9_twist 8 = .ok (.iload_n 2, 1) := by decide +kernel
theorem dX9_twist_9 : decode cX9_twist 9 = .ok (.iconst 0, 1) := by decide +kernel
theorem dX9_twist_10 : decode cX9_twist 10 = .ok (.bipush 40, 2) := by decide +kernel
theorem dX9_twist_12 : decode cX9_twist 12 = .ok (.invokestatic 97, 3) := by decide +kernel
theorem dX9_twist_15 : decode cX9_twist 15 = .ok (.ifCond .ne 5, 3) := by decide +kernel
theorem dX9_twist_18 : decode cX9_twist 18 = .ok (.iconst (-1), 1) := by decide +kernel
theorem dX9_twist_19 : decode cX9_twist 19 = .ok (.ireturn, 1) := by decide +kernel
theorem dX9_twist_20 : decode cX9_twist 20 = .ok (.aload_n 0, 1) := by decide +kernel
theorem dX9_twist_21 : decode cX9_twist 21 = .ok (.getfield 25, 3) := by decide +kernel
theorem dX9_twist_24 : decode cX9_twist 24 = .ok (.iload_n 1, 1) := by decide +kernel
theorem dX9_twist_25 : decode cX9_twist 25 = .ok (.iaload, 1) := by decide +kernel
theorem dX9_twist_26 : decode cX9_twist 26 = .ok (.istore_n 3, 1) := by decide +kernel
theorem dX9_twist_27 : decode cX9_twist 27 = .ok (.aload_n 0, 1) := by decide +kernel
theorem dX9_twist_28 : decode cX9_twist 28 = .ok (.getfield 25, 3) := by decide +kernel
theorem dX9_twist_31 : decode cX9_twist 31 = .ok (.iload_n 1, 1) := by decide +kernel
theorem dX9_twist_32 : decode cX9_twist 32 = .ok (.iload_n 2, 1) := by decide +kernel
theorem dX9_twist_33 : decode cX9_twist 33 = .ok (.iastore, 1) := by decide +kernel
theorem dX9_twist_34 : decode cX9_twist 34 = .ok (.iload_n 3, 1) := by decide +kernel
theorem dX9_twist_35 : decode cX9_twist 35 = .ok (.ireturn, 1) := by decide +kernel
theorem dX9_cut_0 : decode cX9_cut 0 = .ok (.aload_n 0, 1) := by decide +kernel
theorem dX9_cut_1 : decode cX9_cut 1 = .ok (.iload_n 1, 1) := by decide +kernel
theorem dX9_cut_2 : decode cX9_cut 2 = .ok (.invokevirtual 104, 3) := by decide +kernel
theorem dX9_cut_5 : decode cX9_cut 5 = .ok (.ifCond .eq 19, 3) := by decide +kernel
theorem dX9_cut_8 : decode cX9_cut 8 = .ok (.iload_n 2, 1) := by decide +kernel
theorem dX9_cut_9 : decode cX9_cut 9 = .ok (.iconst 1, 1) := by decide +kernel
theorem dX9_cut_10 : decode cX9_cut 10 = .ok (.aload_n 0, 1) := by decide +kernel
theorem dX9_cut_11 : decode cX9_cut 11 = .ok (.getfield 19, 3) := by decide +kernel
theorem dX9_cut_14 : decode cX9_cut 14 = .ok (.iload_n 1, 1) := by decide +kernel
theorem dX9_cut_15 : decode cX9_cut 15 = .ok (.iaload, 1) := by decide +kernel
theorem dX9_cut_16 : decode cX9_cut 16 = .ok (.iconst 1, 1) := by decide +kernel
theorem dX9_cut_17 : decode cX9_cut 17 = .ok (.isub, 1) := by decide +kernel
theorem dX9_cut_18 : decode cX9_cut 18 = .ok (.invokestatic 97, 3) := by decide +kernel
theorem dX9_cut_21 : decode cX9_cut 21 = .ok (.ifCond .ne 5, 3) := by decide +kernel
theorem dX9_cut_24 : decode cX9_cut 24 = .ok (.iconst (-1), 1) := by decide +kernel
theorem dX9_cut_25 : decode cX9_cut 25 = .ok (.ireturn, 1) := by decide +kernel
theorem dX9_cut_26 : decode cX9_cut 26 = .ok (.aload_n 0, 1) := by decide +kernel
theorem dX9_cut_27 : decode cX9_cut 27 = .ok (.getfield 101, 3) := by decide +kernel
theorem dX9_cut_30 : decode cX9_cut 30 = .ok (.bipush 16, 2) := by decide +kernel
theorem dX9_cut_32 : decode cX9_cut 32 = .ok (.if_icmp .ne 6, 3) := by decide +kernel
theorem dX9_cut_35 : decode cX9_cut 35 = .ok (.bipush (-3), 2) := by decide +kernel
theorem dX9_cut_37 : decode cX9_cut 37 = .ok (.ireturn, 1) := by decide +kernel
theorem dX9_cut_38 : decode cX9_cut 38 = .ok (.aload_n 0, 1) := by decide +kernel
theorem dX9_cut_39 : decode cX9_cut 39 = .ok (.getfield 25, 3) := by decide +kernel
theorem dX9_cut_42 : decode cX9_cut 42 = .ok (.iload_n 1, 1) := by decide +kernel
theorem dX9_cut_43 : decode cX9_cut 43 = .ok (.iaload, 1) := by decide +kernel
theorem dX9_cut_44 : decode cX9_cut 44 = .ok (.iload_n 2, 1) := by decide +kernel
theorem dX9_cut_45 : decode cX9_cut 45 = .ok (.imul, 1) := by decide +kernel
theorem dX9_cut_46 : decode cX9_cut 46 = .ok (.aload_n 0, 1) := by decide +kernel
theorem dX9_cut_47 : decode cX9_cut 47 = .ok (.getfield 19, 3) := by decide +kernel
theorem dX9_cut_50 : decode cX9_cut 50 = .ok (.iload_n 1, 1) := by decide +kernel
theorem dX9_cut_51 : decode cX9_cut 51 = .ok (.iaload, 1) := by decide +kernel
theorem dX9_cut_52 : decode cX9_cut 52 = .ok (.idiv, 1) := by decide +kernel
theorem dX9_cut_53 : decode cX9_cut 53 = .ok (.istore_n 3, 1) := by decide +kernel
theorem dX9_cut_54 : decode cX9_cut 54 = .ok (.iconst 0, 1) := by decide +kernel
theorem dX9_cut_55 : decode cX9_cut 55 = .ok (.istore 4, 2) := by decide +kernel
theorem dX9_cut_57 : decode cX9_cut 57 = .ok (.iload 4, 2) := by decide +kernel
theorem dX9_cut_59 : decode cX9_cut 59 = .ok (.aload_n 0, 1) := by decide +kernel
theorem dX9_cut_60 : decode cX9_cut 60 = .ok (.getfield 16, 3) := by decide +kernel
theorem dX9_cut_63 : decode cX9_cut 63 = .ok (.iload_n 1, 1) := by decide +kernel
theorem dX9_cut_64 : decode cX9_cut 64 = .ok (.iaload, 1) := by decide +kernel
theorem dX9_cut_65 : decode cX9_cut 65 = .ok (.if_icmp .ge 50, 3) := by decide +kernel
theorem dX9_cut_68 : decode cX9_cut 68 = .ok (.iconst 0, 1) := by decide +kernel
theorem dX9_cut_69 : decode cX9_cut 69 = .ok (.istore 5, 2) := by decide +kernel
theorem dX9_cut_71 : decode cX9_cut 71 = .ok (.iload 5, 2) := by decide +kernel
theorem dX9_cut_73 : decode cX9_cut 73 = .ok (.aload_n 0, 1) := by decide +kernel
theorem dX9_cut_74 : decode cX9_cut 74 = .ok (.getfield 16, 3) := by decide +kernel
theorem dX9_cut_77 : decode cX9_cut 77 = .ok (.iload_n 1, 1) := by decide +kernel
theorem dX9_cut_78 : decode cX9_cut 78 = .ok (.iaload, 1) := by decide +kernel
theorem dX9_cut_79 : decode cX9_cut 79 = .ok (.if_icmp .ge 30, 3) := by decide +kernel
theorem dX9_cut_82 : decode cX9_cut 82 = .ok (.aload_n 0, 1) := by decide +kernel
theorem dX9_cut_83 : decode cX9_cut 83 = .ok (.aload_n 0, 1) := by decide +kernel
theorem dX9_cut_84 : decode cX9_cut 84 = .ok (.getfield 101, 3) := by decide +kernel
theorem dX9_cut_87 : decode cX9_cut 87 = .ok (.iload 4, 2) := by decide +kernel
theorem dX9_cut_89 : decode cX9_cut 89 = .ok (.iload 5, 2) := by decide +kernel
theorem dX9_cut_91 : decode cX9_cut 91 = .ok (.aload_n 0, 1) := by decide +kernel
theorem dX9_cut_92 : decode cX9_cut 92 = .ok (.iload_n 1, 1) := by decide +kernel
theorem dX9_cut_93 : decode cX9_cut 93 = .ok (.iload 4, 2) := by decide +kernel
theorem dX9_cut_95 : decode cX9_cut 95 = .ok (.iload 5, 2) := by decide +kernel
theorem dX9_cut_97 : decode cX9_cut 97 = .ok (.invokevirtual 121, 3) := by decide +kernel
theorem dX9_cut_100 : decode cX9_cut 100 = .ok (.invokevirtual 111, 3) := by decide +kernel
theorem dX9_cut_103 : decode cX9_cut 103 = .ok (.iinc 5 1, 3) := by decide +kernel
theorem dX9_cut_106 : decode cX9_cut 106 = .ok (.goto (-35), 3) := by decide +kernel
theorem dX9_cut_109 : decode cX9_cut 109 = .ok (.iinc 4 1, 3) := by decide +kernel
theorem dX9_cut_112 : decode cX9_cut 112 = .ok (.goto (-55), 3) := by decide +kernel
theorem dX9_cut_115 : decode cX9_cut 115 = .ok (.aload_n 0, 1) := by decide +kernel
theorem dX9_cut_116 : decode cX9_cut 116 = .ok (.getfield 19, 3) := by decide +kernel
theorem dX9_cut_119 : decode cX9_cut 119 = .ok (.iload_n 1, 1) := by decide +kernel
theorem dX9_cut_120 : decode cX9_cut 120 = .ok (.dup2, 1) := by decide +kernel
theorem dX9_cut_121 : decode cX9_cut 121 = .ok (.iaload, 1) := by decide +kernel
theorem dX9_cut_122 : decode cX9_cut 122 = .ok (.iload_n 2, 1) := by decide +kernel
theorem dX9_cut_123 : decode cX9_cut 123 = .ok (.isub, 1) := by decide +kernel
theorem dX9_cut_124 : decode cX9_cut 124 = .ok (.iastore, 1) := by decide +kernel
theorem dX9_cut_125 : decode cX9_cut 125 = .ok (.aload_n 0, 1) := by decide +kernel
theorem dX9_cut_126 : decode cX9_cut 126 = .ok (.getfield 25, 3) := by decide +kernel
theorem dX9_cut_129 : decode cX9_cut 129 = .ok (.iload_n 1, 1) := by decide +kernel
theorem dX9_cut_130 : decode cX9_cut 130 = .ok (.dup2, 1) := by decide +kernel
theorem dX9_cut_131 : decode cX9_cut 131 = .ok (.iaload, 1) := by decide +kernel
theorem dX9_cut_132 : decode cX9_cut 132 = .ok (.iload_n 3, 1) := by decide +kernel
theorem dX9_cut_133 : decode cX9_cut 133 = .ok (.isub, 1) := by decide +kernel
theorem dX9_cut_134 : decode cX9_cut 134 = .ok (.iastore, 1) := by decide +kernel
theorem dX9_cut_135 : decode cX9_cut 135 = .ok (.aload_n 0, 1) := by decide +kernel
theorem dX9_cut_136 : decode cX9_cut 136 = .ok (.aload_n 0, 1) := by decide +kernel
theorem dX9_cut_137 : decode cX9_cut 137 = .ok (.getfield 16, 3) := by decide +kernel
theorem dX9_cut_140 : decode cX9_cut 140 = .ok (.iload_n 1, 1) := by decide +kernel
theorem dX9_cut_141 : decode cX9_cut 141 = .ok (.iaload, 1) := by decide +kernel
theorem dX9_cut_142 : decode cX9_cut 142 = .ok (.iload_n 2, 1) := by decide +kernel
theorem dX9_cut_143 : decode cX9_cut 143 = .ok (.aload_n 0, 1) := by decide +kernel
theorem dX9_cut_144 : decode cX9_cut 144 = .ok (.getfield 22, 3) := by decide +kernel
theorem dX9_cut_147 : decode cX9_cut 147 = .ok (.iload_n 1, 1) := by decide +kernel
theorem dX9_cut_148 : decode cX9_cut 148 = .ok (.iaload, 1) := by decide +kernel
theorem dX9_cut_149 : decode cX9_cut 149 = .ok (.iload_n 3, 1) := by decide +kernel
theorem dX9_cut_150 : decode cX9_cut 150 = .ok (.invokevirtual 117, 3) := by decide +kernel
theorem dX9_cut_153 : decode cX9_cut 153 = .ok (.ireturn, 1) := by decide +kernel
theorem dX9_cased_0 : decode cX9_cased 0 = .ok (.aload_n 0, 1) := by decide +kernel
theorem dX9_cased_1 : decode cX9_cased 1 = .ok (.iload_n 1, 1) := by decide +kernel
theorem dX9_cased_2 : decode cX9_cased 2 = .ok (.invokevirtual 125, 3) := by decide +kernel
theorem dX9_cased_5 : decode cX9_cased 5 = .ok (.ifCond .eq 10, 3) := by decide +kernel
theorem dX9_cased_8 : decode cX9_cased 8 = .ok (.iload_n 2, 1) := by decide +kernel
theorem dX9_cased_9 : decode cX9_cased 9 = .ok (.invokestatic 108, 3) := by decide +kernel
theorem dX9_cased_12 : decode cX9_cased 12 = .ok (.ifCond .ne 5, 3) := by decide +kernel
theorem dX9_cased_15 : decode cX9_cased 15 = .ok (.iconst (-1), 1) := by decide +kernel
theorem dX9_cased_16 : decode cX9_cased 16 = .ok (.ireturn, 1) := by decide +kernel
theorem dX9_cased_17 : decode cX9_cased 17 = .ok (.aload_n 0, 1) := by decide +kernel
theorem dX9_cased_18 : decode cX9_cased 18 = .ok (.getfield 16, 3) := by decide +kernel
theorem dX9_cased_21 : decode cX9_cased 21 = .ok (.iload_n 1, 1) := by decide +kernel
theorem dX9_cased_22 : decode cX9_cased 22 = .ok (.iaload, 1) := by decide +kernel
theorem dX9_cased_23 : decode cX9_cased 23 = .ok (.iconst 2, 1) := by decide +kernel
theorem dX9_cased_24 : decode cX9_cased 24 = .ok (.iadd, 1) := by decide +kernel
theorem dX9_cased_25 : decode cX9_cased 25 = .ok (.bipush 8, 2) := by decide +kernel
theorem dX9_cased_27 : decode cX9_cased 27 = .ok (.if_icmp .gt 12, 3) := by decide +kernel
theorem dX9_cased_30 : decode cX9_cased 30 = .ok (.aload_n 0, 1) := by decide +kernel
theorem dX9_cased_31 : decode cX9_cased 31 = .ok (.getfield 25, 3) := by decide +kernel
theorem dX9_cased_34 : decode cX9_cased 34 = .ok (.iload_n 1, 1) := by decide +kernel
theorem dX9_cased_35 : decode cX9_cased 35 = .ok (.iaload, 1) := by decide +kernel
theorem dX9_cased_36 : decode cX9_cased 36 = .ok (.ifCond .le 6, 3) := by decide +kernel
theorem dX9_cased_39 : decode cX9_cased 39 = .ok (.bipush (-2), 2) := by decide +kernel
theorem dX9_cased_41 : decode cX9_cased 41 = .ok (.ireturn, 1) := by decide +kernel
theorem dX9_cased_42 : decode cX9_cased 42 = .ok (.aload_n 0, 1) := by decide +kernel
theorem dX9_cased_43 : decode cX9_cased 43 = .ok (.getfield 16, 3) := by decide +kernel
theorem dX9_cased_46 : decode cX9_cased 46 = .ok (.iload_n 1, 1) := by decide +kernel
theorem dX9_cased_47 : decode cX9_cased 47 = .ok (.iaload, 1) := by decide +kernel
theorem dX9_cased_48 : decode cX9_cased 48 = .ok (.iconst 2, 1) := by decide +kernel
theorem dX9_cased_49 : decode cX9_cased 49 = .ok (.iadd, 1) := by decide +kernel
theorem dX9_cased_50 : decode cX9_cased 50 = .ok (.istore_n 3, 1) := by decide +kernel
theorem dX9_cased_51 : decode cX9_cased 51 = .ok (.iload_n 3, 1) := by decide +kernel
theorem dX9_cased_52 : decode cX9_cased 52 = .ok (.iconst 1, 1) := by decide +kernel
theorem dX9_cased_53 : decode cX9_cased 53 = .ok (.isub, 1) := by decide +kernel
theorem dX9_cased_54 : decode cX9_cased 54 = .ok (.istore 4, 2) := by decide +kernel
theorem dX9_cased_56 : decode cX9_cased 56 = .ok (.iload 4, 2) := by decide +kernel
theorem dX9_cased_58 : decode cX9_cased 58 = .ok (.ifCond .lt 126, 3) := by decide +kernel
theorem dX9_cased_61 : decode cX9_cased 61 = .ok (.iload_n 3, 1) := by decide +kernel
theorem dX9_cased_62 : decode cX9_cased 62 = .ok (.iconst 1, 1) := by decide +kernel
theorem dX9_cased_63 : decode cX9_cased 63 = .ok (.isub, 1) := by decide +kernel
theorem dX9_cased_64 : decode cX9_cased 64 = .ok (.istore 5, 2) := by decide +kernel
theorem dX9_cased_66 : decode cX9_cased 66 = .ok (.iload 5, 2) := by decide +kernel
theorem dX9_cased_68 : decode cX9_cased 68 = .ok (.ifCond .lt 110, 3) := by decide +kernel
theorem dX9_cased_71 : decode cX9_cased 71 = .ok (.iload 5, 2) := by decide +kernel
theorem dX9_cased_73 : decode cX9_cased 73 = .ok (.ifCond .eq 24, 3) := by decide +kernel
theorem dX9_cased_76 : decode cX9_cased 76 = .ok (.iload 4, 2) := by decide +kernel
theorem dX9_cased_78 : decode cX9_cased 78 = .ok (.ifCond .eq 19, 3) := by decide +kernel
theorem dX9_cased_81 : decode cX9_cased 81 = .ok (.iload 5, 2) := by decide +kernel
theorem dX9_cased_83 : decode cX9_cased 83 = .ok (.iload_n 3, 1) := by decide +kernel
theorem dX9_cased_84 : decode cX9_cased 84 = .ok (.iconst 1, 1) := by decide +kernel
theorem dX9_cased_85 : decode cX9_cased 85 = .ok (.isub, 1) := by decide +kernel
theorem dX9_cased_86 : decode cX9_cased 86 = .ok (.if_icmp .eq 11, 3) := by decide +kernel
theorem dX9_cased_89 : decode cX9_cased 89 = .ok (.iload 4, 2) := by decide +kernel
theorem dX9_cased_91 : decode cX9_cased 91 = .ok (.iload_n 3, 1) := by decide +kernel
theorem dX9_cased_92 : decode cX9_cased 92 = .ok (.iconst 1, 1) := by decide +kernel
theorem dX9_cased_93 : decode cX9_cased 93 = .ok (.isub, 1) := by decide +kernel
theorem dX9_cased_94 : decode cX9_cased 94 = .ok (.if_icmp .ne 7, 3) := by decide +kernel
theorem dX9_cased_97 : decode cX9_cased 97 = .ok (.iconst 1, 1) := by decide +kernel
theorem dX9_cased_98 : decode cX9_cased 98 = .ok (.goto 4, 3) := by decide +kernel
theorem dX9_cased_101 : decode cX9_cased 101 = .ok (.iconst 0, 1) := by decide +kernel
theorem dX9_cased_102 : decode cX9_cased 102 = .ok (.istore 6, 2) := by decide +kernel
theorem dX9_cased_104 : decode cX9_cased 104 = .ok (.aload_n 0, 1) := by decide +kernel
theorem dX9_cased_105 : decode cX9_cased 105 = .ok (.iload_n 1, 1) := by decide +kernel
theorem dX9_cased_106 : decode cX9_cased 106 = .ok (.iload 5, 2) := by decide +kernel
theorem dX9_cased_108 : decode cX9_cased 108 = .ok (.iload 4, 2) := by decide +kernel
theorem dX9_cased_110 : decode cX9_cased 110 = .ok (.iload 6, 2) := by decide +kernel
theorem dX9_cased_112 : decode cX9_cased 112 = .ok (.ifCond .eq 7, 3) := by decide +kernel
theorem dX9_cased_115 : decode cX9_cased 115 = .ok (.iload_n 2, 1) := by decide +kernel
theorem dX9_cased_116 : decode cX9_cased 116 = .ok (.goto 16, 3) := by decide +kernel
theorem dX9_cased_119 : decode cX9_cased 119 = .ok (.aload_n 0, 1) := by decide +kernel
theorem dX9_cased_120 : decode cX9_cased 120 = .ok (.iload_n 1, 1) := by decide +kernel
theorem dX9_cased_121 : decode cX9_cased 121 = .ok (.iload 5, 2) := by decide +kernel
theorem dX9_cased_123 : decode cX9_cased 123 = .ok (.iconst 1, 1) := by decide +kernel
theorem dX9_cased_124 : decode cX9_cased 124 = .ok (.isub, 1) := by decide +kernel
theorem dX9_cased_125 : decode cX9_cased 125 = .ok (.iload 4, 2) := by decide +kernel
theorem dX9_cased_127 : decode cX9_cased 127 = .ok (.iconst 1, 1) := by decide +kernel
theorem dX9_cased_128 : decode cX9_cased 128 = .ok (.isub, 1) := by decide +kernel
theorem dX9_cased_129 : decode cX9_cased 129 = .ok (.invokevirtual 121, 3) := by decide +kernel
theorem dX9_cased_132 : decode cX9_cased 132 = .ok (.invokevirtual 111, 3) := by decide +kernel
theorem dX9_cased_135 : decode cX9_cased 135 = .ok (.aload_n 0, 1) := by decide +kernel
theorem dX9_cased_136 : decode cX9_cased 136 = .ok (.getfield 47, 3) := by decide +kernel
theorem dX9_cased_139 : decode cX9_cased 139 = .ok (.iload_n 2, 1) := by decide +kernel
theorem dX9_cased_140 : decode cX9_cased 140 = .ok (.dup2, 1) := by decide +kernel
theorem dX9_cased_141 : decode cX9_cased 141 = .ok (.laload, 1) := by decide +kernel
theorem dX9_cased_142 : decode cX9_cased 142 = .ok (.iload 6, 2) := by decide +kernel
theorem dX9_cased_144 : decode cX9_cased 144 = .ok (.ifCond .eq 25, 3) := by decide +kernel
theorem dX9_cased_147 : decode cX9_cased 147 = .ok (.aload_n 0, 1) := by decide +kernel
theorem dX9_cased_148 : decode cX9_cased 148 = .ok (.getfield 19, 3) := by decide +kernel
theorem dX9_cased_151 : decode cX9_cased 151 = .ok (.iload_n 1, 1) := by decide +kernel
theorem dX9_cased_152 : decode cX9_cased 152 = .ok (.iaload, 1) := by decide +kernel
theorem dX9_cased_153 : decode cX9_cased 153 = .ok (.i2l, 1) := by decide +kernel
theorem dX9_cased_154 : decode cX9_cased 154 = .ok (.sipush 4096, 3) := by decide +kernel
theorem dX9_cased_157 : decode cX9_cased 157 = .ok (.aload_n 0, 1) := by decide +kernel
theorem dX9_cased_158 : decode cX9_cased 158 = .ok (.getfield 22, 3) := by decide +kernel
theorem dX9_cased_161 : decode cX9_cased 161 = .ok (.iload_n 1, 1) := by decide +kernel
theorem dX9_cased_162 : decode cX9_cased 162 = .ok (.iaload, 1) := by decide +kernel
theorem dX9_cased_163 : decode cX9_cased 163 = .ok (.idiv, 1) := by decide +kernel
theorem dX9_cased_164 : decode cX9_cased 164 = .ok (.i2l, 1) := by decide +kernel
theorem dX9_cased_165 : decode cX9_cased 165 = .ok (.lmul, 1) := by decide +kernel
theorem dX9_cased_166 : decode cX9_cased 166 = .ok (.goto 4, 3) := by decide +kernel
theorem dX9_cased_169 : decode cX9_cased 169 = .ok (.lconst 0, 1) := by decide +kernel
theorem dX9_cased_170 : decode cX9_cased 170 = .ok (.ladd, 1) := by decide +kernel
theorem dX9_cased_171 : decode cX9_cased 171 = .ok (.lastore, 1) := by decide +kernel
theorem dX9_cased_172 : decode cX9_cased 172 = .ok (.iinc 5 (-1), 3) := by decide +kernel
theorem dX9_cased_175 : decode cX9_cased 175 = .ok (.goto (-109), 3) := by decide +kernel
theorem dX9_cased_178 : decode cX9_cased 178 = .ok (.iinc 4 (-1), 3) := by decide +kernel
theorem dX9_cased_181 : decode cX9_cased 181 = .ok (.goto (-125), 3) := by decide +kernel
theorem dX9_cased_184 : decode cX9_cased 184 = .ok (.aload_n 0, 1) := by decide +kernel
theorem dX9_cased_185 : decode cX9_cased 185 = .ok (.getfield 16, 3) := by decide +kernel
theorem dX9_cased_188 : decode cX9_cased 188 = .ok (.iload_n 1, 1) := by decide +kernel
theorem dX9_cased_189 : decode cX9_cased 189 = .ok (.iload_n 3, 1) := by decide +kernel
theorem dX9_cased_190 : decode cX9_cased 190 = .ok (.iastore, 1) := by decide +kernel
theorem dX9_cased_191 : decode cX9_cased 191 = .ok (.iload_n 3, 1) := by decide +kernel
theorem dX9_cased_192 : decode cX9_cased 192 = .ok (.ireturn, 1) := by decide +kernel
theorem dX9_drop_0 : decode cX9_drop 0 = .ok (.aload_n 0, 1) := by decide +kernel
theorem dX9_drop_1 : decode cX9_drop 1 = .ok (.iload_n 1, 1) := by decide +kernel
theorem dX9_drop_2 : decode cX9_drop 2 = .ok (.invokevirtual 125, 3) := by decide +kernel
theorem dX9_drop_5 : decode cX9_drop 5 = .ok (.ifCond .ne 5, 3) := by decide +kernel
theorem dX9_drop_8 : decode cX9_drop 8 = .ok (.iconst (-1), 1) := by decide +kernel
theorem dX9_drop_9 : decode cX9_drop 9 = .ok (.ireturn, 1) := by decide +kernel
theorem dX9_drop_10 : decode cX9_drop 10 = .ok (.aload_n 0, 1) := by decide +kernel
theorem dX9_drop_11 : decode cX9_drop 11 = .ok (.getfield 19, 3) := by decide +kernel
theorem dX9_drop_14 : decode cX9_drop 14 = .ok (.iload_n 1, 1) := by decide +kernel
theorem dX9_drop_15 : decode cX9_drop 15 = .ok (.iaload, 1) := by decide +kernel
theorem dX9_drop_16 : decode cX9_drop 16 = .ok (.istore_n 2, 1) := by decide +kernel
theorem dX9_drop_17 : decode cX9_drop 17 = .ok (.aload_n 0, 1) := by decide +kernel
theorem dX9_drop_18 : decode cX9_drop 18 = .ok (.iload_n 1, 1) := by decide +kernel
theorem dX9_drop_19 : decode cX9_drop 19 = .ok (.iload_n 2, 1) := by decide +kernel
theorem dX9_drop_20 : decode cX9_drop 20 = .ok (.invokevirtual 128, 3) := by decide +kernel
theorem dX9_drop_23 : decode cX9_drop 23 = .ok (.aload_n 0, 1) := by decide +kernel
theorem dX9_drop_24 : decode cX9_drop 24 = .ok (.getfield 19, 3) := by decide +kernel
theorem dX9_drop_27 : decode cX9_drop 27 = .ok (.iload_n 1, 1) := by decide +kernel
theorem dX9_drop_28 : decode cX9_drop 28 = .ok (.iconst 0, 1) := by decide +kernel
theorem dX9_drop_29 : decode cX9_drop 29 = .ok (.iastore, 1) := by decide +kernel
theorem dX9_drop_30 : decode cX9_drop 30 = .ok (.iload_n 2, 1) := by decide +kernel
theorem dX9_drop_31 : decode cX9_drop 31 = .ok (.ireturn, 1) := by decide +kernel
theorem dX9_costs_0 : decode cX9_costs 0 = .ok (.iconst 0, 1) := by decide +kernel
theorem dX9_costs_1 : decode cX9_costs 1 = .ok (.istore_n 2, 1) := by decide +kernel
theorem dX9_costs_2 : decode cX9_costs 2 = .ok (.iconst 0, 1) := by decide +kernel
theorem dX9_costs_3 : decode cX9_costs 3 = .ok (.istore_n 3, 1) := by decide +kernel
theorem dX9_costs_4 : decode cX9_costs 4 = .ok (.iload_n 3, 1) := by decide +kernel
theorem dX9_costs_5 : decode cX9_costs 5 = .ok (.aload_n 0, 1) := by decide +kernel
theorem dX9_costs_6 : decode cX9_costs 6 = .ok (.getfield 16, 3) := by decide +kernel
theorem dX9_costs_9 : decode cX9_costs 9 = .ok (.iload_n 1, 1) := by decide +kernel
theorem dX9_costs_10 : decode cX9_costs 10 = .ok (.iaload, 1) := by decide +kernel
theorem dX9_costs_11 : decode cX9_costs 11 = .ok (.if_icmp .ge 45, 3) := by decide +kernel
theorem dX9_costs_14 : decode cX9_costs 14 = .ok (.iconst 0, 1) := by decide +kernel
theorem dX9_costs_15 : decode cX9_costs 15 = .ok (.istore 4, 2) := by decide +kernel
theorem dX9_costs_17 : decode cX9_costs 17 = .ok (.iload 4, 2) := by decide +kernel
theorem dX9_costs_19 : decode cX9_costs 19 = .ok (.aload_n 0, 1) := by decide +kernel
theorem dX9_costs_20 : decode cX9_costs 20 = .ok (.getfield 16, 3) := by decide +kernel
theorem dX9_costs_23 : decode cX9_costs 23 = .ok (.iload_n 1, 1) := by decide +kernel
theorem dX9_costs_24 : decode cX9_costs 24 = .ok (.iaload, 1) := by decide +kernel
theorem dX9_costs_25 : decode cX9_costs 25 = .ok (.if_icmp .ge 25, 3) := by decide +kernel
theorem dX9_costs_28 : decode cX9_costs 28 = .ok (.iload_n 2, 1) := by decide +kernel
theorem dX9_costs_29 : decode cX9_costs 29 = .ok (.aload_n 0, 1) := by decide +kernel
theorem dX9_costs_30 : decode cX9_costs 30 = .ok (.getfield 13, 3) := by decide +kernel
theorem dX9_costs_33 : decode cX9_costs 33 = .ok (.aload_n 0, 1) := by decide +kernel
theorem dX9_costs_34 : decode cX9_costs 34 = .ok (.iload_n 1, 1) := by decide +kernel
theorem dX9_costs_35 : decode cX9_costs 35 = .ok (.iload_n 3, 1) := by decide +kernel
theorem dX9_costs_36 : decode cX9_costs 36 = .ok (.iload 4, 2) := by decide +kernel
theorem dX9_costs_38 : decode cX9_costs 38 = .ok (.invokevirtual 121, 3) := by decide +kernel
theorem dX9_costs_41 : decode cX9_costs 41 = .ok (.iaload, 1) := by decide +kernel
theorem dX9_costs_42 : decode cX9_costs 42 = .ok (.iadd, 1) := by decide +kernel
theorem dX9_costs_43 : decode cX9_costs 43 = .ok (.istore_n 2, 1) := by decide +kernel
theorem dX9_costs_44 : decode cX9_costs 44 = .ok (.iinc 4 1, 3) := by decide +kernel
theorem dX9_costs_47 : decode cX9_costs 47 = .ok (.goto (-30), 3) := by decide +kernel
theorem dX9_costs_50 : decode cX9_costs 50 = .ok (.iinc 3 1, 3) := by decide +kernel
theorem dX9_costs_53 : decode cX9_costs 53 = .ok (.goto (-49), 3) := by decide +kernel
theorem dX9_costs_56 : decode cX9_costs 56 = .ok (.iload_n 2, 1) := by decide +kernel
theorem dX9_costs_57 : decode cX9_costs 57 = .ok (.ireturn, 1) := by decide +kernel
theorem dX9_solid_0 : decode cX9_solid 0 = .ok (.iconst 0, 1) := by decide +kernel
theorem dX9_solid_1 : decode cX9_solid 1 = .ok (.istore_n 2, 1) := by decide +kernel
theorem dX9_solid_2 : decode cX9_solid 2 = .ok (.iconst 0, 1) := by decide +kernel
theorem dX9_solid_3 : decode cX9_solid 3 = .ok (.istore_n 3, 1) := by decide +kernel
theorem dX9_solid_4 : decode cX9_solid 4 = .ok (.iload_n 3, 1) := by decide +kernel
theorem dX9_solid_5 : decode cX9_solid 5 = .ok (.aload_n 0, 1) := by decide +kernel
theorem dX9_solid_6 : decode cX9_solid 6 = .ok (.getfield 16, 3) := by decide +kernel
theorem dX9_solid_9 : decode cX9_solid 9 = .ok (.iload_n 1, 1) := by decide +kernel
theorem dX9_solid_10 : decode cX9_solid 10 = .ok (.iaload, 1) := by decide +kernel
theorem dX9_solid_11 : decode cX9_solid 11 = .ok (.if_icmp .ge 48, 3) := by decide +kernel
theorem dX9_solid_14 : decode cX9_solid 14 = .ok (.iconst 0, 1) := by decide +kernel
theorem dX9_solid_15 : decode cX9_solid 15 = .ok (.istore 4, 2) := by decide +kernel
theorem dX9_solid_17 : decode cX9_solid 17 = .ok (.iload 4, 2) := by decide +kernel
theorem dX9_solid_19 : decode cX9_solid 19 = .ok (.aload_n 0, 1) := by decide +kernel
theorem dX9_solid_20 : decode cX9_solid 20 = .ok (.getfield 16, 3) := by decide +kernel
theorem dX9_solid_23 : decode cX9_solid 23 = .ok (.iload_n 1, 1) := by decide +kernel
theorem dX9_solid_24 : decode cX9_solid 24 = .ok (.iaload, 1) := by decide +kernel
theorem dX9_solid_25 : decode cX9_solid 25 = .ok (.if_icmp .ge 28, 3) := by decide +kernel
theorem dX9_solid_28 : decode cX9_solid 28 = .ok (.iload_n 2, 1) := by decide +kernel
theorem dX9_solid_29 : decode cX9_solid 29 = .ok (.aload_n 0, 1) := by decide +kernel
theorem dX9_solid_30 : decode cX9_solid 30 = .ok (.iload_n 1, 1) := by decide +kernel
theorem dX9_solid_31 : decode cX9_solid 31 = .ok (.iload_n 3, 1) := by decide +kernel
theorem dX9_solid_32 : decode cX9_solid 32 = .ok (.iload 4, 2) := by decide +kernel
theorem dX9_solid_34 : decode cX9_solid 34 = .ok (.invokevirtual 121, 3) := by decide +kernel
theorem dX9_solid_37 : decode cX9_solid 37 = .ok (.ifCond .le 7, 3) := by decide +kernel
theorem dX9_solid_40 : decode cX9_solid 40 = .ok (.iconst 1, 1) := by decide +kernel
theorem dX9_solid_41 : decode cX9_solid 41 = .ok (.goto 4, 3) := by decide +kernel
theorem dX9_solid_44 : decode cX9_solid 44 = .ok (.iconst 0, 1) := by decide +kernel
theorem dX9_solid_45 : decode cX9_solid 45 = .ok (.iadd, 1) := by decide +kernel
theorem dX9_solid_46 : decode cX9_solid 46 = .ok (.istore_n 2, 1) := by decide +kernel
theorem dX9_solid_47 : decode cX9_solid 47 = .ok (.iinc 4 1, 3) := by decide +kernel
theorem dX9_solid_50 : decode cX9_solid 50 = .ok (.goto (-33), 3) := by decide +kernel
theorem dX9_solid_53 : decode cX9_solid 53 = .ok (.iinc 3 1, 3) := by decide +kernel
theorem dX9_solid_56 : decode cX9_solid 56 = .ok (.goto (-52), 3) := by decide +kernel
theorem dX9_solid_59 : decode cX9_solid 59 = .ok (.iload_n 2, 1) := by decide +kernel
theorem dX9_solid_60 : decode cX9_solid 60 = .ok (.ireturn, 1) := by decide +kernel
theorem dX9_about_0 : decode cX9_about 0 = .ok (.aload_n 0, 1) := by decide +kernel
theorem dX9_about_1 : decode cX9_about 1 = .ok (.iload_n 1, 1) := by decide +kernel
theorem dX9_about_2 : decode cX9_about 2 = .ok (.invokevirtual 104, 3) := by decide +kernel
theorem dX9_about_5 : decode cX9_about 5 = .ok (.ifCond .ne 5, 3) := by decide +kernel
theorem dX9_about_8 : decode cX9_about 8 = .ok (.iconst (-1), 1) := by decide +kernel
theorem dX9_about_9 : decode cX9_about 9 = .ok (.ireturn, 1) := by decide +kernel
theorem dX9_about_10 : decode cX9_about 10 = .ok (.iload_n 2, 1) := by decide +kernel
theorem dX9_about_11 : decode cX9_about 11 = .ok (.tableswitch 77 0 5 #[37, 44, 51, 58, 65, 71], 37) := by decide +kernel
theorem dX9_about_48 : decode cX9_about 48 = .ok (.aload_n 0, 1) := by decide +kernel
theorem dX9_about_49 : decode cX9_about 49 = .ok (.getfield 16, 3) := by decide +kernel
theorem dX9_about_52 : decode cX9_about 52 = .ok (.iload_n 1, 1) := by decide +kernel
theorem dX9_about_53 : decode cX9_about 53 = .ok (.iaload, 1) := by decide +kernel
theorem dX9_about_54 : decode cX9_about 54 = .ok (.ireturn, 1) := by decide +kernel
theorem dX9_about_55 : decode cX9_about 55 = .ok (.aload_n 0, 1) := by decide +kernel
theorem dX9_about_56 : decode cX9_about 56 = .ok (.getfield 19, 3) := by decide +kernel
theorem dX9_about_59 : decode cX9_about 59 = .ok (.iload_n 1, 1) := by decide +kernel
theorem dX9_about_60 : decode cX9_about 60 = .ok (.iaload, 1) := by decide +kernel
theorem dX9_about_61 : decode cX9_about 61 = .ok (.ireturn, 1) := by decide +kernel
theorem dX9_about_62 : decode cX9_about 62 = .ok (.aload_n 0, 1) := by decide +kernel
theorem dX9_about_63 : decode cX9_about 63 = .ok (.getfield 22, 3) := by decide +kernel
theorem dX9_about_66 : decode cX9_about 66 = .ok (.iload_n 1, 1) := by decide +kernel
theorem dX9_about_67 : decode cX9_about 67 = .ok (.iaload, 1) := by decide +kernel
theorem dX9_about_68 : decode cX9_about 68 = .ok (.ireturn, 1) := by decide +kernel
theorem dX9_about_69 : decode cX9_about 69 = .ok (.aload_n 0, 1) := by decide +kernel
theorem dX9_about_70 : decode cX9_about 70 = .ok (.getfield 25, 3) := by decide +kernel
theorem dX9_about_73 : decode cX9_about 73 = .ok (.iload_n 1, 1) := by decide +kernel
theorem dX9_about_74 : decode cX9_about 74 = .ok (.iaload, 1) := by decide +kernel
theorem dX9_about_75 : decode cX9_about 75 = .ok (.ireturn, 1) := by decide +kernel
theorem dX9_about_76 : decode cX9_about 76 = .ok (.aload_n 0, 1) := by decide +kernel
theorem dX9_about_77 : decode cX9_about 77 = .ok (.iload_n 1, 1) := by decide +kernel
theorem dX9_about_78 : decode cX9_about 78 = .ok (.invokevirtual 132, 3) := by decide +kernel
theorem dX9_about_81 : decode cX9_about 81 = .ok (.ireturn, 1) := by decide +kernel
theorem dX9_about_82 : decode cX9_about 82 = .ok (.aload_n 0, 1) := by decide +kernel
theorem dX9_about_83 : decode cX9_about 83 = .ok (.iload_n 1, 1) := by decide +kernel
theorem dX9_about_84 : decode cX9_about 84 = .ok (.invokevirtual 136, 3) := by decide +kernel
theorem dX9_about_87 : decode cX9_about 87 = .ok (.ireturn, 1) := by decide +kernel
theorem dX9_about_88 : decode cX9_about 88 = .ok (.iconst (-1), 1) := by decide +kernel
theorem dX9_about_89 : decode cX9_about 89 = .ok (.ireturn, 1) := by decide +kernel
theorem dX9_cell_0 : decode cX9_cell 0 = .ok (.aload_n 0, 1) := by decide +kernel
theorem dX9_cell_1 : decode cX9_cell 1 = .ok (.iload_n 1, 1) := by decide +kernel
theorem dX9_cell_2 : decode cX9_cell 2 = .ok (.invokevirtual 104, 3) := by decide +kernel
theorem dX9_cell_5 : decode cX9_cell 5 = .ok (.ifCond .eq 45, 3) := by decide +kernel
theorem dX9_cell_8 : decode cX9_cell 8 = .ok (.iload_n 2, 1) := by decide +kernel
theorem dX9_cell_9 : decode cX9_cell 9 = .ok (.iconst 0, 1) := by decide +kernel
theorem dX9_cell_10 : decode cX9_cell 10 = .ok (.aload_n 0, 1) := by decide +kernel
theorem dX9_cell_11 : decode cX9_cell 11 = .ok (.getfield 16, 3) := by decide +kernel
theorem dX9_cell_14 : decode cX9_cell 14 = .ok (.iload_n 1, 1) := by decide +kernel
theorem dX9_cell_15 : decode cX9_cell 15 = .ok (.iaload, 1) := by decide +kernel
theorem dX9_cell_16 : decode cX9_cell 16 = .ok (.iconst 1, 1) := by decide +kernel
theorem dX9_cell_17 : decode cX9_cell 17 = .ok (.isub, 1) := by decide +kernel
theorem dX9_cell_18 : decode cX9_cell 18 = .ok (.invokestatic 97, 3) := by decide +kernel
theorem dX9_cell_21 : decode cX9_cell 21 = .ok (.ifCond .eq 29, 3) := by decide +kernel
theorem dX9_cell_24 : decode cX9_cell 24 = .ok (.iload_n 3, 1) := by decide +kernel
theorem dX9_cell_25 : decode cX9_cell 25 = .ok (.iconst 0, 1) := by decide +kernel
theorem dX9_cell_26 : decode cX9_cell 26 = .ok (.aload_n 0, 1) := by decide +kernel
theorem dX9_cell_27 : decode cX9_cell 27 = .ok (.getfield 16, 3) := by decide +kernel
theorem dX9_cell_30 : decode cX9_cell 30 = .ok (.iload_n 1, 1) := by decide +kernel
theorem dX9_cell_31 : decode cX9_cell 31 = .ok (.iaload, 1) := by decide +kernel
theorem dX9_cell_32 : decode cX9_cell 32 = .ok (.iconst 1, 1) := by decide +kernel
theorem dX9_cell_33 : decode cX9_cell 33 = .ok (.isub, 1) := by decide +kernel
theorem dX9_cell_34 : decode cX9_cell 34 = .ok (.invokestatic 97, 3) := by decide +kernel
theorem dX9_cell_37 : decode cX9_cell 37 = .ok (.ifCond .eq 13, 3) := by decide +kernel
theorem dX9_cell_40 : decode cX9_cell 40 = .ok (.aload_n 0, 1) := by decide +kernel
theorem dX9_cell_41 : decode cX9_cell 41 = .ok (.iload_n 1, 1) := by decide +kernel
theorem dX9_cell_42 : decode cX9_cell 42 = .ok (.iload_n 2, 1) := by decide +kernel
theorem dX9_cell_43 : decode cX9_cell 43 = .ok (.iload_n 3, 1) := by decide +kernel
theorem dX9_cell_44 : decode cX9_cell 44 = .ok (.invokevirtual 121, 3) := by decide +kernel
theorem dX9_cell_47 : decode cX9_cell 47 = .ok (.goto 4, 3) := by decide +kernel
theorem dX9_cell_50 : decode cX9_cell 50 = .ok (.iconst (-1), 1) := by decide +kernel
theorem dX9_cell_51 : decode cX9_cell 51 = .ok (.ireturn, 1) := by decide +kernel
theorem dX9_shown_0 : decode cX9_shown 0 = .ok (.iload_n 3, 1) := by decide +kernel
theorem dX9_shown_1 : decode cX9_shown 1 = .ok (.istore 7, 2) := by decide +kernel
theorem dX9_shown_3 : decode cX9_shown 3 = .ok (.iload 4, 2) := by decide +kernel
theorem dX9_shown_5 : decode cX9_shown 5 = .ok (.istore 8, 2) := by decide +kernel
theorem dX9_shown_7 : decode cX9_shown 7 = .ok (.iconst 0, 1) := by decide +kernel
theorem dX9_shown_8 : decode cX9_shown 8 = .ok (.istore 9, 2) := by decide +kernel
theorem dX9_shown_10 : decode cX9_shown 10 = .ok (.iload 9, 2) := by decide +kernel
theorem dX9_shown_12 : decode cX9_shown 12 = .ok (.iload 5, 2) := by decide +kernel
theorem dX9_shown_14 : decode cX9_shown 14 = .ok (.iconst 3, 1) := by decide +kernel
theorem dX9_shown_15 : decode cX9_shown 15 = .ok (.iand, 1) := by decide +kernel
theorem dX9_shown_16 : decode cX9_shown 16 = .ok (.if_icmp .ge 25, 3) := by decide +kernel
theorem dX9_shown_19 : decode cX9_shown 19 = .ok (.iload 7, 2) := by decide +kernel
theorem dX9_shown_21 : decode cX9_shown 21 = .ok (.istore 10, 2) := by decide +kernel
theorem dX9_shown_23 : decode cX9_shown 23 = .ok (.iload 8, 2) := by decide +kernel
theorem dX9_shown_25 : decode cX9_shown 25 = .ok (.istore 7, 2) := by decide +kernel
theorem dX9_shown_27 : decode cX9_shown 27 = .ok (.iload_n 2, 1) := by decide +kernel
theorem dX9_shown_28 : decode cX9_shown 28 = .ok (.iconst 1, 1) := by decide +kernel
theorem dX9_shown_29 : decode cX9_shown 29 = .ok (.isub, 1) := by decide +kernel
theorem dX9_shown_30 : decode cX9_shown 30 = .ok (.iload 10, 2) := by decide +kernel
theorem dX9_shown_32 : decode cX9_shown 32 = .ok (.isub, 1) := by decide +kernel
theorem dX9_shown_33 : decode cX9_shown 33 = .ok (.istore 8, 2) := by decide +kernel
theorem dX9_shown_35 : decode cX9_shown 35 = .ok (.iinc 9 1, 3) := by decide +kernel
theorem dX9_shown_38 : decode cX9_shown 38 = .ok (.goto (-28), 3) := by decide +kernel
theorem dX9_shown_41 : decode cX9_shown 41 = .ok (.aload_n 0, 1) := by decide +kernel
theorem dX9_shown_42 : decode cX9_shown 42 = .ok (.iload_n 1, 1) := by decide +kernel
theorem dX9_shown_43 : decode cX9_shown 43 = .ok (.iload 6, 2) := by decide +kernel
theorem dX9_shown_45 : decode cX9_shown 45 = .ok (.ifCond .eq 12, 3) := by decide +kernel
theorem dX9_shown_48 : decode cX9_shown 48 = .ok (.iload_n 2, 1) := by decide +kernel
theorem dX9_shown_49 : decode cX9_shown 49 = .ok (.iconst 1, 1) := by decide +kernel
theorem dX9_shown_50 : decode cX9_shown 50 = .ok (.isub, 1) := by decide +kernel
theorem dX9_shown_51 : decode cX9_shown 51 = .ok (.iload 7, 2) := by decide +kernel
theorem dX9_shown_53 : decode cX9_shown 53 = .ok (.isub, 1) := by decide +kernel
theorem dX9_shown_54 : decode cX9_shown 54 = .ok (.goto 5, 3) := by decide +kernel
theorem dX9_shown_57 : decode cX9_shown 57 = .ok (.iload 7, 2) := by decide +kernel
theorem dX9_shown_59 : decode cX9_shown 59 = .ok (.iload 8, 2) := by decide +kernel
theorem dX9_shown_61 : decode cX9_shown 61 = .ok (.invokevirtual 121, 3) := by decide +kernel
theorem dX9_shown_64 : decode cX9_shown 64 = .ok (.ireturn, 1) := by decide +kernel
theorem dX9_view_0 : decode cX9_view 0 = .ok (.iload_n 1, 1) := by decide +kernel
theorem dX9_view_1 : decode cX9_view 1 = .ok (.iconst 0, 1) := by decide +kernel
theorem dX9_view_2 : decode cX9_view 2 = .ok (.iconst 2, 1) := by decide +kernel
theorem dX9_view_3 : decode cX9_view 3 = .ok (.invokestatic 97, 3) := by decide +kernel
theorem dX9_view_6 : decode cX9_view 6 = .ok (.ifCond .eq 61, 3) := by decide +kernel
theorem dX9_view_9 : decode cX9_view 9 = .ok (.aload_n 0, 1) := by decide +kernel
theorem dX9_view_10 : decode cX9_view 10 = .ok (.iload_n 2, 1) := by decide +kernel
theorem dX9_view_11 : decode cX9_view 11 = .ok (.invokevirtual 125, 3) := by decide +kernel
theorem dX9_view_14 : decode cX9_view 14 = .ok (.ifCond .eq 53, 3) := by decide +kernel
theorem dX9_view_17 : decode cX9_view 17 = .ok (.iload_n 3, 1) := by decide +kernel
theorem dX9_view_18 : decode cX9_view 18 = .ok (.iconst 0, 1) := by decide +kernel
theorem dX9_view_19 : decode cX9_view 19 = .ok (.aload_n 0, 1) := by decide +kernel
theorem dX9_view_20 : decode cX9_view 20 = .ok (.getfield 16, 3) := by decide +kernel
theorem dX9_view_23 : decode cX9_view 23 = .ok (.iload_n 2, 1) := by decide +kernel
theorem dX9_view_24 : decode cX9_view 24 = .ok (.iaload, 1) := by decide +kernel
theorem dX9_view_25 : decode cX9_view 25 = .ok (.iconst 1, 1) := by decide +kernel
theorem dX9_view_26 : decode cX9_view 26 = .ok (.isub, 1) := by decide +kernel
theorem dX9_view_27 : decode cX9_view 27 = .ok (.invokestatic 97, 3) := by decide +kernel
theorem dX9_view_30 : decode cX9_view 30 = .ok (.ifCond .eq 37, 3) := by decide +kernel
theorem dX9_view_33 : decode cX9_view 33 = .ok (.iload 4, 2) := by decide +kernel
theorem dX9_view_35 : decode cX9_view 35 = .ok (.iconst 0, 1) := by decide +kernel
theorem dX9_view_36 : decode cX9_view 36 = .ok (.aload_n 0, 1) := by decide +kernel
theorem dX9_view_37 : decode cX9_view 37 = .ok (.getfield 16, 3) := by decide +kernel
theorem dX9_view_40 : decode cX9_view 40 = .ok (.iload_n 2, 1) := by decide +kernel
theorem dX9_view_41 : decode cX9_view 41 = .ok (.iaload, 1) := by decide +kernel
theorem dX9_view_42 : decode cX9_view 42 = .ok (.iconst 1, 1) := by decide +kernel
theorem dX9_view_43 : decode cX9_view 43 = .ok (.isub, 1) := by decide +kernel
theorem dX9_view_44 : decode cX9_view 44 = .ok (.invokestatic 97, 3) := by decide +kernel
theorem dX9_view_47 : decode cX9_view 47 = .ok (.ifCond .eq 20, 3) := by decide +kernel
theorem dX9_view_50 : decode cX9_view 50 = .ok (.iload 5, 2) := by decide +kernel
theorem dX9_view_52 : decode cX9_view 52 = .ok (.iconst 0, 1) := by decide +kernel
theorem dX9_view_53 : decode cX9_view 53 = .ok (.aload_n 0, 1) := by decide +kernel
theorem dX9_view_54 : decode cX9_view 54 = .ok (.getfield 19, 3) := by decide +kernel
theorem dX9_view_57 : decode cX9_view 57 = .ok (.iload_n 2, 1) := by decide +kernel
theorem dX9_view_58 : decode cX9_view 58 = .ok (.iaload, 1) := by decide +kernel
theorem dX9_view_59 : decode cX9_view 59 = .ok (.iconst 1, 1) := by decide +kernel
theorem dX9_view_60 : decode cX9_view 60 = .ok (.isub, 1) := by decide +kernel
theorem dX9_view_61 : decode cX9_view 61 = .ok (.invokestatic 97, 3) := by decide +kernel
theorem dX9_view_64 : decode cX9_view 64 = .ok (.ifCond .ne 5, 3) := by decide +kernel
theorem dX9_view_67 : decode cX9_view 67 = .ok (.iconst (-1), 1) := by decide +kernel
theorem dX9_view_68 : decode cX9_view 68 = .ok (.ireturn, 1) := by decide +kernel
theorem dX9_view_69 : decode cX9_view 69 = .ok (.aload_n 0, 1) := by decide +kernel
theorem dX9_view_70 : decode cX9_view 70 = .ok (.dup, 1) := by decide +kernel
theorem dX9_view_71 : decode cX9_view 71 = .ok (.getfield 139, 3) := by decide +kernel
theorem dX9_view_74 : decode cX9_view 74 = .ok (.iload_n 1, 1) := by decide +kernel
theorem dX9_view_75 : decode cX9_view 75 = .ok (.ifCond .ne 7, 3) := by decide +kernel
theorem dX9_view_78 : decode cX9_view 78 = .ok (.lconst 1, 1) := by decide +kernel
theorem dX9_view_79 : decode cX9_view 79 = .ok (.goto 17, 3) := by decide +kernel
theorem dX9_view_82 : decode cX9_view 82 = .ok (.iload_n 1, 1) := by decide +kernel
theorem dX9_view_83 : decode cX9_view 83 = .ok (.iconst 1, 1) := by decide +kernel
theorem dX9_view_84 : decode cX9_view 84 = .ok (.if_icmp .ne 9, 3) := by decide +kernel
theorem dX9_view_87 : decode cX9_view 87 = .ok (.ldc2_w 143, 3) := by decide +kernel
theorem dX9_view_90 : decode cX9_view 90 = .ok (.goto 6, 3) := by decide +kernel
theorem dX9_view_93 : decode cX9_view 93 = .ok (.ldc2_w 145, 3) := by decide +kernel
theorem dX9_view_96 : decode cX9_view 96 = .ok (.ladd, 1) := by decide +kernel
theorem dX9_view_97 : decode cX9_view 97 = .ok (.putfield 139, 3) := by decide +kernel
theorem dX9_view_100 : decode cX9_view 100 = .ok (.iload_n 1, 1) := by decide +kernel
theorem dX9_view_101 : decode cX9_view 101 = .ok (.ifCond .ne 7, 3) := by decide +kernel
theorem dX9_view_104 : decode cX9_view 104 = .ok (.iconst 0, 1) := by decide +kernel
theorem dX9_view_105 : decode cX9_view 105 = .ok (.goto 19, 3) := by decide +kernel
theorem dX9_view_108 : decode cX9_view 108 = .ok (.aload_n 0, 1) := by decide +kernel
theorem dX9_view_109 : decode cX9_view 109 = .ok (.getfield 25, 3) := by decide +kernel
theorem dX9_view_112 : decode cX9_view 112 = .ok (.iload_n 2, 1) := by decide +kernel
theorem dX9_view_113 : decode cX9_view 113 = .ok (.iaload, 1) := by decide +kernel
theorem dX9_view_114 : decode cX9_view 114 = .ok (.iload 5, 2) := by decide +kernel
theorem dX9_view_116 : decode cX9_view 116 = .ok (.imul, 1) := by decide +kernel
theorem dX9_view_117 : decode cX9_view 117 = .ok (.aload_n 0, 1) := by decide +kernel
theorem dX9_view_118 : decode cX9_view 118 = .ok (.getfield 19, 3) := by decide +kernel
theorem dX9_view_121 : decode cX9_view 121 = .ok (.iload_n 2, 1) := by decide +kernel
theorem dX9_view_122 : decode cX9_view 122 = .ok (.iaload, 1) := by decide +kernel
theorem dX9_view_123 : decode cX9_view 123 = .ok (.idiv, 1) := by decide +kernel
theorem dX9_view_124 : decode cX9_view 124 = .ok (.istore 6, 2) := by decide +kernel
theorem dX9_view_126 : decode cX9_view 126 = .ok (.aload_n 0, 1) := by decide +kernel
theorem dX9_view_127 : decode cX9_view 127 = .ok (.iload_n 2, 1) := by decide +kernel
theorem dX9_view_128 : decode cX9_view 128 = .ok (.aload_n 0, 1) := by decide +kernel
theorem dX9_view_129 : decode cX9_view 129 = .ok (.getfield 16, 3) := by decide +kernel
theorem dX9_view_132 : decode cX9_view 132 = .ok (.iload_n 2, 1) := by decide +kernel
theorem dX9_view_133 : decode cX9_view 133 = .ok (.iaload, 1) := by decide +kernel
theorem dX9_view_134 : decode cX9_view 134 = .ok (.iload_n 1, 1) := by decide +kernel
theorem dX9_view_135 : decode cX9_view 135 = .ok (.iconst 2, 1) := by decide +kernel
theorem dX9_view_136 : decode cX9_view 136 = .ok (.if_icmp .ne 16, 3) := by decide +kernel
theorem dX9_view_139 : decode cX9_view 139 = .ok (.aload_n 0, 1) := by decide +kernel
theorem dX9_view_140 : decode cX9_view 140 = .ok (.getfield 16, 3) := by decide +kernel
theorem dX9_view_143 : decode cX9_view 143 = .ok (.iload_n 2, 1) := by decide +kernel
theorem dX9_view_144 : decode cX9_view 144 = .ok (.iaload, 1) := by decide +kernel
theorem dX9_view_145 : decode cX9_view 145 = .ok (.iconst 1, 1) := by decide +kernel
theorem dX9_view_146 : decode cX9_view 146 = .ok (.isub, 1) := by decide +kernel
theorem dX9_view_147 : decode cX9_view 147 = .ok (.iload_n 3, 1) := by decide +kernel
theorem dX9_view_148 : decode cX9_view 148 = .ok (.isub, 1) := by decide +kernel
theorem dX9_view_149 : decode cX9_view 149 = .ok (.goto 4, 3) := by decide +kernel
theorem dX9_view_152 : decode cX9_view 152 = .ok (.iload_n 3, 1) := by decide +kernel
theorem dX9_view_153 : decode cX9_view 153 = .ok (.iload 4, 2) := by decide +kernel
theorem dX9_view_155 : decode cX9_view 155 = .ok (.iload 6, 2) := by decide +kernel
theorem dX9_view_157 : decode cX9_view 157 = .ok (.iconst 0, 1) := by decide +kernel
theorem dX9_view_158 : decode cX9_view 158 = .ok (.invokevirtual 147, 3) := by decide +kernel
theorem dX9_view_161 : decode cX9_view 161 = .ok (.ireturn, 1) := by decide +kernel
theorem dX9_table_0 : decode cX9_table 0 = .ok (.iload_n 1, 1) := by decide +kernel
theorem dX9_table_1 : decode cX9_table 1 = .ok (.iconst 2, 1) := by decide +kernel
theorem dX9_table_2 : decode cX9_table 2 = .ok (.iconst 4, 1) := by decide +kernel
theorem dX9_table_3 : decode cX9_table 3 = .ok (.invokestatic 97, 3) := by decide +kernel
theorem dX9_table_6 : decode cX9_table 6 = .ok (.ifCond .ne 5, 3) := by decide +kernel
theorem dX9_table_9 : decode cX9_table 9 = .ok (.iconst (-1), 1) := by decide +kernel
theorem dX9_table_10 : decode cX9_table 10 = .ok (.ireturn, 1) := by decide +kernel
theorem dX9_table_11 : decode cX9_table 11 = .ok (.aload_n 0, 1) := by decide +kernel
theorem dX9_table_12 : decode cX9_table 12 = .ok (.iload_n 1, 1) := by decide +kernel
theorem dX9_table_13 : decode cX9_table 13 = .ok (.putfield 38, 3) := by decide +kernel
theorem dX9_table_16 : decode cX9_table 16 = .ok (.iconst 0, 1) := by decide +kernel
theorem dX9_table_17 : decode cX9_table 17 = .ok (.istore_n 2, 1) := by decide +kernel
theorem dX9_table_18 : decode cX9_table 18 = .ok (.iload_n 2, 1) := by decide +kernel
theorem dX9_table_19 : decode cX9_table 19 = .ok (.bipush 16, 2) := by decide +kernel
theorem dX9_table_21 : decode cX9_table 21 = .ok (.if_icmp .ge 17, 3) := by decide +kernel
theorem dX9_table_24 : decode cX9_table 24 = .ok (.aload_n 0, 1) := by decide +kernel
theorem dX9_table_25 : decode cX9_table 25 = .ok (.getfield 41, 3) := by decide +kernel
theorem dX9_table_28 : decode cX9_table 28 = .ok (.iload_n 2, 1) := by decide +kernel
theorem dX9_table_29 : decode cX9_table 29 = .ok (.bipush (-9), 2) := by decide +kernel
theorem dX9_table_31 : decode cX9_table 31 = .ok (.iastore, 1) := by decide +kernel
theorem dX9_table_32 : decode cX9_table 32 = .ok (.iinc 2 1, 3) := by decide +kernel
theorem dX9_table_35 : decode cX9_table 35 = .ok (.goto (-17), 3) := by decide +kernel
theorem dX9_table_38 : decode cX9_table 38 = .ok (.iload_n 1, 1) := by decide +kernel
theorem dX9_table_39 : decode cX9_table 39 = .ok (.iload_n 1, 1) := by decide +kernel
theorem dX9_table_40 : decode cX9_table 40 = .ok (.imul, 1) := by decide +kernel
theorem dX9_table_41 : decode cX9_table 41 = .ok (.ireturn, 1) := by decide +kernel
theorem dX9_lay_0 : decode cX9_lay 0 = .ok (.iload_n 1, 1) := by decide +kernel
theorem dX9_lay_1 : decode cX9_lay 1 = .ok (.iconst 0, 1) := by decide +kernel
theorem dX9_lay_2 : decode cX9_lay 2 = .ok (.aload_n 0, 1) := by decide +kernel
theorem dX9_lay_3 : decode cX9_lay 3 = .ok (.getfield 38, 3) := by decide +kernel
theorem dX9_lay_6 : decode cX9_lay 6 = .ok (.iconst 1, 1) := by decide +kernel
theorem dX9_lay_7 : decode cX9_lay 7 = .ok (.isub, 1) := by decide +kernel
theorem dX9_lay_8 : decode cX9_lay 8 = .ok (.invokestatic 97, 3) := by decide +kernel
theorem dX9_lay_11 : decode cX9_lay 11 = .ok (.ifCond .eq 41, 3) := by decide +kernel
theorem dX9_lay_14 : decode cX9_lay 14 = .ok (.iload_n 2, 1) := by decide +kernel
theorem dX9_lay_15 : decode cX9_lay 15 = .ok (.iconst 0, 1) := by decide +kernel
theorem dX9_lay_16 : decode cX9_lay 16 = .ok (.aload_n 0, 1) := by decide +kernel
theorem dX9_lay_17 : decode cX9_lay 17 = .ok (.getfield 38, 3) := by decide +kernel
theorem dX9_lay_20 : decode cX9_lay 20 = .ok (.iconst 1, 1) := by decide +kernel
theorem dX9_lay_21 : decode cX9_lay 21 = .ok (.isub, 1) := by decide +kernel
theorem dX9_lay_22 : decode cX9_lay 22 = .ok (.invokestatic 97, 3) := by decide +kernel
theorem dX9_lay_25 : decode cX9_lay 25 = .ok (.ifCond .eq 27, 3) := by decide +kernel
theorem dX9_lay_28 : decode cX9_lay 28 = .ok (.iload_n 3, 1) := by decide +kernel
theorem dX9_lay_29 : decode cX9_lay 29 = .ok (.bipush (-9), 2) := by decide +kernel
theorem dX9_lay_31 : decode cX9_lay 31 = .ok (.if_icmp .eq 11, 3) := by decide +kernel
theorem dX9_lay_34 : decode cX9_lay 34 = .ok (.aload_n 0, 1) := by decide +kernel
theorem dX9_lay_35 : decode cX9_lay 35 = .ok (.iload_n 3, 1) := by decide +kernel
theorem dX9_lay_36 : decode cX9_lay 36 = .ok (.invokevirtual 104, 3) := by decide +kernel
theorem dX9_lay_39 : decode cX9_lay 39 = .ok (.ifCond .eq 13, 3) := by decide +kernel
theorem dX9_lay_42 : decode cX9_lay 42 = .ok (.iload 4, 2) := by decide +kernel
theorem dX9_lay_44 : decode cX9_lay 44 = .ok (.iconst 0, 1) := by decide +kernel
theorem dX9_lay_45 : decode cX9_lay 45 = .ok (.iconst 3, 1) := by decide +kernel
theorem dX9_lay_46 : decode cX9_lay 46 = .ok (.invokestatic 97, 3) := by decide +kernel
theorem dX9_lay_49 : decode cX9_lay 49 = .ok (.ifCond .ne 6, 3) := by decide +kernel
theorem dX9_lay_52 : decode cX9_lay 52 = .ok (.bipush (-2), 2) := by decide +kernel
theorem dX9_lay_54 : decode cX9_lay 54 = .ok (.ireturn, 1) := by decide +kernel
theorem dX9_lay_55 : decode cX9_lay 55 = .ok (.aload_n 0, 1) := by decide +kernel
theorem dX9_lay_56 : decode cX9_lay 56 = .ok (.getfield 41, 3) := by decide +kernel
theorem dX9_lay_59 : decode cX9_lay 59 = .ok (.iconst 4, 1) := by decide +kernel
theorem dX9_lay_60 : decode cX9_lay 60 = .ok (.iload_n 2, 1) := by decide +kernel
theorem dX9_lay_61 : decode cX9_lay 61 = .ok (.imul, 1) := by decide +kernel
theorem dX9_lay_62 : decode cX9_lay 62 = .ok (.iload_n 1, 1) := by decide +kernel
theorem dX9_lay_63 : decode cX9_lay 63 = .ok (.iadd, 1) := by decide +kernel
theorem dX9_lay_64 : decode cX9_lay 64 = .ok (.iaload, 1) := by decide +kernel
theorem dX9_lay_65 : decode cX9_lay 65 = .ok (.istore 5, 2) := by decide +kernel
theorem dX9_lay_67 : decode cX9_lay 67 = .ok (.aload_n 0, 1) := by decide +kernel
theorem dX9_lay_68 : decode cX9_lay 68 = .ok (.getfield 41, 3) := by decide +kernel
theorem dX9_lay_71 : decode cX9_lay 71 = .ok (.iconst 4, 1) := by decide +kernel
theorem dX9_lay_72 : decode cX9_lay 72 = .ok (.iload_n 2, 1) := by decide +kernel
theorem dX9_lay_73 : decode cX9_lay 73 = .ok (.imul, 1) := by decide +kernel
theorem dX9_lay_74 : decode cX9_lay 74 = .ok (.iload_n 1, 1) := by decide +kernel
theorem dX9_lay_75 : decode cX9_lay 75 = .ok (.iadd, 1) := by decide +kernel
theorem dX9_lay_76 : decode cX9_lay 76 = .ok (.iload_n 3, 1) := by decide +kernel
theorem dX9_lay_77 : decode cX9_lay 77 = .ok (.iastore, 1) := by decide +kernel
theorem dX9_lay_78 : decode cX9_lay 78 = .ok (.aload_n 0, 1) := by decide +kernel
theorem dX9_lay_79 : decode cX9_lay 79 = .ok (.getfield 44, 3) := by decide +kernel
theorem dX9_lay_82 : decode cX9_lay 82 = .ok (.iconst 4, 1) := by decide +kernel
theorem dX9_lay_83 : decode cX9_lay 83 = .ok (.iload_n 2, 1) := by decide +kernel
theorem dX9_lay_84 : decode cX9_lay 84 = .ok (.imul, 1) := by decide +kernel
theorem dX9_lay_85 : decode cX9_lay 85 = .ok (.iload_n 1, 1) := by decide +kernel
theorem dX9_lay_86 : decode cX9_lay 86 = .ok (.iadd, 1) := by decide +kernel
theorem dX9_lay_87 : decode cX9_lay 87 = .ok (.iload 4, 2) := by decide +kernel
theorem dX9_lay_89 : decode cX9_lay 89 = .ok (.iastore, 1) := by decide +kernel
theorem dX9_lay_90 : decode cX9_lay 90 = .ok (.iload 5, 2) := by decide +kernel
theorem dX9_lay_92 : decode cX9_lay 92 = .ok (.ireturn, 1) := by decide +kernel
theorem dX9_placesOf_0 : decode cX9_placesOf 0 = .ok (.iconst 0, 1) := by decide +kernel
theorem dX9_placesOf_1 : decode cX9_placesOf 1 = .ok (.istore_n 2, 1) := by decide +kernel
theorem dX9_placesOf_2 : decode cX9_placesOf 2 = .ok (.iconst 0, 1) := by decide +kernel
theorem dX9_placesOf_3 : decode cX9_placesOf 3 = .ok (.istore_n 3, 1) := by decide +kernel
theorem dX9_placesOf_4 : decode cX9_placesOf 4 = .ok (.iload_n 3, 1) := by decide +kernel
theorem dX9_placesOf_5 : decode cX9_placesOf 5 = .ok (.aload_n 0, 1) := by decide +kernel
theorem dX9_placesOf_6 : decode cX9_placesOf 6 = .ok (.getfield 38, 3) := by decide +kernel
theorem dX9_placesOf_9 : decode cX9_placesOf 9 = .ok (.if_icmp .ge 50, 3) := by decide +kernel
theorem dX9_placesOf_12 : decode cX9_placesOf 12 = .ok (.iconst 0, 1) := by decide +kernel
theorem dX9_placesOf_13 : decode cX9_placesOf 13 = .ok (.istore 4, 2) := by decide +kernel
theorem dX9_placesOf_15 : decode cX9_placesOf 15 = .ok (.iload 4, 2) := by decide +kernel
theorem dX9_placesOf_17 : decode cX9_placesOf 17 = .ok (.aload_n 0, 1) := by decide +kernel
theorem dX9_placesOf_18 : decode cX9_placesOf 18 = .ok (.getfield 38, 3) := by decide +kernel
theorem dX9_placesOf_21 : decode cX9_placesOf 21 = .ok (.if_icmp .ge 32, 3) := by decide +kernel
theorem dX9_placesOf_24 : decode cX9_placesOf 24 = .ok (.iload_n 2, 1) := by decide +kernel
theorem dX9_placesOf_25 : decode cX9_placesOf 25 = .ok (.aload_n 0, 1) := by decide +kernel
theorem dX9_placesOf_26 : decode cX9_placesOf 26 = .ok (.getfield 41, 3) := by decide +kernel
theorem dX9_placesOf_29 : decode cX9_placesOf 29 = .ok (.iconst 4, 1) := by decide +kernel
theorem dX9_placesOf_30 : decode cX9_placesOf 30 = .ok (.iload_n 3, 1) := by decide +kernel
theorem dX9_placesOf_31 : decode cX9_placesOf 31 = .ok (.imul, 1) := by decide +kernel
theorem dX9_placesOf_32 : decode cX9_placesOf 32 = .ok (.iload 4, 2) := by decide +kernel
theorem dX9_placesOf_34 : decode cX9_placesOf 34 = .ok (.iadd, 1) := by decide +kernel
theorem dX9_placesOf_35 : decode cX9_placesOf 35 = .ok (.iaload, 1) := by decide +kernel
theorem dX9_placesOf_36 : decode cX9_placesOf 36 = .ok (.iload_n 1, 1) := by decide +kernel
theorem dX9_placesOf_37 : decode cX9_placesOf 37 = .ok (.if_icmp .ne 7, 3) := by decide +kernel
theorem dX9_placesOf_40 : decode cX9_placesOf 40 = .ok (.iconst 1, 1) := by decide +kernel
theorem dX9_placesOf_41 : decode cX9_placesOf 41 = .ok (.goto 4, 3) := by decide +kernel
theorem dX9_placesOf_44 : decode cX9_placesOf 44 = .ok (.iconst 0, 1) := by decide +kernel
theorem dX9_placesOf_45 : decode cX9_placesOf 45 = .ok (.iadd, 1) := by decide +kernel
theorem dX9_placesOf_46 : decode cX9_placesOf 46 = .ok (.istore_n 2, 1) := by decide +kernel
theorem dX9_placesOf_47 : decode cX9_placesOf 47 = .ok (.iinc 4 1, 3) := by decide +kernel
theorem dX9_placesOf_50 : decode cX9_placesOf 50 = .ok (.goto (-35), 3) := by decide +kernel
theorem dX9_placesOf_53 : decode cX9_placesOf 53 = .ok (.iinc 3 1, 3) := by decide +kernel
theorem dX9_placesOf_56 : decode cX9_placesOf 56 = .ok (.goto (-52), 3) := by decide +kernel
theorem dX9_placesOf_59 : decode cX9_placesOf 59 = .ok (.iload_n 2, 1) := by decide +kernel
theorem dX9_placesOf_60 : decode cX9_placesOf 60 = .ok (.ireturn, 1) := by decide +kernel
theorem dX9_canBundle_0 : decode cX9_canBundle 0 = .ok (.aload_n 0, 1) := by decide +kernel
theorem dX9_canBundle_1 : decode cX9_canBundle 1 = .ok (.bipush (-9), 2) := by decide +kernel
theorem dX9_canBundle_3 : decode cX9_canBundle 3 = .ok (.invokevirtual 151, 3) := by decide +kernel
theorem dX9_canBundle_6 : decode cX9_canBundle 6 = .ok (.ifCond .le 5, 3) := by decide +kernel
theorem dX9_canBundle_9 : decode cX9_canBundle 9 = .ok (.iconst 0, 1) := by decide +kernel
theorem dX9_canBundle_10 : decode cX9_canBundle 10 = .ok (.ireturn, 1) := by decide +kernel
theorem dX9_canBundle_11 : decode cX9_canBundle 11 = .ok (.aload_n 0, 1) := by decide +kernel
theorem dX9_canBundle_12 : decode cX9_canBundle 12 = .ok (.getfield 41, 3) := by decide +kernel
theorem dX9_canBundle_15 : decode cX9_canBundle 15 = .ok (.iconst 0, 1) := by decide +kernel
theorem dX9_canBundle_16 : decode cX9_canBundle 16 = .ok (.iaload, 1) := by decide +kernel
theorem dX9_canBundle_17 : decode cX9_canBundle 17 = .ok (.istore_n 2, 1) := by decide +kernel
theorem dX9_canBundle_18 : decode cX9_canBundle 18 = .ok (.aload_n 0, 1) := by decide +kernel
theorem dX9_canBundle_19 : decode cX9_canBundle 19 = .ok (.getfield 38, 3) := by decide +kernel
theorem dX9_canBundle_22 : decode cX9_canBundle 22 = .ok (.aload_n 0, 1) := by decide +kernel
theorem dX9_canBundle_23 : decode cX9_canBundle 23 = .ok (.getfield 16, 3) := by decide +kernel
theorem dX9_canBundle_26 : decode cX9_canBundle 26 = .ok (.iload_n 2, 1) := by decide +kernel
theorem dX9_canBundle_27 : decode cX9_canBundle 27 = .ok (.iaload, 1) := by decide +kernel
theorem dX9_canBundle_28 : decode cX9_canBundle 28 = .ok (.imul, 1) := by decide +kernel
theorem dX9_canBundle_29 : decode cX9_canBundle 29 = .ok (.bipush 8, 2) := by decide +kernel
theorem dX9_canBundle_31 : decode cX9_canBundle 31 = .ok (.if_icmp .gt 7, 3) := by decide +kernel
theorem dX9_canBundle_34 : decode cX9_canBundle 34 = .ok (.iconst 1, 1) := by decide +kernel
theorem dX9_canBundle_35 : decode cX9_canBundle 35 = .ok (.goto 4, 3) := by decide +kernel
theorem dX9_canBundle_38 : decode cX9_canBundle 38 = .ok (.iconst 0, 1) := by decide +kernel
theorem dX9_canBundle_39 : decode cX9_canBundle 39 = .ok (.istore_n 3, 1) := by decide +kernel
theorem dX9_canBundle_40 : decode cX9_canBundle 40 = .ok (.iconst 0, 1) := by decide +kernel
theorem dX9_canBundle_41 : decode cX9_canBundle 41 = .ok (.istore 4, 2) := by decide +kernel
theorem dX9_canBundle_43 : decode cX9_canBundle 43 = .ok (.iload 4, 2) := by decide +kernel
theorem dX9_canBundle_45 : decode cX9_canBundle 45 = .ok (.aload_n 0, 1) := by decide +kernel
theorem dX9_canBundle_46 : decode cX9_canBundle 46 = .ok (.getfield 101, 3) := by decide +kernel
theorem dX9_canBundle_49 : decode cX9_canBundle 49 = .ok (.if_icmp .ge 88, 3) := by decide +kernel
theorem dX9_canBundle_52 : decode cX9_canBundle 52 = .ok (.aload_n 0, 1) := by decide +kernel
theorem dX9_canBundle_53 : decode cX9_canBundle 53 = .ok (.iload 4, 2) := by decide +kernel
theorem dX9_canBundle_55 : decode cX9_canBundle 55 = .ok (.invokevirtual 151, 3) := by decide +kernel
theorem dX9_canBundle_58 : decode cX9_canBundle 58 = .ok (.istore 5, 2) := by decide +kernel
theorem dX9_canBundle_60 : decode cX9_canBundle 60 = .ok (.iload_n 3, 1) := by decide +kernel
theorem dX9_canBundle_61 : decode cX9_canBundle 61 = .ok (.ifCond .eq 68, 3) := by decide +kernel
theorem dX9_canBundle_64 : decode cX9_canBundle 64 = .ok (.iload 5, 2) := by decide +kernel
theorem dX9_canBundle_66 : decode cX9_canBundle 66 = .ok (.ifCond .eq 59, 3) := by decide +kernel
theorem dX9_canBundle_69 : decode cX9_canBundle 69 = .ok (.aload_n 0, 1) := by decide +kernel
theorem dX9_canBundle_70 : decode cX9_canBundle 70 = .ok (.getfield 16, 3) := by decide +kernel
theorem dX9_canBundle_73 : decode cX9_canBundle 73 = .ok (.iload 4, 2) := by decide +kernel
theorem dX9_canBundle_75 : decode cX9_canBundle 75 = .ok (.iaload, 1) := by decide +kernel
theorem dX9_canBundle_76 : decode cX9_canBundle 76 = .ok (.aload_n 0, 1) := by decide +kernel
theorem dX9_canBundle_77 : decode cX9_canBundle 77 = .ok (.getfield 16, 3) := by decide +kernel
theorem dX9_canBundle_80 : decode cX9_canBundle 80 = .ok (.iload_n 2, 1) := by decide +kernel
theorem dX9_canBundle_81 : decode cX9_canBundle 81 = .ok (.iaload, 1) := by decide +kernel
theorem dX9_canBundle_82 : decode cX9_canBundle 82 = .ok (.if_icmp .ne 47, 3) := by decide +kernel
theorem dX9_canBundle_85 : decode cX9_canBundle 85 = .ok (.aload_n 0, 1) := by decide +kernel
theorem dX9_canBundle_86 : decode cX9_canBundle 86 = .ok (.getfield 22, 3) := by decide +kernel
theorem dX9_canBundle_89 : decode cX9_canBundle 89 = .ok (.iload 4, 2) := by decide +kernel
theorem dX9_canBundle_91 : decode cX9_canBundle 91 = .ok (.iaload, 1) := by decide +kernel
theorem dX9_canBundle_92 : decode cX9_canBundle 92 = .ok (.aload_n 0, 1) := by decide +kernel
theorem dX9_canBundle_93 : decode cX9_canBundle 93 = .ok (.getfield 22, 3) := by decide +kernel
theorem dX9_canBundle_96 : decode cX9_canBundle 96 = .ok (.iload_n 2, 1) := by decide +kernel
theorem dX9_canBundle_97 : decode cX9_canBundle 97 = .ok (.iaload, 1) := by decide +kernel
theorem dX9_canBundle_98 : decode cX9_canBundle 98 = .ok (.if_icmp .ne 31, 3) := by decide +kernel
theorem dX9_canBundle_101 : decode cX9_canBundle 101 = .ok (.aload_n 0, 1) := by decide +kernel
theorem dX9_canBundle_102 : decode cX9_canBundle 102 = .ok (.getfield 25, 3) := by decide +kernel
theorem dX9_canBundle_105 : decode cX9_canBundle 105 = .ok (.iload 4, 2) := by decide +kernel
theorem dX9_canBundle_107 : decode cX9_canBundle 107 = .ok (.iaload, 1) := by decide +kernel
theorem dX9_canBundle_108 : decode cX9_canBundle 108 = .ok (.ifCond .ne 21, 3) := by decide +kernel
theorem dX9_canBundle_111 : decode cX9_canBundle 111 = .ok (.aload_n 0, 1) := by decide +kernel
theorem dX9_canBundle_112 : decode cX9_canBundle 112 = .ok (.getfield 19, 3) := by decide +kernel
theorem dX9_canBundle_115 : decode cX9_canBundle 115 = .ok (.iload 4, 2) := by decide +kernel
theorem dX9_canBundle_117 : decode cX9_canBundle 117 = .ok (.iaload, 1) := by decide +kernel
theorem dX9_canBundle_118 : decode cX9_canBundle 118 = .ok (.iload 5, 2) := by decide +kernel
theorem dX9_canBundle_120 : decode cX9_canBundle 120 = .ok (.iload_n 1, 1) := by decide +kernel
theorem dX9_canBundle_121 : decode cX9_canBundle 121 = .ok (.imul, 1) := by decide +kernel
theorem dX9_canBundle_122 : decode cX9_canBundle 122 = .ok (.if_icmp .lt 7, 3) := by decide +kernel
theorem dX9_canBundle_125 : decode cX9_canBundle 125 = .ok (.iconst 1, 1) := by decide +kernel
theorem dX9_canBundle_126 : decode cX9_canBundle 126 = .ok (.goto 4, 3) := by decide +kernel
theorem dX9_canBundle_129 : decode cX9_canBundle 129 = .ok (.iconst 0, 1) := by decide +kernel
theorem dX9_canBundle_130 : decode cX9_canBundle 130 = .ok (.istore_n 3, 1) := by decide +kernel
theorem dX9_canBundle_131 : decode cX9_canBundle 131 = .ok (.iinc 4 1, 3) := by decide +kernel
theorem dX9_canBundle_134 : decode cX9_canBundle 134 = .ok (.goto (-91), 3) := by decide +kernel
theorem dX9_canBundle_137 : decode cX9_canBundle 137 = .ok (.iload_n 3, 1) := by decide +kernel
theorem dX9_canBundle_138 : decode cX9_canBundle 138 = .ok (.ireturn, 1) := by decide +kernel
theorem dX9_bundle_0 : decode cX9_bundle 0 = .ok (.iload_n 1, 1) := by decide +kernel
theorem dX9_bundle_1 : decode cX9_bundle 1 = .ok (.iconst 1, 1) := by decide +kernel
theorem dX9_bundle_2 : decode cX9_bundle 2 = .ok (.sipush 9999, 3) := by decide +kernel
theorem dX9_bundle_5 : decode cX9_bundle 5 = .ok (.invokestatic 97, 3) := by decide +kernel
