theorem dX9_bundle_8 : decode cX9_bundle 8 = .ok (.ifCond .ne 5, 3) := by decide +kernel
theorem dX9_bundle_11 : decode cX9_bundle 11 = .ok (.iconst (-1), 1) := by decide +kernel
theorem dX9_bundle_12 : decode cX9_bundle 12 = .ok (.ireturn, 1) := by decide +kernel
theorem dX9_bundle_13 : decode cX9_bundle 13 = .ok (.aload_n 0, 1) := by decide +kernel
theorem dX9_bundle_14 : decode cX9_bundle 14 = .ok (.iload_n 1, 1) := by decide +kernel
theorem dX9_bundle_15 : decode cX9_bundle 15 = .ok (.invokevirtual 154, 3) := by decide +kernel
theorem dX9_bundle_18 : decode cX9_bundle 18 = .ok (.ifCond .ne 6, 3) := by decide +kernel
theorem dX9_bundle_21 : decode cX9_bundle 21 = .ok (.bipush (-2), 2) := by decide +kernel
theorem dX9_bundle_23 : decode cX9_bundle 23 = .ok (.ireturn, 1) := by decide +kernel
theorem dX9_bundle_24 : decode cX9_bundle 24 = .ok (.aload_n 0, 1) := by decide +kernel
theorem dX9_bundle_25 : decode cX9_bundle 25 = .ok (.getfield 101, 3) := by decide +kernel
theorem dX9_bundle_28 : decode cX9_bundle 28 = .ok (.bipush 16, 2) := by decide +kernel
theorem dX9_bundle_30 : decode cX9_bundle 30 = .ok (.if_icmp .ne 6, 3) := by decide +kernel
theorem dX9_bundle_33 : decode cX9_bundle 33 = .ok (.bipush (-3), 2) := by decide +kernel
theorem dX9_bundle_35 : decode cX9_bundle 35 = .ok (.ireturn, 1) := by decide +kernel
theorem dX9_bundle_36 : decode cX9_bundle 36 = .ok (.aload_n 0, 1) := by decide +kernel
theorem dX9_bundle_37 : decode cX9_bundle 37 = .ok (.getfield 41, 3) := by decide +kernel
theorem dX9_bundle_40 : decode cX9_bundle 40 = .ok (.iconst 0, 1) := by decide +kernel
theorem dX9_bundle_41 : decode cX9_bundle 41 = .ok (.iaload, 1) := by decide +kernel
theorem dX9_bundle_42 : decode cX9_bundle 42 = .ok (.istore_n 2, 1) := by decide +kernel
theorem dX9_bundle_43 : decode cX9_bundle 43 = .ok (.aload_n 0, 1) := by decide +kernel
theorem dX9_bundle_44 : decode cX9_bundle 44 = .ok (.getfield 16, 3) := by decide +kernel
theorem dX9_bundle_47 : decode cX9_bundle 47 = .ok (.iload_n 2, 1) := by decide +kernel
theorem dX9_bundle_48 : decode cX9_bundle 48 = .ok (.iaload, 1) := by decide +kernel
theorem dX9_bundle_49 : decode cX9_bundle 49 = .ok (.istore_n 3, 1) := by decide +kernel
theorem dX9_bundle_50 : decode cX9_bundle 50 = .ok (.iconst 0, 1) := by decide +kernel
theorem dX9_bundle_51 : decode cX9_bundle 51 = .ok (.istore 4, 2) := by decide +kernel
theorem dX9_bundle_53 : decode cX9_bundle 53 = .ok (.iload 4, 2) := by decide +kernel
theorem dX9_bundle_55 : decode cX9_bundle 55 = .ok (.aload_n 0, 1) := by decide +kernel
theorem dX9_bundle_56 : decode cX9_bundle 56 = .ok (.getfield 38, 3) := by decide +kernel
theorem dX9_bundle_59 : decode cX9_bundle 59 = .ok (.iload_n 3, 1) := by decide +kernel
theorem dX9_bundle_60 : decode cX9_bundle 60 = .ok (.imul, 1) := by decide +kernel
theorem dX9_bundle_61 : decode cX9_bundle 61 = .ok (.if_icmp .ge 82, 3) := by decide +kernel
theorem dX9_bundle_64 : decode cX9_bundle 64 = .ok (.iconst 0, 1) := by decide +kernel
theorem dX9_bundle_65 : decode cX9_bundle 65 = .ok (.istore 5, 2) := by decide +kernel
theorem dX9_bundle_67 : decode cX9_bundle 67 = .ok (.iload 5, 2) := by decide +kernel
theorem dX9_bundle_69 : decode cX9_bundle 69 = .ok (.aload_n 0, 1) := by decide +kernel
theorem dX9_bundle_70 : decode cX9_bundle 70 = .ok (.getfield 38, 3) := by decide +kernel
theorem dX9_bundle_73 : decode cX9_bundle 73 = .ok (.iload_n 3, 1) := by decide +kernel
theorem dX9_bundle_74 : decode cX9_bundle 74 = .ok (.imul, 1) := by decide +kernel
theorem dX9_bundle_75 : decode cX9_bundle 75 = .ok (.if_icmp .ge 62, 3) := by decide +kernel
theorem dX9_bundle_78 : decode cX9_bundle 78 = .ok (.iconst 4, 1) := by decide +kernel
theorem dX9_bundle_79 : decode cX9_bundle 79 = .ok (.iload 4, 2) := by decide +kernel
theorem dX9_bundle_81 : decode cX9_bundle 81 = .ok (.iload_n 3, 1) := by decide +kernel
theorem dX9_bundle_82 : decode cX9_bundle 82 = .ok (.idiv, 1) := by decide +kernel
theorem dX9_bundle_83 : decode cX9_bundle 83 = .ok (.imul, 1) := by decide +kernel
theorem dX9_bundle_84 : decode cX9_bundle 84 = .ok (.iload 5, 2) := by decide +kernel
theorem dX9_bundle_86 : decode cX9_bundle 86 = .ok (.iload_n 3, 1) := by decide +kernel
theorem dX9_bundle_87 : decode cX9_bundle 87 = .ok (.idiv, 1) := by decide +kernel
theorem dX9_bundle_88 : decode cX9_bundle 88 = .ok (.iadd, 1) := by decide +kernel
theorem dX9_bundle_89 : decode cX9_bundle 89 = .ok (.istore 6, 2) := by decide +kernel
theorem dX9_bundle_91 : decode cX9_bundle 91 = .ok (.aload_n 0, 1) := by decide +kernel
theorem dX9_bundle_92 : decode cX9_bundle 92 = .ok (.aload_n 0, 1) := by decide +kernel
theorem dX9_bundle_93 : decode cX9_bundle 93 = .ok (.getfield 101, 3) := by decide +kernel
theorem dX9_bundle_96 : decode cX9_bundle 96 = .ok (.iload 5, 2) := by decide +kernel
theorem dX9_bundle_98 : decode cX9_bundle 98 = .ok (.iload 4, 2) := by decide +kernel
theorem dX9_bundle_100 : decode cX9_bundle 100 = .ok (.aload_n 0, 1) := by decide +kernel
theorem dX9_bundle_101 : decode cX9_bundle 101 = .ok (.aload_n 0, 1) := by decide +kernel
theorem dX9_bundle_102 : decode cX9_bundle 102 = .ok (.getfield 41, 3) := by decide +kernel
theorem dX9_bundle_105 : decode cX9_bundle 105 = .ok (.iload 6, 2) := by decide +kernel
theorem dX9_bundle_107 : decode cX9_bundle 107 = .ok (.iaload, 1) := by decide +kernel
theorem dX9_bundle_108 : decode cX9_bundle 108 = .ok (.iload_n 3, 1) := by decide +kernel
theorem dX9_bundle_109 : decode cX9_bundle 109 = .ok (.iload 5, 2) := by decide +kernel
theorem dX9_bundle_111 : decode cX9_bundle 111 = .ok (.iload_n 3, 1) := by decide +kernel
theorem dX9_bundle_112 : decode cX9_bundle 112 = .ok (.irem, 1) := by decide +kernel
theorem dX9_bundle_113 : decode cX9_bundle 113 = .ok (.iload 4, 2) := by decide +kernel
theorem dX9_bundle_115 : decode cX9_bundle 115 = .ok (.iload_n 3, 1) := by decide +kernel
theorem dX9_bundle_116 : decode cX9_bundle 116 = .ok (.irem, 1) := by decide +kernel
theorem dX9_bundle_117 : decode cX9_bundle 117 = .ok (.aload_n 0, 1) := by decide +kernel
theorem dX9_bundle_118 : decode cX9_bundle 118 = .ok (.getfield 44, 3) := by decide +kernel
theorem dX9_bundle_121 : decode cX9_bundle 121 = .ok (.iload 6, 2) := by decide +kernel
theorem dX9_bundle_123 : decode cX9_bundle 123 = .ok (.iaload, 1) := by decide +kernel
theorem dX9_bundle_124 : decode cX9_bundle 124 = .ok (.iconst 0, 1) := by decide +kernel
theorem dX9_bundle_125 : decode cX9_bundle 125 = .ok (.invokevirtual 147, 3) := by decide +kernel
theorem dX9_bundle_128 : decode cX9_bundle 128 = .ok (.invokevirtual 111, 3) := by decide +kernel
theorem dX9_bundle_131 : decode cX9_bundle 131 = .ok (.iinc 5 1, 3) := by decide +kernel
theorem dX9_bundle_134 : decode cX9_bundle 134 = .ok (.goto (-67), 3) := by decide +kernel
theorem dX9_bundle_137 : decode cX9_bundle 137 = .ok (.iinc 4 1, 3) := by decide +kernel
theorem dX9_bundle_140 : decode cX9_bundle 140 = .ok (.goto (-87), 3) := by decide +kernel
theorem dX9_bundle_143 : decode cX9_bundle 143 = .ok (.iconst 0, 1) := by decide +kernel
theorem dX9_bundle_144 : decode cX9_bundle 144 = .ok (.istore 4, 2) := by decide +kernel
theorem dX9_bundle_146 : decode cX9_bundle 146 = .ok (.iload 4, 2) := by decide +kernel
theorem dX9_bundle_148 : decode cX9_bundle 148 = .ok (.aload_n 0, 1) := by decide +kernel
theorem dX9_bundle_149 : decode cX9_bundle 149 = .ok (.getfield 101, 3) := by decide +kernel
theorem dX9_bundle_152 : decode cX9_bundle 152 = .ok (.if_icmp .ge 27, 3) := by decide +kernel
theorem dX9_bundle_155 : decode cX9_bundle 155 = .ok (.aload_n 0, 1) := by decide +kernel
theorem dX9_bundle_156 : decode cX9_bundle 156 = .ok (.getfield 19, 3) := by decide +kernel
theorem dX9_bundle_159 : decode cX9_bundle 159 = .ok (.iload 4, 2) := by decide +kernel
theorem dX9_bundle_161 : decode cX9_bundle 161 = .ok (.dup2, 1) := by decide +kernel
theorem dX9_bundle_162 : decode cX9_bundle 162 = .ok (.iaload, 1) := by decide +kernel
theorem dX9_bundle_163 : decode cX9_bundle 163 = .ok (.aload_n 0, 1) := by decide +kernel
theorem dX9_bundle_164 : decode cX9_bundle 164 = .ok (.iload 4, 2) := by decide +kernel
theorem dX9_bundle_166 : decode cX9_bundle 166 = .ok (.invokevirtual 151, 3) := by decide +kernel
theorem dX9_bundle_169 : decode cX9_bundle 169 = .ok (.iload_n 1, 1) := by decide +kernel
theorem dX9_bundle_170 : decode cX9_bundle 170 = .ok (.imul, 1) := by decide +kernel
theorem dX9_bundle_171 : decode cX9_bundle 171 = .ok (.isub, 1) := by decide +kernel
theorem dX9_bundle_172 : decode cX9_bundle 172 = .ok (.iastore, 1) := by decide +kernel
theorem dX9_bundle_173 : decode cX9_bundle 173 = .ok (.iinc 4 1, 3) := by decide +kernel
theorem dX9_bundle_176 : decode cX9_bundle 176 = .ok (.goto (-30), 3) := by decide +kernel
theorem dX9_bundle_179 : decode cX9_bundle 179 = .ok (.aload_n 0, 1) := by decide +kernel
theorem dX9_bundle_180 : decode cX9_bundle 180 = .ok (.aload_n 0, 1) := by decide +kernel
theorem dX9_bundle_181 : decode cX9_bundle 181 = .ok (.getfield 38, 3) := by decide +kernel
theorem dX9_bundle_184 : decode cX9_bundle 184 = .ok (.iload_n 3, 1) := by decide +kernel
theorem dX9_bundle_185 : decode cX9_bundle 185 = .ok (.imul, 1) := by decide +kernel
theorem dX9_bundle_186 : decode cX9_bundle 186 = .ok (.iload_n 1, 1) := by decide +kernel
theorem dX9_bundle_187 : decode cX9_bundle 187 = .ok (.aload_n 0, 1) := by decide +kernel
theorem dX9_bundle_188 : decode cX9_bundle 188 = .ok (.getfield 22, 3) := by decide +kernel
theorem dX9_bundle_191 : decode cX9_bundle 191 = .ok (.iload_n 2, 1) := by decide +kernel
theorem dX9_bundle_192 : decode cX9_bundle 192 = .ok (.iaload, 1) := by decide +kernel
theorem dX9_bundle_193 : decode cX9_bundle 193 = .ok (.iconst 0, 1) := by decide +kernel
theorem dX9_bundle_194 : decode cX9_bundle 194 = .ok (.invokevirtual 117, 3) := by decide +kernel
theorem dX9_bundle_197 : decode cX9_bundle 197 = .ok (.ireturn, 1) := by decide +kernel
theorem dX9_book_0 : decode cX9_book 0 = .ok (.iload_n 1, 1) := by decide +kernel
theorem dX9_book_1 : decode cX9_book 1 = .ok (.invokestatic 108, 3) := by decide +kernel
theorem dX9_book_4 : decode cX9_book 4 = .ok (.ifCond .eq 12, 3) := by decide +kernel
theorem dX9_book_7 : decode cX9_book 7 = .ok (.iload_n 2, 1) := by decide +kernel
theorem dX9_book_8 : decode cX9_book 8 = .ok (.iconst 0, 1) := by decide +kernel
theorem dX9_book_9 : decode cX9_book 9 = .ok (.iconst 2, 1) := by decide +kernel
theorem dX9_book_10 : decode cX9_book 10 = .ok (.invokestatic 97, 3) := by decide +kernel
theorem dX9_book_13 : decode cX9_book 13 = .ok (.ifCond .ne 7, 3) := by decide +kernel
theorem dX9_book_16 : decode cX9_book 16 = .ok (.ldc2_w 157, 3) := by decide +kernel
theorem dX9_book_19 : decode cX9_book 19 = .ok (.lreturn, 1) := by decide +kernel
theorem dX9_book_20 : decode cX9_book 20 = .ok (.iload_n 2, 1) := by decide +kernel
theorem dX9_book_21 : decode cX9_book 21 = .ok (.iconst 1, 1) := by decide +kernel
theorem dX9_book_22 : decode cX9_book 22 = .ok (.if_icmp .eq 23, 3) := by decide +kernel
theorem dX9_book_25 : decode cX9_book 25 = .ok (.iload_n 2, 1) := by decide +kernel
theorem dX9_book_26 : decode cX9_book 26 = .ok (.ifCond .ne 12, 3) := by decide +kernel
theorem dX9_book_29 : decode cX9_book 29 = .ok (.aload_n 0, 1) := by decide +kernel
theorem dX9_book_30 : decode cX9_book 30 = .ok (.getfield 47, 3) := by decide +kernel
theorem dX9_book_33 : decode cX9_book 33 = .ok (.iload_n 1, 1) := by decide +kernel
theorem dX9_book_34 : decode cX9_book 34 = .ok (.laload, 1) := by decide +kernel
theorem dX9_book_35 : decode cX9_book 35 = .ok (.goto 9, 3) := by decide +kernel
theorem dX9_book_38 : decode cX9_book 38 = .ok (.aload_n 0, 1) := by decide +kernel
theorem dX9_book_39 : decode cX9_book 39 = .ok (.getfield 51, 3) := by decide +kernel
theorem dX9_book_42 : decode cX9_book 42 = .ok (.iload_n 1, 1) := by decide +kernel
theorem dX9_book_43 : decode cX9_book 43 = .ok (.laload, 1) := by decide +kernel
theorem dX9_book_44 : decode cX9_book 44 = .ok (.lreturn, 1) := by decide +kernel
theorem dX9_book_45 : decode cX9_book 45 = .ok (.lconst 0, 1) := by decide +kernel
theorem dX9_book_46 : decode cX9_book 46 = .ok (.lstore_n 3, 1) := by decide +kernel
theorem dX9_book_47 : decode cX9_book 47 = .ok (.iconst 0, 1) := by decide +kernel
theorem dX9_book_48 : decode cX9_book 48 = .ok (.istore 5, 2) := by decide +kernel
theorem dX9_book_50 : decode cX9_book 50 = .ok (.iload 5, 2) := by decide +kernel
theorem dX9_book_52 : decode cX9_book 52 = .ok (.aload_n 0, 1) := by decide +kernel
theorem dX9_book_53 : decode cX9_book 53 = .ok (.getfield 101, 3) := by decide +kernel
theorem dX9_book_56 : decode cX9_book 56 = .ok (.if_icmp .ge 93, 3) := by decide +kernel
theorem dX9_book_59 : decode cX9_book 59 = .ok (.iconst 0, 1) := by decide +kernel
theorem dX9_book_60 : decode cX9_book 60 = .ok (.istore 6, 2) := by decide +kernel
theorem dX9_book_62 : decode cX9_book 62 = .ok (.iload 6, 2) := by decide +kernel
theorem dX9_book_64 : decode cX9_book 64 = .ok (.aload_n 0, 1) := by decide +kernel
theorem dX9_book_65 : decode cX9_book 65 = .ok (.getfield 16, 3) := by decide +kernel
theorem dX9_book_68 : decode cX9_book 68 = .ok (.iload 5, 2) := by decide +kernel
theorem dX9_book_70 : decode cX9_book 70 = .ok (.iaload, 1) := by decide +kernel
theorem dX9_book_71 : decode cX9_book 71 = .ok (.if_icmp .ge 72, 3) := by decide +kernel
theorem dX9_book_74 : decode cX9_book 74 = .ok (.iconst 0, 1) := by decide +kernel
theorem dX9_book_75 : decode cX9_book 75 = .ok (.istore 7, 2) := by decide +kernel
theorem dX9_book_77 : decode cX9_book 77 = .ok (.iload 7, 2) := by decide +kernel
theorem dX9_book_79 : decode cX9_book 79 = .ok (.aload_n 0, 1) := by decide +kernel
theorem dX9_book_80 : decode cX9_book 80 = .ok (.getfield 16, 3) := by decide +kernel
theorem dX9_book_83 : decode cX9_book 83 = .ok (.iload 5, 2) := by decide +kernel
theorem dX9_book_85 : decode cX9_book 85 = .ok (.iaload, 1) := by decide +kernel
theorem dX9_book_86 : decode cX9_book 86 = .ok (.if_icmp .ge 51, 3) := by decide +kernel
theorem dX9_book_89 : decode cX9_book 89 = .ok (.lload_n 3, 1) := by decide +kernel
theorem dX9_book_90 : decode cX9_book 90 = .ok (.aload_n 0, 1) := by decide +kernel
theorem dX9_book_91 : decode cX9_book 91 = .ok (.iload 5, 2) := by decide +kernel
theorem dX9_book_93 : decode cX9_book 93 = .ok (.iload 6, 2) := by decide +kernel
theorem dX9_book_95 : decode cX9_book 95 = .ok (.iload 7, 2) := by decide +kernel
theorem dX9_book_97 : decode cX9_book 97 = .ok (.invokevirtual 121, 3) := by decide +kernel
theorem dX9_book_100 : decode cX9_book 100 = .ok (.iload_n 1, 1) := by decide +kernel
theorem dX9_book_101 : decode cX9_book 101 = .ok (.if_icmp .ne 27, 3) := by decide +kernel
theorem dX9_book_104 : decode cX9_book 104 = .ok (.aload_n 0, 1) := by decide +kernel
theorem dX9_book_105 : decode cX9_book 105 = .ok (.getfield 19, 3) := by decide +kernel
theorem dX9_book_108 : decode cX9_book 108 = .ok (.iload 5, 2) := by decide +kernel
theorem dX9_book_110 : decode cX9_book 110 = .ok (.iaload, 1) := by decide +kernel
theorem dX9_book_111 : decode cX9_book 111 = .ok (.i2l, 1) := by decide +kernel
theorem dX9_book_112 : decode cX9_book 112 = .ok (.sipush 4096, 3) := by decide +kernel
theorem dX9_book_115 : decode cX9_book 115 = .ok (.aload_n 0, 1) := by decide +kernel
theorem dX9_book_116 : decode cX9_book 116 = .ok (.getfield 22, 3) := by decide +kernel
theorem dX9_book_119 : decode cX9_book 119 = .ok (.iload 5, 2) := by decide +kernel
theorem dX9_book_121 : decode cX9_book 121 = .ok (.iaload, 1) := by decide +kernel
theorem dX9_book_122 : decode cX9_book 122 = .ok (.idiv, 1) := by decide +kernel
theorem dX9_book_123 : decode cX9_book 123 = .ok (.i2l, 1) := by decide +kernel
theorem dX9_book_124 : decode cX9_book 124 = .ok (.lmul, 1) := by decide +kernel
theorem dX9_book_125 : decode cX9_book 125 = .ok (.goto 4, 3) := by decide +kernel
theorem dX9_book_128 : decode cX9_book 128 = .ok (.lconst 0, 1) := by decide +kernel
theorem dX9_book_129 : decode cX9_book 129 = .ok (.ladd, 1) := by decide +kernel
theorem dX9_book_130 : decode cX9_book 130 = .ok (.lstore_n 3, 1) := by decide +kernel
theorem dX9_book_131 : decode cX9_book 131 = .ok (.iinc 7 1, 3) := by decide +kernel
theorem dX9_book_134 : decode cX9_book 134 = .ok (.goto (-57), 3) := by decide +kernel
theorem dX9_book_137 : decode cX9_book 137 = .ok (.iinc 6 1, 3) := by decide +kernel
theorem dX9_book_140 : decode cX9_book 140 = .ok (.goto (-78), 3) := by decide +kernel
theorem dX9_book_143 : decode cX9_book 143 = .ok (.iinc 5 1, 3) := by decide +kernel
theorem dX9_book_146 : decode cX9_book 146 = .ok (.goto (-96), 3) := by decide +kernel
theorem dX9_book_149 : decode cX9_book 149 = .ok (.lload_n 3, 1) := by decide +kernel
theorem dX9_book_150 : decode cX9_book 150 = .ok (.lreturn, 1) := by decide +kernel
theorem dX9_tolerance_0 : decode cX9_tolerance 0 = .ok (.iload_n 1, 1) := by decide +kernel
theorem dX9_tolerance_1 : decode cX9_tolerance 1 = .ok (.iconst 0, 1) := by decide +kernel
theorem dX9_tolerance_2 : decode cX9_tolerance 2 = .ok (.bipush 99, 2) := by decide +kernel
theorem dX9_tolerance_4 : decode cX9_tolerance 4 = .ok (.invokestatic 97, 3) := by decide +kernel
theorem dX9_tolerance_7 : decode cX9_tolerance 7 = .ok (.ifCond .ne 5, 3) := by decide +kernel
theorem dX9_tolerance_10 : decode cX9_tolerance 10 = .ok (.iconst (-1), 1) := by decide +kernel
theorem dX9_tolerance_11 : decode cX9_tolerance 11 = .ok (.ireturn, 1) := by decide +kernel
theorem dX9_tolerance_12 : decode cX9_tolerance 12 = .ok (.aload_n 0, 1) := by decide +kernel
theorem dX9_tolerance_13 : decode cX9_tolerance 13 = .ok (.getfield 54, 3) := by decide +kernel
theorem dX9_tolerance_16 : decode cX9_tolerance 16 = .ok (.istore_n 2, 1) := by decide +kernel
theorem dX9_tolerance_17 : decode cX9_tolerance 17 = .ok (.aload_n 0, 1) := by decide +kernel
theorem dX9_tolerance_18 : decode cX9_tolerance 18 = .ok (.iload_n 1, 1) := by decide +kernel
theorem dX9_tolerance_19 : decode cX9_tolerance 19 = .ok (.putfield 54, 3) := by decide +kernel
theorem dX9_tolerance_22 : decode cX9_tolerance 22 = .ok (.iload_n 2, 1) := by decide +kernel
theorem dX9_tolerance_23 : decode cX9_tolerance 23 = .ok (.ireturn, 1) := by decide +kernel
theorem dX9_doCrack_0 : decode cX9_doCrack 0 = .ok (.aload_n 0, 1) := by decide +kernel
theorem dX9_doCrack_1 : decode cX9_doCrack 1 = .ok (.getfield 7, 3) := by decide +kernel
theorem dX9_doCrack_4 : decode cX9_doCrack 4 = .ok (.iload_n 1, 1) := by decide +kernel
theorem dX9_doCrack_5 : decode cX9_doCrack 5 = .ok (.iaload, 1) := by decide +kernel
theorem dX9_doCrack_6 : decode cX9_doCrack 6 = .ok (.aload_n 0, 1) := by decide +kernel
theorem dX9_doCrack_7 : decode cX9_doCrack 7 = .ok (.getfield 7, 3) := by decide +kernel
theorem dX9_doCrack_10 : decode cX9_doCrack 10 = .ok (.iload_n 2, 1) := by decide +kernel
theorem dX9_doCrack_11 : decode cX9_doCrack 11 = .ok (.iaload, 1) := by decide +kernel
theorem dX9_doCrack_12 : decode cX9_doCrack 12 = .ok (.isub, 1) := by decide +kernel
theorem dX9_doCrack_13 : decode cX9_doCrack 13 = .ok (.istore_n 3, 1) := by decide +kernel
theorem dX9_doCrack_14 : decode cX9_doCrack 14 = .ok (.iload_n 1, 1) := by decide +kernel
theorem dX9_doCrack_15 : decode cX9_doCrack 15 = .ok (.ifCond .le 28, 3) := by decide +kernel
theorem dX9_doCrack_18 : decode cX9_doCrack 18 = .ok (.iload_n 2, 1) := by decide +kernel
theorem dX9_doCrack_19 : decode cX9_doCrack 19 = .ok (.ifCond .le 24, 3) := by decide +kernel
theorem dX9_doCrack_22 : decode cX9_doCrack 22 = .ok (.iload_n 3, 1) := by decide +kernel
theorem dX9_doCrack_23 : decode cX9_doCrack 23 = .ok (.aload_n 0, 1) := by decide +kernel
theorem dX9_doCrack_24 : decode cX9_doCrack 24 = .ok (.getfield 54, 3) := by decide +kernel
theorem dX9_doCrack_27 : decode cX9_doCrack 27 = .ok (.if_icmp .gt 12, 3) := by decide +kernel
theorem dX9_doCrack_30 : decode cX9_doCrack 30 = .ok (.iload_n 3, 1) := by decide +kernel
theorem dX9_doCrack_31 : decode cX9_doCrack 31 = .ok (.ineg, 1) := by decide +kernel
theorem dX9_doCrack_32 : decode cX9_doCrack 32 = .ok (.aload_n 0, 1) := by decide +kernel
theorem dX9_doCrack_33 : decode cX9_doCrack 33 = .ok (.getfield 54, 3) := by decide +kernel
theorem dX9_doCrack_36 : decode cX9_doCrack 36 = .ok (.if_icmp .le 7, 3) := by decide +kernel
theorem dX9_doCrack_39 : decode cX9_doCrack 39 = .ok (.iconst 1, 1) := by decide +kernel
theorem dX9_doCrack_40 : decode cX9_doCrack 40 = .ok (.goto 4, 3) := by decide +kernel
theorem dX9_doCrack_43 : decode cX9_doCrack 43 = .ok (.iconst 0, 1) := by decide +kernel
theorem dX9_doCrack_44 : decode cX9_doCrack 44 = .ok (.ireturn, 1) := by decide +kernel
theorem dX9_cracksOf_0 : decode cX9_cracksOf 0 = .ok (.iconst 0, 1) := by decide +kernel
theorem dX9_cracksOf_1 : decode cX9_cracksOf 1 = .ok (.istore_n 2, 1) := by decide +kernel
theorem dX9_cracksOf_2 : decode cX9_cracksOf 2 = .ok (.iconst 0, 1) := by decide +kernel
theorem dX9_cracksOf_3 : decode cX9_cracksOf 3 = .ok (.istore_n 3, 1) := by decide +kernel
theorem dX9_cracksOf_4 : decode cX9_cracksOf 4 = .ok (.iload_n 3, 1) := by decide +kernel
theorem dX9_cracksOf_5 : decode cX9_cracksOf 5 = .ok (.aload_n 0, 1) := by decide +kernel
theorem dX9_cracksOf_6 : decode cX9_cracksOf 6 = .ok (.getfield 16, 3) := by decide +kernel
theorem dX9_cracksOf_9 : decode cX9_cracksOf 9 = .ok (.iload_n 1, 1) := by decide +kernel
theorem dX9_cracksOf_10 : decode cX9_cracksOf 10 = .ok (.iaload, 1) := by decide +kernel
theorem dX9_cracksOf_11 : decode cX9_cracksOf 11 = .ok (.if_icmp .ge 104, 3) := by decide +kernel
theorem dX9_cracksOf_14 : decode cX9_cracksOf 14 = .ok (.iconst 0, 1) := by decide +kernel
theorem dX9_cracksOf_15 : decode cX9_cracksOf 15 = .ok (.istore 4, 2) := by decide +kernel
theorem dX9_cracksOf_17 : decode cX9_cracksOf 17 = .ok (.iload 4, 2) := by decide +kernel
theorem dX9_cracksOf_19 : decode cX9_cracksOf 19 = .ok (.aload_n 0, 1) := by decide +kernel
theorem dX9_cracksOf_20 : decode cX9_cracksOf 20 = .ok (.getfield 16, 3) := by decide +kernel
theorem dX9_cracksOf_23 : decode cX9_cracksOf 23 = .ok (.iload_n 1, 1) := by decide +kernel
theorem dX9_cracksOf_24 : decode cX9_cracksOf 24 = .ok (.iaload, 1) := by decide +kernel
theorem dX9_cracksOf_25 : decode cX9_cracksOf 25 = .ok (.if_icmp .ge 84, 3) := by decide +kernel
theorem dX9_cracksOf_28 : decode cX9_cracksOf 28 = .ok (.iload_n 2, 1) := by decide +kernel
theorem dX9_cracksOf_29 : decode cX9_cracksOf 29 = .ok (.iload 4, 2) := by decide +kernel
theorem dX9_cracksOf_31 : decode cX9_cracksOf 31 = .ok (.ifCond .le 32, 3) := by decide +kernel
theorem dX9_cracksOf_34 : decode cX9_cracksOf 34 = .ok (.aload_n 0, 1) := by decide +kernel
theorem dX9_cracksOf_35 : decode cX9_cracksOf 35 = .ok (.aload_n 0, 1) := by decide +kernel
theorem dX9_cracksOf_36 : decode cX9_cracksOf 36 = .ok (.iload_n 1, 1) := by decide +kernel
theorem dX9_cracksOf_37 : decode cX9_cracksOf 37 = .ok (.iload 4, 2) := by decide +kernel
theorem dX9_cracksOf_39 : decode cX9_cracksOf 39 = .ok (.iload_n 3, 1) := by decide +kernel
theorem dX9_cracksOf_40 : decode cX9_cracksOf 40 = .ok (.invokevirtual 121, 3) := by decide +kernel
theorem dX9_cracksOf_43 : decode cX9_cracksOf 43 = .ok (.aload_n 0, 1) := by decide +kernel
theorem dX9_cracksOf_44 : decode cX9_cracksOf 44 = .ok (.iload_n 1, 1) := by decide +kernel
theorem dX9_cracksOf_45 : decode cX9_cracksOf 45 = .ok (.iload 4, 2) := by decide +kernel
theorem dX9_cracksOf_47 : decode cX9_cracksOf 47 = .ok (.iconst 1, 1) := by decide +kernel
theorem dX9_cracksOf_48 : decode cX9_cracksOf 48 = .ok (.isub, 1) := by decide +kernel
theorem dX9_cracksOf_49 : decode cX9_cracksOf 49 = .ok (.iload_n 3, 1) := by decide +kernel
theorem dX9_cracksOf_50 : decode cX9_cracksOf 50 = .ok (.invokevirtual 121, 3) := by decide +kernel
theorem dX9_cracksOf_53 : decode cX9_cracksOf 53 = .ok (.invokevirtual 159, 3) := by decide +kernel
theorem dX9_cracksOf_56 : decode cX9_cracksOf 56 = .ok (.ifCond .eq 7, 3) := by decide +kernel
theorem dX9_cracksOf_59 : decode cX9_cracksOf 59 = .ok (.iconst 1, 1) := by decide +kernel
theorem dX9_cracksOf_60 : decode cX9_cracksOf 60 = .ok (.goto 4, 3) := by decide +kernel
theorem dX9_cracksOf_63 : decode cX9_cracksOf 63 = .ok (.iconst 0, 1) := by decide +kernel
theorem dX9_cracksOf_64 : decode cX9_cracksOf 64 = .ok (.iadd, 1) := by decide +kernel
theorem dX9_cracksOf_65 : decode cX9_cracksOf 65 = .ok (.istore_n 2, 1) := by decide +kernel
theorem dX9_cracksOf_66 : decode cX9_cracksOf 66 = .ok (.iload_n 2, 1) := by decide +kernel
theorem dX9_cracksOf_67 : decode cX9_cracksOf 67 = .ok (.iload_n 3, 1) := by decide +kernel
theorem dX9_cracksOf_68 : decode cX9_cracksOf 68 = .ok (.ifCond .le 32, 3) := by decide +kernel
theorem dX9_cracksOf_71 : decode cX9_cracksOf 71 = .ok (.aload_n 0, 1) := by decide +kernel
theorem dX9_cracksOf_72 : decode cX9_cracksOf 72 = .ok (.aload_n 0, 1) := by decide +kernel
theorem dX9_cracksOf_73 : decode cX9_cracksOf 73 = .ok (.iload_n 1, 1) := by decide +kernel
theorem dX9_cracksOf_74 : decode cX9_cracksOf 74 = .ok (.iload 4, 2) := by decide +kernel
theorem dX9_cracksOf_76 : decode cX9_cracksOf 76 = .ok (.iload_n 3, 1) := by decide +kernel
theorem dX9_cracksOf_77 : decode cX9_cracksOf 77 = .ok (.invokevirtual 121, 3) := by decide +kernel
theorem dX9_cracksOf_80 : decode cX9_cracksOf 80 = .ok (.aload_n 0, 1) := by decide +kernel
theorem dX9_cracksOf_81 : decode cX9_cracksOf 81 = .ok (.iload_n 1, 1) := by decide +kernel
theorem dX9_cracksOf_82 : decode cX9_cracksOf 82 = .ok (.iload 4, 2) := by decide +kernel
theorem dX9_cracksOf_84 : decode cX9_cracksOf 84 = .ok (.iload_n 3, 1) := by decide +kernel
theorem dX9_cracksOf_85 : decode cX9_cracksOf 85 = .ok (.iconst 1, 1) := by decide +kernel
theorem dX9_cracksOf_86 : decode cX9_cracksOf 86 = .ok (.isub, 1) := by decide +kernel
theorem dX9_cracksOf_87 : decode cX9_cracksOf 87 = .ok (.invokevirtual 121, 3) := by decide +kernel
theorem dX9_cracksOf_90 : decode cX9_cracksOf 90 = .ok (.invokevirtual 159, 3) := by decide +kernel
theorem dX9_cracksOf_93 : decode cX9_cracksOf 93 = .ok (.ifCond .eq 7, 3) := by decide +kernel
theorem dX9_cracksOf_96 : decode cX9_cracksOf 96 = .ok (.iconst 1, 1) := by decide +kernel
theorem dX9_cracksOf_97 : decode cX9_cracksOf 97 = .ok (.goto 4, 3) := by decide +kernel
theorem dX9_cracksOf_100 : decode cX9_cracksOf 100 = .ok (.iconst 0, 1) := by decide +kernel
theorem dX9_cracksOf_101 : decode cX9_cracksOf 101 = .ok (.iadd, 1) := by decide +kernel
theorem dX9_cracksOf_102 : decode cX9_cracksOf 102 = .ok (.istore_n 2, 1) := by decide +kernel
theorem dX9_cracksOf_103 : decode cX9_cracksOf 103 = .ok (.iinc 4 1, 3) := by decide +kernel
theorem dX9_cracksOf_106 : decode cX9_cracksOf 106 = .ok (.goto (-89), 3) := by decide +kernel
theorem dX9_cracksOf_109 : decode cX9_cracksOf 109 = .ok (.iinc 3 1, 3) := by decide +kernel
theorem dX9_cracksOf_112 : decode cX9_cracksOf 112 = .ok (.goto (-108), 3) := by decide +kernel
theorem dX9_cracksOf_115 : decode cX9_cracksOf 115 = .ok (.iload_n 2, 1) := by decide +kernel
theorem dX9_cracksOf_116 : decode cX9_cracksOf 116 = .ok (.ireturn, 1) := by decide +kernel
theorem dX9_beside_0 : decode cX9_beside 0 = .ok (.iload_n 2, 1) := by decide +kernel
theorem dX9_beside_1 : decode cX9_beside 1 = .ok (.bipush 8, 2) := by decide +kernel
theorem dX9_beside_3 : decode cX9_beside 3 = .ok (.irem, 1) := by decide +kernel
theorem dX9_beside_4 : decode cX9_beside 4 = .ok (.iload_n 3, 1) := by decide +kernel
theorem dX9_beside_5 : decode cX9_beside 5 = .ok (.ifCond .ne 7, 3) := by decide +kernel
theorem dX9_beside_8 : decode cX9_beside 8 = .ok (.iconst 1, 1) := by decide +kernel
theorem dX9_beside_9 : decode cX9_beside 9 = .ok (.goto 13, 3) := by decide +kernel
theorem dX9_beside_12 : decode cX9_beside 12 = .ok (.iload_n 3, 1) := by decide +kernel
theorem dX9_beside_13 : decode cX9_beside 13 = .ok (.iconst 1, 1) := by decide +kernel
theorem dX9_beside_14 : decode cX9_beside 14 = .ok (.if_icmp .ne 7, 3) := by decide +kernel
theorem dX9_beside_17 : decode cX9_beside 17 = .ok (.iconst (-1), 1) := by decide +kernel
theorem dX9_beside_18 : decode cX9_beside 18 = .ok (.goto 4, 3) := by decide +kernel
theorem dX9_beside_21 : decode cX9_beside 21 = .ok (.iconst 0, 1) := by decide +kernel
theorem dX9_beside_22 : decode cX9_beside 22 = .ok (.iadd, 1) := by decide +kernel
theorem dX9_beside_23 : decode cX9_beside 23 = .ok (.istore 4, 2) := by decide +kernel
theorem dX9_beside_25 : decode cX9_beside 25 = .ok (.iload_n 2, 1) := by decide +kernel
theorem dX9_beside_26 : decode cX9_beside 26 = .ok (.bipush 8, 2) := by decide +kernel
theorem dX9_beside_28 : decode cX9_beside 28 = .ok (.idiv, 1) := by decide +kernel
theorem dX9_beside_29 : decode cX9_beside 29 = .ok (.iload_n 3, 1) := by decide +kernel
theorem dX9_beside_30 : decode cX9_beside 30 = .ok (.iconst 2, 1) := by decide +kernel
theorem dX9_beside_31 : decode cX9_beside 31 = .ok (.if_icmp .ne 7, 3) := by decide +kernel
theorem dX9_beside_34 : decode cX9_beside 34 = .ok (.iconst 1, 1) := by decide +kernel
theorem dX9_beside_35 : decode cX9_beside 35 = .ok (.goto 13, 3) := by decide +kernel
theorem dX9_beside_38 : decode cX9_beside 38 = .ok (.iload_n 3, 1) := by decide +kernel
theorem dX9_beside_39 : decode cX9_beside 39 = .ok (.iconst 3, 1) := by decide +kernel
theorem dX9_beside_40 : decode cX9_beside 40 = .ok (.if_icmp .ne 7, 3) := by decide +kernel
theorem dX9_beside_43 : decode cX9_beside 43 = .ok (.iconst (-1), 1) := by decide +kernel
theorem dX9_beside_44 : decode cX9_beside 44 = .ok (.goto 4, 3) := by decide +kernel
theorem dX9_beside_47 : decode cX9_beside 47 = .ok (.iconst 0, 1) := by decide +kernel
theorem dX9_beside_48 : decode cX9_beside 48 = .ok (.iadd, 1) := by decide +kernel
theorem dX9_beside_49 : decode cX9_beside 49 = .ok (.istore 5, 2) := by decide +kernel
theorem dX9_beside_51 : decode cX9_beside 51 = .ok (.iload 4, 2) := by decide +kernel
theorem dX9_beside_53 : decode cX9_beside 53 = .ok (.iconst 0, 1) := by decide +kernel
theorem dX9_beside_54 : decode cX9_beside 54 = .ok (.aload_n 0, 1) := by decide +kernel
theorem dX9_beside_55 : decode cX9_beside 55 = .ok (.getfield 16, 3) := by decide +kernel
theorem dX9_beside_58 : decode cX9_beside 58 = .ok (.iload_n 1, 1) := by decide +kernel
theorem dX9_beside_59 : decode cX9_beside 59 = .ok (.iaload, 1) := by decide +kernel
theorem dX9_beside_60 : decode cX9_beside 60 = .ok (.iconst 1, 1) := by decide +kernel
theorem dX9_beside_61 : decode cX9_beside 61 = .ok (.isub, 1) := by decide +kernel
theorem dX9_beside_62 : decode cX9_beside 62 = .ok (.invokestatic 97, 3) := by decide +kernel
theorem dX9_beside_65 : decode cX9_beside 65 = .ok (.ifCond .eq 24, 3) := by decide +kernel
theorem dX9_beside_68 : decode cX9_beside 68 = .ok (.iload 5, 2) := by decide +kernel
theorem dX9_beside_70 : decode cX9_beside 70 = .ok (.iconst 0, 1) := by decide +kernel
theorem dX9_beside_71 : decode cX9_beside 71 = .ok (.aload_n 0, 1) := by decide +kernel
theorem dX9_beside_72 : decode cX9_beside 72 = .ok (.getfield 16, 3) := by decide +kernel
theorem dX9_beside_75 : decode cX9_beside 75 = .ok (.iload_n 1, 1) := by decide +kernel
theorem dX9_beside_76 : decode cX9_beside 76 = .ok (.iaload, 1) := by decide +kernel
theorem dX9_beside_77 : decode cX9_beside 77 = .ok (.iconst 1, 1) := by decide +kernel
theorem dX9_beside_78 : decode cX9_beside 78 = .ok (.isub, 1) := by decide +kernel
theorem dX9_beside_79 : decode cX9_beside 79 = .ok (.invokestatic 97, 3) := by decide +kernel
theorem dX9_beside_82 : decode cX9_beside 82 = .ok (.ifCond .eq 7, 3) := by decide +kernel
theorem dX9_beside_85 : decode cX9_beside 85 = .ok (.iconst 1, 1) := by decide +kernel
theorem dX9_beside_86 : decode cX9_beside 86 = .ok (.goto 4, 3) := by decide +kernel
theorem dX9_beside_89 : decode cX9_beside 89 = .ok (.iconst 0, 1) := by decide +kernel
theorem dX9_beside_90 : decode cX9_beside 90 = .ok (.istore 6, 2) := by decide +kernel
theorem dX9_beside_92 : decode cX9_beside 92 = .ok (.iload 6, 2) := by decide +kernel
theorem dX9_beside_94 : decode cX9_beside 94 = .ok (.ifCond .eq 43, 3) := by decide +kernel
theorem dX9_beside_97 : decode cX9_beside 97 = .ok (.aload_n 0, 1) := by decide +kernel
theorem dX9_beside_98 : decode cX9_beside 98 = .ok (.aload_n 0, 1) := by decide +kernel
theorem dX9_beside_99 : decode cX9_beside 99 = .ok (.iload_n 1, 1) := by decide +kernel
theorem dX9_beside_100 : decode cX9_beside 100 = .ok (.iload_n 2, 1) := by decide +kernel
theorem dX9_beside_101 : decode cX9_beside 101 = .ok (.bipush 8, 2) := by decide +kernel
theorem dX9_beside_103 : decode cX9_beside 103 = .ok (.irem, 1) := by decide +kernel
theorem dX9_beside_104 : decode cX9_beside 104 = .ok (.iload_n 2, 1) := by decide +kernel
theorem dX9_beside_105 : decode cX9_beside 105 = .ok (.bipush 8, 2) := by decide +kernel
theorem dX9_beside_107 : decode cX9_beside 107 = .ok (.idiv, 1) := by decide +kernel
theorem dX9_beside_108 : decode cX9_beside 108 = .ok (.invokevirtual 121, 3) := by decide +kernel
theorem dX9_beside_111 : decode cX9_beside 111 = .ok (.aload_n 0, 1) := by decide +kernel
theorem dX9_beside_112 : decode cX9_beside 112 = .ok (.iload_n 1, 1) := by decide +kernel
theorem dX9_beside_113 : decode cX9_beside 113 = .ok (.iload 4, 2) := by decide +kernel
theorem dX9_beside_115 : decode cX9_beside 115 = .ok (.iload 5, 2) := by decide +kernel
theorem dX9_beside_117 : decode cX9_beside 117 = .ok (.invokevirtual 121, 3) := by decide +kernel
theorem dX9_beside_120 : decode cX9_beside 120 = .ok (.invokevirtual 159, 3) := by decide +kernel
theorem dX9_beside_123 : decode cX9_beside 123 = .ok (.ifCond .eq 14, 3) := by decide +kernel
theorem dX9_beside_126 : decode cX9_beside 126 = .ok (.bipush 8, 2) := by decide +kernel
theorem dX9_beside_128 : decode cX9_beside 128 = .ok (.iload 5, 2) := by decide +kernel
theorem dX9_beside_130 : decode cX9_beside 130 = .ok (.imul, 1) := by decide +kernel
theorem dX9_beside_131 : decode cX9_beside 131 = .ok (.iload 4, 2) := by decide +kernel
theorem dX9_beside_133 : decode cX9_beside 133 = .ok (.iadd, 1) := by decide +kernel
theorem dX9_beside_134 : decode cX9_beside 134 = .ok (.goto 5, 3) := by decide +kernel
theorem dX9_beside_137 : decode cX9_beside 137 = .ok (.bipush (-9), 2) := by decide +kernel
theorem dX9_beside_139 : decode cX9_beside 139 = .ok (.ireturn, 1) := by decide +kernel
theorem dX9_grows_0 : decode cX9_grows 0 = .ok (.iconst 0, 1) := by decide +kernel
theorem dX9_grows_1 : decode cX9_grows 1 = .ok (.istore_n 3, 1) := by decide +kernel
theorem dX9_grows_2 : decode cX9_grows 2 = .ok (.iload_n 3, 1) := by decide +kernel
theorem dX9_grows_3 : decode cX9_grows 3 = .ok (.bipush 64, 2) := by decide +kernel
theorem dX9_grows_5 : decode cX9_grows 5 = .ok (.if_icmp .ge 17, 3) := by decide +kernel
theorem dX9_grows_8 : decode cX9_grows 8 = .ok (.aload_n 0, 1) := by decide +kernel
theorem dX9_grows_9 : decode cX9_grows 9 = .ok (.getfield 75, 3) := by decide +kernel
theorem dX9_grows_12 : decode cX9_grows 12 = .ok (.iload_n 3, 1) := by decide +kernel
theorem dX9_grows_13 : decode cX9_grows 13 = .ok (.bipush (-9), 2) := by decide +kernel
theorem dX9_grows_15 : decode cX9_grows 15 = .ok (.iastore, 1) := by decide +kernel
theorem dX9_grows_16 : decode cX9_grows 16 = .ok (.iinc 3 1, 3) := by decide +kernel
theorem dX9_grows_19 : decode cX9_grows 19 = .ok (.goto (-17), 3) := by decide +kernel
theorem dX9_grows_22 : decode cX9_grows 22 = .ok (.aload_n 0, 1) := by decide +kernel
theorem dX9_grows_23 : decode cX9_grows 23 = .ok (.getfield 78, 3) := by decide +kernel
theorem dX9_grows_26 : decode cX9_grows 26 = .ok (.iconst 0, 1) := by decide +kernel
theorem dX9_grows_27 : decode cX9_grows 27 = .ok (.iload_n 2, 1) := by decide +kernel
theorem dX9_grows_28 : decode cX9_grows 28 = .ok (.iastore, 1) := by decide +kernel
theorem dX9_grows_29 : decode cX9_grows 29 = .ok (.iconst 1, 1) := by decide +kernel
theorem dX9_grows_30 : decode cX9_grows 30 = .ok (.istore_n 3, 1) := by decide +kernel
theorem dX9_grows_31 : decode cX9_grows 31 = .ok (.iconst 0, 1) := by decide +kernel
theorem dX9_grows_32 : decode cX9_grows 32 = .ok (.istore 4, 2) := by decide +kernel
theorem dX9_grows_34 : decode cX9_grows 34 = .ok (.iload 4, 2) := by decide +kernel
theorem dX9_grows_36 : decode cX9_grows 36 = .ok (.iload_n 3, 1) := by decide +kernel
theorem dX9_grows_37 : decode cX9_grows 37 = .ok (.if_icmp .ge 168, 3) := by decide +kernel
theorem dX9_grows_40 : decode cX9_grows 40 = .ok (.iconst 0, 1) := by decide +kernel
theorem dX9_grows_41 : decode cX9_grows 41 = .ok (.istore 5, 2) := by decide +kernel
theorem dX9_grows_43 : decode cX9_grows 43 = .ok (.iload 5, 2) := by decide +kernel
theorem dX9_grows_45 : decode cX9_grows 45 = .ok (.iconst 4, 1) := by decide +kernel
theorem dX9_grows_46 : decode cX9_grows 46 = .ok (.if_icmp .ge 153, 3) := by decide +kernel
theorem dX9_grows_49 : decode cX9_grows 49 = .ok (.aload_n 0, 1) := by decide +kernel
theorem dX9_grows_50 : decode cX9_grows 50 = .ok (.iload_n 1, 1) := by decide +kernel
theorem dX9_grows_51 : decode cX9_grows 51 = .ok (.aload_n 0, 1) := by decide +kernel
theorem dX9_grows_52 : decode cX9_grows 52 = .ok (.getfield 78, 3) := by decide +kernel
theorem dX9_grows_55 : decode cX9_grows 55 = .ok (.iload 4, 2) := by decide +kernel
theorem dX9_grows_57 : decode cX9_grows 57 = .ok (.iaload, 1) := by decide +kernel
theorem dX9_grows_58 : decode cX9_grows 58 = .ok (.iload 5, 2) := by decide +kernel
theorem dX9_grows_60 : decode cX9_grows 60 = .ok (.invokevirtual 163, 3) := by decide +kernel
theorem dX9_grows_63 : decode cX9_grows 63 = .ok (.istore 6, 2) := by decide +kernel
theorem dX9_grows_65 : decode cX9_grows 65 = .ok (.iload 6, 2) := by decide +kernel
theorem dX9_grows_67 : decode cX9_grows 67 = .ok (.bipush (-9), 2) := by decide +kernel
theorem dX9_grows_69 : decode cX9_grows 69 = .ok (.if_icmp .eq 124, 3) := by decide +kernel
theorem dX9_grows_72 : decode cX9_grows 72 = .ok (.aload_n 0, 1) := by decide +kernel
theorem dX9_grows_73 : decode cX9_grows 73 = .ok (.getfield 75, 3) := by decide +kernel
theorem dX9_grows_76 : decode cX9_grows 76 = .ok (.iload 6, 2) := by decide +kernel
theorem dX9_grows_78 : decode cX9_grows 78 = .ok (.iaload, 1) := by decide +kernel
theorem dX9_grows_79 : decode cX9_grows 79 = .ok (.bipush (-9), 2) := by decide +kernel
theorem dX9_grows_81 : decode cX9_grows 81 = .ok (.if_icmp .ne 112, 3) := by decide +kernel
theorem dX9_grows_84 : decode cX9_grows 84 = .ok (.aload_n 0, 1) := by decide +kernel
theorem dX9_grows_85 : decode cX9_grows 85 = .ok (.getfield 75, 3) := by decide +kernel
theorem dX9_grows_88 : decode cX9_grows 88 = .ok (.iload 6, 2) := by decide +kernel
theorem dX9_grows_90 : decode cX9_grows 90 = .ok (.aload_n 0, 1) := by decide +kernel
theorem dX9_grows_91 : decode cX9_grows 91 = .ok (.getfield 78, 3) := by decide +kernel
theorem dX9_grows_94 : decode cX9_grows 94 = .ok (.iload 4, 2) := by decide +kernel
theorem dX9_grows_96 : decode cX9_grows 96 = .ok (.iaload, 1) := by decide +kernel
theorem dX9_grows_97 : decode cX9_grows 97 = .ok (.iastore, 1) := by decide +kernel
theorem dX9_grows_98 : decode cX9_grows 98 = .ok (.aload_n 0, 1) := by decide +kernel
theorem dX9_grows_99 : decode cX9_grows 99 = .ok (.getfield 72, 3) := by decide +kernel
theorem dX9_grows_102 : decode cX9_grows 102 = .ok (.iload 6, 2) := by decide +kernel
theorem dX9_grows_104 : decode cX9_grows 104 = .ok (.iaload, 1) := by decide +kernel
theorem dX9_grows_105 : decode cX9_grows 105 = .ok (.bipush (-9), 2) := by decide +kernel
theorem dX9_grows_107 : decode cX9_grows 107 = .ok (.if_icmp .ne 70, 3) := by decide +kernel
theorem dX9_grows_110 : decode cX9_grows 110 = .ok (.iload 6, 2) := by decide +kernel
theorem dX9_grows_112 : decode cX9_grows 112 = .ok (.istore 7, 2) := by decide +kernel
theorem dX9_grows_114 : decode cX9_grows 114 = .ok (.iload 7, 2) := by decide +kernel
theorem dX9_grows_116 : decode cX9_grows 116 = .ok (.bipush (-9), 2) := by decide +kernel
theorem dX9_grows_118 : decode cX9_grows 118 = .ok (.if_icmp .eq 57, 3) := by decide +kernel
theorem dX9_grows_121 : decode cX9_grows 121 = .ok (.aload_n 0, 1) := by decide +kernel
theorem dX9_grows_122 : decode cX9_grows 122 = .ok (.getfield 75, 3) := by decide +kernel
theorem dX9_grows_125 : decode cX9_grows 125 = .ok (.iload 7, 2) := by decide +kernel
theorem dX9_grows_127 : decode cX9_grows 127 = .ok (.iaload, 1) := by decide +kernel
theorem dX9_grows_128 : decode cX9_grows 128 = .ok (.istore 8, 2) := by decide +kernel
theorem dX9_grows_130 : decode cX9_grows 130 = .ok (.aload_n 0, 1) := by decide +kernel
theorem dX9_grows_131 : decode cX9_grows 131 = .ok (.getfield 72, 3) := by decide +kernel
theorem dX9_grows_134 : decode cX9_grows 134 = .ok (.iload 8, 2) := by decide +kernel
theorem dX9_grows_136 : decode cX9_grows 136 = .ok (.iaload, 1) := by decide +kernel
theorem dX9_grows_137 : decode cX9_grows 137 = .ok (.istore 9, 2) := by decide +kernel
theorem dX9_grows_139 : decode cX9_grows 139 = .ok (.aload_n 0, 1) := by decide +kernel
theorem dX9_grows_140 : decode cX9_grows 140 = .ok (.getfield 72, 3) := by decide +kernel
theorem dX9_grows_143 : decode cX9_grows 143 = .ok (.iload 8, 2) := by decide +kernel
theorem dX9_grows_145 : decode cX9_grows 145 = .ok (.iload 7, 2) := by decide +kernel
theorem dX9_grows_147 : decode cX9_grows 147 = .ok (.iastore, 1) := by decide +kernel
theorem dX9_grows_148 : decode cX9_grows 148 = .ok (.aload_n 0, 1) := by decide +kernel
theorem dX9_grows_149 : decode cX9_grows 149 = .ok (.getfield 72, 3) := by decide +kernel
theorem dX9_grows_152 : decode cX9_grows 152 = .ok (.iload 7, 2) := by decide +kernel
theorem dX9_grows_154 : decode cX9_grows 154 = .ok (.iload 8, 2) := by decide +kernel
theorem dX9_grows_156 : decode cX9_grows 156 = .ok (.iastore, 1) := by decide +kernel
theorem dX9_grows_157 : decode cX9_grows 157 = .ok (.iload 8, 2) := by decide +kernel
theorem dX9_grows_159 : decode cX9_grows 159 = .ok (.iload_n 2, 1) := by decide +kernel
theorem dX9_grows_160 : decode cX9_grows 160 = .ok (.if_icmp .ne 8, 3) := by decide +kernel
theorem dX9_grows_163 : decode cX9_grows 163 = .ok (.bipush (-9), 2) := by decide +kernel
theorem dX9_grows_165 : decode cX9_grows 165 = .ok (.goto 5, 3) := by decide +kernel
theorem dX9_grows_168 : decode cX9_grows 168 = .ok (.iload 9, 2) := by decide +kernel
theorem dX9_grows_170 : decode cX9_grows 170 = .ok (.istore 7, 2) := by decide +kernel
theorem dX9_grows_172 : decode cX9_grows 172 = .ok (.goto (-58), 3) := by decide +kernel
theorem dX9_grows_175 : decode cX9_grows 175 = .ok (.iconst 1, 1) := by decide +kernel
theorem dX9_grows_176 : decode cX9_grows 176 = .ok (.ireturn, 1) := by decide +kernel
theorem dX9_grows_177 : decode cX9_grows 177 = .ok (.aload_n 0, 1) := by decide +kernel
theorem dX9_grows_178 : decode cX9_grows 178 = .ok (.getfield 78, 3) := by decide +kernel
theorem dX9_grows_181 : decode cX9_grows 181 = .ok (.iload_n 3, 1) := by decide +kernel
theorem dX9_grows_182 : decode cX9_grows 182 = .ok (.aload_n 0, 1) := by decide +kernel
theorem dX9_grows_183 : decode cX9_grows 183 = .ok (.getfield 72, 3) := by decide +kernel
theorem dX9_grows_186 : decode cX9_grows 186 = .ok (.iload 6, 2) := by decide +kernel
theorem dX9_grows_188 : decode cX9_grows 188 = .ok (.iaload, 1) := by decide +kernel
theorem dX9_grows_189 : decode cX9_grows 189 = .ok (.iastore, 1) := by decide +kernel
theorem dX9_grows_190 : decode cX9_grows 190 = .ok (.iinc 3 1, 3) := by decide +kernel
theorem dX9_grows_193 : decode cX9_grows 193 = .ok (.iinc 5 1, 3) := by decide +kernel
theorem dX9_grows_196 : decode cX9_grows 196 = .ok (.goto (-153), 3) := by decide +kernel
theorem dX9_grows_199 : decode cX9_grows 199 = .ok (.iinc 4 1, 3) := by decide +kernel
theorem dX9_grows_202 : decode cX9_grows 202 = .ok (.goto (-168), 3) := by decide +kernel
theorem dX9_grows_205 : decode cX9_grows 205 = .ok (.iconst 0, 1) := by decide +kernel
theorem dX9_grows_206 : decode cX9_grows 206 = .ok (.ireturn, 1) := by decide +kernel
theorem dX9_leastOut_0 : decode cX9_leastOut 0 = .ok (.iconst 0, 1) := by decide +kernel
theorem dX9_leastOut_1 : decode cX9_leastOut 1 = .ok (.istore_n 2, 1) := by decide +kernel
theorem dX9_leastOut_2 : decode cX9_leastOut 2 = .ok (.iload_n 2, 1) := by decide +kernel
theorem dX9_leastOut_3 : decode cX9_leastOut 3 = .ok (.bipush 64, 2) := by decide +kernel
theorem dX9_leastOut_5 : decode cX9_leastOut 5 = .ok (.if_icmp .ge 17, 3) := by decide +kernel
theorem dX9_leastOut_8 : decode cX9_leastOut 8 = .ok (.aload_n 0, 1) := by decide +kernel
theorem dX9_leastOut_9 : decode cX9_leastOut 9 = .ok (.getfield 72, 3) := by decide +kernel
theorem dX9_leastOut_12 : decode cX9_leastOut 12 = .ok (.iload_n 2, 1) := by decide +kernel
theorem dX9_leastOut_13 : decode cX9_leastOut 13 = .ok (.bipush (-9), 2) := by decide +kernel
theorem dX9_leastOut_15 : decode cX9_leastOut 15 = .ok (.iastore, 1) := by decide +kernel
theorem dX9_leastOut_16 : decode cX9_leastOut 16 = .ok (.iinc 2 1, 3) := by decide +kernel
theorem dX9_leastOut_19 : decode cX9_leastOut 19 = .ok (.goto (-17), 3) := by decide +kernel
theorem dX9_leastOut_22 : decode cX9_leastOut 22 = .ok (.iconst 0, 1) := by decide +kernel
theorem dX9_leastOut_23 : decode cX9_leastOut 23 = .ok (.istore_n 2, 1) := by decide +kernel
theorem dX9_leastOut_24 : decode cX9_leastOut 24 = .ok (.iconst 0, 1) := by decide +kernel
theorem dX9_leastOut_25 : decode cX9_leastOut 25 = .ok (.istore_n 3, 1) := by decide +kernel
theorem dX9_leastOut_26 : decode cX9_leastOut 26 = .ok (.iload_n 3, 1) := by decide +kernel
theorem dX9_leastOut_27 : decode cX9_leastOut 27 = .ok (.aload_n 0, 1) := by decide +kernel
theorem dX9_leastOut_28 : decode cX9_leastOut 28 = .ok (.getfield 16, 3) := by decide +kernel
theorem dX9_leastOut_31 : decode cX9_leastOut 31 = .ok (.iload_n 1, 1) := by decide +kernel
theorem dX9_leastOut_32 : decode cX9_leastOut 32 = .ok (.iaload, 1) := by decide +kernel
theorem dX9_leastOut_33 : decode cX9_leastOut 33 = .ok (.if_icmp .ge 56, 3) := by decide +kernel
theorem dX9_leastOut_36 : decode cX9_leastOut 36 = .ok (.iconst 0, 1) := by decide +kernel
theorem dX9_leastOut_37 : decode cX9_leastOut 37 = .ok (.istore 4, 2) := by decide +kernel
theorem dX9_leastOut_39 : decode cX9_leastOut 39 = .ok (.iload 4, 2) := by decide +kernel
theorem dX9_leastOut_41 : decode cX9_leastOut 41 = .ok (.aload_n 0, 1) := by decide +kernel
theorem dX9_leastOut_42 : decode cX9_leastOut 42 = .ok (.getfield 16, 3) := by decide +kernel
theorem dX9_leastOut_45 : decode cX9_leastOut 45 = .ok (.iload_n 1, 1) := by decide +kernel
theorem dX9_leastOut_46 : decode cX9_leastOut 46 = .ok (.iaload, 1) := by decide +kernel
theorem dX9_leastOut_47 : decode cX9_leastOut 47 = .ok (.if_icmp .ge 36, 3) := by decide +kernel
theorem dX9_leastOut_50 : decode cX9_leastOut 50 = .ok (.iload 4, 2) := by decide +kernel
theorem dX9_leastOut_52 : decode cX9_leastOut 52 = .ok (.iload_n 3, 1) := by decide +kernel
theorem dX9_leastOut_53 : decode cX9_leastOut 53 = .ok (.iadd, 1) := by decide +kernel
theorem dX9_leastOut_54 : decode cX9_leastOut 54 = .ok (.iconst 2, 1) := by decide +kernel
theorem dX9_leastOut_55 : decode cX9_leastOut 55 = .ok (.irem, 1) := by decide +kernel
theorem dX9_leastOut_56 : decode cX9_leastOut 56 = .ok (.ifCond .ne 21, 3) := by decide +kernel
theorem dX9_leastOut_59 : decode cX9_leastOut 59 = .ok (.aload_n 0, 1) := by decide +kernel
theorem dX9_leastOut_60 : decode cX9_leastOut 60 = .ok (.iload_n 1, 1) := by decide +kernel
theorem dX9_leastOut_61 : decode cX9_leastOut 61 = .ok (.bipush 8, 2) := by decide +kernel
theorem dX9_leastOut_63 : decode cX9_leastOut 63 = .ok (.iload_n 3, 1) := by decide +kernel
theorem dX9_leastOut_64 : decode cX9_leastOut 64 = .ok (.imul, 1) := by decide +kernel
theorem dX9_leastOut_65 : decode cX9_leastOut 65 = .ok (.iload 4, 2) := by decide +kernel
theorem dX9_leastOut_67 : decode cX9_leastOut 67 = .ok (.iadd, 1) := by decide +kernel
theorem dX9_leastOut_68 : decode cX9_leastOut 68 = .ok (.invokevirtual 166, 3) := by decide +kernel
theorem dX9_leastOut_71 : decode cX9_leastOut 71 = .ok (.ifCond .eq 6, 3) := by decide +kernel
theorem dX9_leastOut_74 : decode cX9_leastOut 74 = .ok (.iinc 2 1, 3) := by decide +kernel
theorem dX9_leastOut_77 : decode cX9_leastOut 77 = .ok (.iinc 4 1, 3) := by decide +kernel
theorem dX9_leastOut_80 : decode cX9_leastOut 80 = .ok (.goto (-41), 3) := by decide +kernel
theorem dX9_leastOut_83 : decode cX9_leastOut 83 = .ok (.iinc 3 1, 3) := by decide +kernel
theorem dX9_leastOut_86 : decode cX9_leastOut 86 = .ok (.goto (-60), 3) := by decide +kernel
theorem dX9_leastOut_89 : decode cX9_leastOut 89 = .ok (.iload_n 2, 1) := by decide +kernel
theorem dX9_leastOut_90 : decode cX9_leastOut 90 = .ok (.ireturn, 1) := by decide +kernel
theorem dX9_cracks_0 : decode cX9_cracks 0 = .ok (.aload_n 0, 1) := by decide +kernel
theorem dX9_cracks_1 : decode cX9_cracks 1 = .ok (.iload_n 1, 1) := by decide +kernel
theorem dX9_cracks_2 : decode cX9_cracks 2 = .ok (.invokevirtual 104, 3) := by decide +kernel
theorem dX9_cracks_5 : decode cX9_cracks 5 = .ok (.ifCond .eq 12, 3) := by decide +kernel
theorem dX9_cracks_8 : decode cX9_cracks 8 = .ok (.iload_n 2, 1) := by decide +kernel
theorem dX9_cracks_9 : decode cX9_cracks 9 = .ok (.iconst 0, 1) := by decide +kernel
theorem dX9_cracks_10 : decode cX9_cracks 10 = .ok (.iconst 1, 1) := by decide +kernel
theorem dX9_cracks_11 : decode cX9_cracks 11 = .ok (.invokestatic 97, 3) := by decide +kernel
theorem dX9_cracks_14 : decode cX9_cracks 14 = .ok (.ifCond .ne 7, 3) := by decide +kernel
theorem dX9_cracks_17 : decode cX9_cracks 17 = .ok (.iconst (-1), 1) := by decide +kernel
theorem dX9_cracks_18 : decode cX9_cracks 18 = .ok (.goto 20, 3) := by decide +kernel
theorem dX9_cracks_21 : decode cX9_cracks 21 = .ok (.iload_n 2, 1) := by decide +kernel
theorem dX9_cracks_22 : decode cX9_cracks 22 = .ok (.ifCond .ne 11, 3) := by decide +kernel
theorem dX9_cracks_25 : decode cX9_cracks 25 = .ok (.aload_n 0, 1) := by decide +kernel
theorem dX9_cracks_26 : decode cX9_cracks 26 = .ok (.iload_n 1, 1) := by decide +kernel
theorem dX9_cracks_27 : decode cX9_cracks 27 = .ok (.invokevirtual 169, 3) := by decide +kernel
theorem dX9_cracks_30 : decode cX9_cracks 30 = .ok (.goto 8, 3) := by decide +kernel
theorem dX9_cracks_33 : decode cX9_cracks 33 = .ok (.aload_n 0, 1) := by decide +kernel
theorem dX9_cracks_34 : decode cX9_cracks 34 = .ok (.iload_n 1, 1) := by decide +kernel
theorem dX9_cracks_35 : decode cX9_cracks 35 = .ok (.invokevirtual 172, 3) := by decide +kernel
theorem dX9_cracks_38 : decode cX9_cracks 38 = .ok (.ireturn, 1) := by decide +kernel
theorem dX9_isPower_0 : decode cX9_isPower 0 = .ok (.iload_n 0, 1) := by decide +kernel
theorem dX9_isPower_1 : decode cX9_isPower 1 = .ok (.iconst 1, 1) := by decide +kernel
theorem dX9_isPower_2 : decode cX9_isPower 2 = .ok (.if_icmp .eq 19, 3) := by decide +kernel
theorem dX9_isPower_5 : decode cX9_isPower 5 = .ok (.iload_n 0, 1) := by decide +kernel
theorem dX9_isPower_6 : decode cX9_isPower 6 = .ok (.iconst 2, 1) := by decide +kernel
theorem dX9_isPower_7 : decode cX9_isPower 7 = .ok (.if_icmp .eq 14, 3) := by decide +kernel
theorem dX9_isPower_10 : decode cX9_isPower 10 = .ok (.iload_n 0, 1) := by decide +kernel
theorem dX9_isPower_11 : decode cX9_isPower 11 = .ok (.iconst 4, 1) := by decide +kernel
theorem dX9_isPower_12 : decode cX9_isPower 12 = .ok (.if_icmp .eq 9, 3) := by decide +kernel
theorem dX9_isPower_15 : decode cX9_isPower 15 = .ok (.iload_n 0, 1) := by decide +kernel
theorem dX9_isPower_16 : decode cX9_isPower 16 = .ok (.bipush 8, 2) := by decide +kernel
theorem dX9_isPower_18 : decode cX9_isPower 18 = .ok (.if_icmp .ne 7, 3) := by decide +kernel
theorem dX9_isPower_21 : decode cX9_isPower 21 = .ok (.iconst 1, 1) := by decide +kernel
theorem dX9_isPower_22 : decode cX9_isPower 22 = .ok (.goto 4, 3) := by decide +kernel
theorem dX9_isPower_25 : decode cX9_isPower 25 = .ok (.iconst 0, 1) := by decide +kernel
theorem dX9_isPower_26 : decode cX9_isPower 26 = .ok (.ireturn, 1) := by decide +kernel
theorem dX9_wish_0 : decode cX9_wish 0 = .ok (.iload_n 1, 1) := by decide +kernel
theorem dX9_wish_1 : decode cX9_wish 1 = .ok (.invokestatic 175, 3) := by decide +kernel
theorem dX9_wish_4 : decode cX9_wish 4 = .ok (.ifCond .ne 5, 3) := by decide +kernel
theorem dX9_wish_7 : decode cX9_wish 7 = .ok (.iconst (-1), 1) := by decide +kernel
theorem dX9_wish_8 : decode cX9_wish 8 = .ok (.ireturn, 1) := by decide +kernel
theorem dX9_wish_9 : decode cX9_wish 9 = .ok (.aload_n 0, 1) := by decide +kernel
theorem dX9_wish_10 : decode cX9_wish 10 = .ok (.iload_n 1, 1) := by decide +kernel
theorem dX9_wish_11 : decode cX9_wish 11 = .ok (.putfield 31, 3) := by decide +kernel
theorem dX9_wish_14 : decode cX9_wish 14 = .ok (.iconst 0, 1) := by decide +kernel
theorem dX9_wish_15 : decode cX9_wish 15 = .ok (.istore_n 2, 1) := by decide +kernel
theorem dX9_wish_16 : decode cX9_wish 16 = .ok (.iload_n 2, 1) := by decide +kernel
theorem dX9_wish_17 : decode cX9_wish 17 = .ok (.bipush 64, 2) := by decide +kernel
theorem dX9_wish_19 : decode cX9_wish 19 = .ok (.if_icmp .ge 20, 3) := by decide +kernel
theorem dX9_wish_22 : decode cX9_wish 22 = .ok (.aload_n 0, 1) := by decide +kernel
theorem dX9_wish_23 : decode cX9_wish 23 = .ok (.getfield 28, 3) := by decide +kernel
theorem dX9_wish_26 : decode cX9_wish 26 = .ok (.sipush 1024, 3) := by decide +kernel
theorem dX9_wish_29 : decode cX9_wish 29 = .ok (.iload_n 2, 1) := by decide +kernel
theorem dX9_wish_30 : decode cX9_wish 30 = .ok (.iadd, 1) := by decide +kernel
theorem dX9_wish_31 : decode cX9_wish 31 = .ok (.iconst 0, 1) := by decide +kernel
theorem dX9_wish_32 : decode cX9_wish 32 = .ok (.iastore, 1) := by decide +kernel
theorem dX9_wish_33 : decode cX9_wish 33 = .ok (.iinc 2 1, 3) := by decide +kernel
theorem dX9_wish_36 : decode cX9_wish 36 = .ok (.goto (-20), 3) := by decide +kernel
theorem dX9_wish_39 : decode cX9_wish 39 = .ok (.iload_n 1, 1) := by decide +kernel
theorem dX9_wish_40 : decode cX9_wish 40 = .ok (.ireturn, 1) := by decide +kernel
theorem dX9_want_0 : decode cX9_want 0 = .ok (.iload_n 1, 1) := by decide +kernel
theorem dX9_want_1 : decode cX9_want 1 = .ok (.iconst 0, 1) := by decide +kernel
theorem dX9_want_2 : decode cX9_want 2 = .ok (.aload_n 0, 1) := by decide +kernel
theorem dX9_want_3 : decode cX9_want 3 = .ok (.getfield 31, 3) := by decide +kernel
theorem dX9_want_6 : decode cX9_want 6 = .ok (.iconst 1, 1) := by decide +kernel
theorem dX9_want_7 : decode cX9_want 7 = .ok (.isub, 1) := by decide +kernel
theorem dX9_want_8 : decode cX9_want 8 = .ok (.invokestatic 97, 3) := by decide +kernel
theorem dX9_want_11 : decode cX9_want 11 = .ok (.ifCond .eq 27, 3) := by decide +kernel
theorem dX9_want_14 : decode cX9_want 14 = .ok (.iload_n 2, 1) := by decide +kernel
theorem dX9_want_15 : decode cX9_want 15 = .ok (.iconst 0, 1) := by decide +kernel
theorem dX9_want_16 : decode cX9_want 16 = .ok (.aload_n 0, 1) := by decide +kernel
theorem dX9_want_17 : decode cX9_want 17 = .ok (.getfield 31, 3) := by decide +kernel
theorem dX9_want_20 : decode cX9_want 20 = .ok (.iconst 1, 1) := by decide +kernel
theorem dX9_want_21 : decode cX9_want 21 = .ok (.isub, 1) := by decide +kernel
theorem dX9_want_22 : decode cX9_want 22 = .ok (.invokestatic 97, 3) := by decide +kernel
theorem dX9_want_25 : decode cX9_want 25 = .ok (.ifCond .eq 13, 3) := by decide +kernel
theorem dX9_want_28 : decode cX9_want 28 = .ok (.iload_n 3, 1) := by decide +kernel
theorem dX9_want_29 : decode cX9_want 29 = .ok (.iconst 0, 1) := by decide +kernel
theorem dX9_want_30 : decode cX9_want 30 = .ok (.bipush 8, 2) := by decide +kernel
theorem dX9_want_32 : decode cX9_want 32 = .ok (.invokestatic 97, 3) := by decide +kernel
theorem dX9_want_35 : decode cX9_want 35 = .ok (.ifCond .ne 5, 3) := by decide +kernel
theorem dX9_want_38 : decode cX9_want 38 = .ok (.iconst (-1), 1) := by decide +kernel
theorem dX9_want_39 : decode cX9_want 39 = .ok (.ireturn, 1) := by decide +kernel
theorem dX9_want_40 : decode cX9_want 40 = .ok (.aload_n 0, 1) := by decide +kernel
theorem dX9_want_41 : decode cX9_want 41 = .ok (.bipush 16, 2) := by decide +kernel
theorem dX9_want_43 : decode cX9_want 43 = .ok (.iload_n 1, 1) := by decide +kernel
theorem dX9_want_44 : decode cX9_want 44 = .ok (.iload_n 2, 1) := by decide +kernel
theorem dX9_want_45 : decode cX9_want 45 = .ok (.invokevirtual 121, 3) := by decide +kernel
theorem dX9_want_48 : decode cX9_want 48 = .ok (.istore 4, 2) := by decide +kernel
theorem dX9_want_50 : decode cX9_want 50 = .ok (.aload_n 0, 1) := by decide +kernel
theorem dX9_want_51 : decode cX9_want 51 = .ok (.bipush 16, 2) := by decide +kernel
theorem dX9_want_53 : decode cX9_want 53 = .ok (.iload_n 1, 1) := by decide +kernel
theorem dX9_want_54 : decode cX9_want 54 = .ok (.iload_n 2, 1) := by decide +kernel
theorem dX9_want_55 : decode cX9_want 55 = .ok (.iload_n 3, 1) := by decide +kernel
theorem dX9_want_56 : decode cX9_want 56 = .ok (.invokevirtual 111, 3) := by decide +kernel
theorem dX9_want_59 : decode cX9_want 59 = .ok (.iload 4, 2) := by decide +kernel
theorem dX9_want_61 : decode cX9_want 61 = .ok (.ireturn, 1) := by decide +kernel
theorem dX9_isTurned_0 : decode cX9_isTurned 0 = .ok (.aload_n 0, 1) := by decide +kernel
theorem dX9_isTurned_1 : decode cX9_isTurned 1 = .ok (.getfield 31, 3) := by decide +kernel
theorem dX9_isTurned_4 : decode cX9_isTurned 4 = .ok (.iload_n 1, 1) := by decide +kernel
theorem dX9_isTurned_5 : decode cX9_isTurned 5 = .ok (.idiv, 1) := by decide +kernel
theorem dX9_isTurned_6 : decode cX9_isTurned 6 = .ok (.istore 4, 2) := by decide +kernel
theorem dX9_isTurned_8 : decode cX9_isTurned 8 = .ok (.iconst 0, 1) := by decide +kernel
theorem dX9_isTurned_9 : decode cX9_isTurned 9 = .ok (.istore 5, 2) := by decide +kernel
theorem dX9_isTurned_11 : decode cX9_isTurned 11 = .ok (.iload 5, 2) := by decide +kernel
theorem dX9_isTurned_13 : decode cX9_isTurned 13 = .ok (.iconst 4, 1) := by decide +kernel
theorem dX9_isTurned_14 : decode cX9_isTurned 14 = .ok (.if_icmp .ge 152, 3) := by decide +kernel
theorem dX9_isTurned_17 : decode cX9_isTurned 17 = .ok (.iconst 1, 1) := by decide +kernel
theorem dX9_isTurned_18 : decode cX9_isTurned 18 = .ok (.istore 6, 2) := by decide +kernel
theorem dX9_isTurned_20 : decode cX9_isTurned 20 = .ok (.iconst 0, 1) := by decide +kernel
theorem dX9_isTurned_21 : decode cX9_isTurned 21 = .ok (.istore 7, 2) := by decide +kernel
theorem dX9_isTurned_23 : decode cX9_isTurned 23 = .ok (.iload 7, 2) := by decide +kernel
theorem dX9_isTurned_25 : decode cX9_isTurned 25 = .ok (.iload_n 1, 1) := by decide +kernel
theorem dX9_isTurned_26 : decode cX9_isTurned 26 = .ok (.if_icmp .ge 127, 3) := by decide +kernel
theorem dX9_isTurned_29 : decode cX9_isTurned 29 = .ok (.iconst 0, 1) := by decide +kernel
theorem dX9_isTurned_30 : decode cX9_isTurned 30 = .ok (.istore 8, 2) := by decide +kernel
theorem dX9_isTurned_32 : decode cX9_isTurned 32 = .ok (.iload 8, 2) := by decide +kernel
theorem dX9_isTurned_34 : decode cX9_isTurned 34 = .ok (.iload_n 1, 1) := by decide +kernel
theorem dX9_isTurned_35 : decode cX9_isTurned 35 = .ok (.if_icmp .ge 112, 3) := by decide +kernel
theorem dX9_isTurned_38 : decode cX9_isTurned 38 = .ok (.iload 8, 2) := by decide +kernel
theorem dX9_isTurned_40 : decode cX9_isTurned 40 = .ok (.istore 9, 2) := by decide +kernel
theorem dX9_isTurned_42 : decode cX9_isTurned 42 = .ok (.iload 7, 2) := by decide +kernel
theorem dX9_isTurned_44 : decode cX9_isTurned 44 = .ok (.istore 10, 2) := by decide +kernel
theorem dX9_isTurned_46 : decode cX9_isTurned 46 = .ok (.iconst 0, 1) := by decide +kernel
theorem dX9_isTurned_47 : decode cX9_isTurned 47 = .ok (.istore 11, 2) := by decide +kernel
theorem dX9_isTurned_49 : decode cX9_isTurned 49 = .ok (.iload 11, 2) := by decide +kernel
theorem dX9_isTurned_51 : decode cX9_isTurned 51 = .ok (.iload 5, 2) := by decide +kernel
theorem dX9_isTurned_53 : decode cX9_isTurned 53 = .ok (.if_icmp .ge 25, 3) := by decide +kernel
theorem dX9_isTurned_56 : decode cX9_isTurned 56 = .ok (.iload 9, 2) := by decide +kernel
theorem dX9_isTurned_58 : decode cX9_isTurned 58 = .ok (.istore 12, 2) := by decide +kernel
theorem dX9_isTurned_60 : decode cX9_isTurned 60 = .ok (.iload 10, 2) := by decide +kernel
theorem dX9_isTurned_62 : decode cX9_isTurned 62 = .ok (.istore 9, 2) := by decide +kernel
theorem dX9_isTurned_64 : decode cX9_isTurned 64 = .ok (.iload_n 1, 1) := by decide +kernel
theorem dX9_isTurned_65 : decode cX9_isTurned 65 = .ok (.iconst 1, 1) := by decide +kernel
theorem dX9_isTurned_66 : decode cX9_isTurned 66 = .ok (.isub, 1) := by decide +kernel
theorem dX9_isTurned_67 : decode cX9_isTurned 67 = .ok (.iload 12, 2) := by decide +kernel
theorem dX9_isTurned_69 : decode cX9_isTurned 69 = .ok (.isub, 1) := by decide +kernel
theorem dX9_isTurned_70 : decode cX9_isTurned 70 = .ok (.istore 10, 2) := by decide +kernel
theorem dX9_isTurned_72 : decode cX9_isTurned 72 = .ok (.iinc 11 1, 3) := by decide +kernel
theorem dX9_isTurned_75 : decode cX9_isTurned 75 = .ok (.goto (-26), 3) := by decide +kernel
theorem dX9_isTurned_78 : decode cX9_isTurned 78 = .ok (.iload 6, 2) := by decide +kernel
theorem dX9_isTurned_80 : decode cX9_isTurned 80 = .ok (.ifCond .eq 58, 3) := by decide +kernel
theorem dX9_isTurned_83 : decode cX9_isTurned 83 = .ok (.aload_n 0, 1) := by decide +kernel
theorem dX9_isTurned_84 : decode cX9_isTurned 84 = .ok (.bipush 16, 2) := by decide +kernel
theorem dX9_isTurned_86 : decode cX9_isTurned 86 = .ok (.iload_n 2, 1) := by decide +kernel
theorem dX9_isTurned_87 : decode cX9_isTurned 87 = .ok (.iload 4, 2) := by decide +kernel
theorem dX9_isTurned_89 : decode cX9_isTurned 89 = .ok (.irem, 1) := by decide +kernel
theorem dX9_isTurned_90 : decode cX9_isTurned 90 = .ok (.iload_n 1, 1) := by decide +kernel
theorem dX9_isTurned_91 : decode cX9_isTurned 91 = .ok (.imul, 1) := by decide +kernel
theorem dX9_isTurned_92 : decode cX9_isTurned 92 = .ok (.iload 8, 2) := by decide +kernel
theorem dX9_isTurned_94 : decode cX9_isTurned 94 = .ok (.iadd, 1) := by decide +kernel
theorem dX9_isTurned_95 : decode cX9_isTurned 95 = .ok (.iload_n 2, 1) := by decide +kernel
theorem dX9_isTurned_96 : decode cX9_isTurned 96 = .ok (.iload 4, 2) := by decide +kernel
theorem dX9_isTurned_98 : decode cX9_isTurned 98 = .ok (.idiv, 1) := by decide +kernel
theorem dX9_isTurned_99 : decode cX9_isTurned 99 = .ok (.iload_n 1, 1) := by decide +kernel
theorem dX9_isTurned_100 : decode cX9_isTurned 100 = .ok (.imul, 1) := by decide +kernel
theorem dX9_isTurned_101 : decode cX9_isTurned 101 = .ok (.iload 7, 2) := by decide +kernel
theorem dX9_isTurned_103 : decode cX9_isTurned 103 = .ok (.iadd, 1) := by decide +kernel
theorem dX9_isTurned_104 : decode cX9_isTurned 104 = .ok (.invokevirtual 121, 3) := by decide +kernel
theorem dX9_isTurned_107 : decode cX9_isTurned 107 = .ok (.aload_n 0, 1) := by decide +kernel
theorem dX9_isTurned_108 : decode cX9_isTurned 108 = .ok (.bipush 16, 2) := by decide +kernel
theorem dX9_isTurned_110 : decode cX9_isTurned 110 = .ok (.iload_n 3, 1) := by decide +kernel
theorem dX9_isTurned_111 : decode cX9_isTurned 111 = .ok (.iload 4, 2) := by decide +kernel
theorem dX9_isTurned_113 : decode cX9_isTurned 113 = .ok (.irem, 1) := by decide +kernel
theorem dX9_isTurned_114 : decode cX9_isTurned 114 = .ok (.iload_n 1, 1) := by decide +kernel
theorem dX9_isTurned_115 : decode cX9_isTurned 115 = .ok (.imul, 1) := by decide +kernel
theorem dX9_isTurned_116 : decode cX9_isTurned 116 = .ok (.iload 9, 2) := by decide +kernel
theorem dX9_isTurned_118 : decode cX9_isTurned 118 = .ok (.iadd, 1) := by decide +kernel
theorem dX9_isTurned_119 : decode cX9_isTurned 119 = .ok (.iload_n 3, 1) := by decide +kernel
theorem dX9_isTurned_120 : decode cX9_isTurned 120 = .ok (.iload 4, 2) := by decide +kernel
theorem dX9_isTurned_122 : decode cX9_isTurned 122 = .ok (.idiv, 1) := by decide +kernel
theorem dX9_isTurned_123 : decode cX9_isTurned 123 = .ok (.iload_n 1, 1) := by decide +kernel
theorem dX9_isTurned_124 : decode cX9_isTurned 124 = .ok (.imul, 1) := by decide +kernel
theorem dX9_isTurned_125 : decode cX9_isTurned 125 = .ok (.iload 10, 2) := by decide +kernel
theorem dX9_isTurned_127 : decode cX9_isTurned 127 = .ok (.iadd, 1) := by decide +kernel
theorem dX9_isTurned_128 : decode cX9_isTurned 128 = .ok (.invokevirtual 121, 3) := by decide +kernel
theorem dX9_isTurned_131 : decode cX9_isTurned 131 = .ok (.if_icmp .ne 7, 3) := by decide +kernel
theorem dX9_isTurned_134 : decode cX9_isTurned 134 = .ok (.iconst 1, 1) := by decide +kernel
theorem dX9_isTurned_135 : decode cX9_isTurned 135 = .ok (.goto 4, 3) := by decide +kernel
theorem dX9_isTurned_138 : decode cX9_isTurned 138 = .ok (.iconst 0, 1) := by decide +kernel
theorem dX9_isTurned_139 : decode cX9_isTurned 139 = .ok (.istore 6, 2) := by decide +kernel
theorem dX9_isTurned_141 : decode cX9_isTurned 141 = .ok (.iinc 8 1, 3) := by decide +kernel
theorem dX9_isTurned_144 : decode cX9_isTurned 144 = .ok (.goto (-112), 3) := by decide +kernel
theorem dX9_isTurned_147 : decode cX9_isTurned 147 = .ok (.iinc 7 1, 3) := by decide +kernel
theorem dX9_isTurned_150 : decode cX9_isTurned 150 = .ok (.goto (-127), 3) := by decide +kernel
theorem dX9_isTurned_153 : decode cX9_isTurned 153 = .ok (.iload 6, 2) := by decide +kernel
theorem dX9_isTurned_155 : decode cX9_isTurned 155 = .ok (.ifCond .eq 5, 3) := by decide +kernel
theorem dX9_isTurned_158 : decode cX9_isTurned 158 = .ok (.iconst 1, 1) := by decide +kernel
theorem dX9_isTurned_159 : decode cX9_isTurned 159 = .ok (.ireturn, 1) := by decide +kernel
theorem dX9_isTurned_160 : decode cX9_isTurned 160 = .ok (.iinc 5 1, 3) := by decide +kernel
theorem dX9_isTurned_163 : decode cX9_isTurned 163 = .ok (.goto (-152), 3) := by decide +kernel
theorem dX9_isTurned_166 : decode cX9_isTurned 166 = .ok (.iconst 0, 1) := by decide +kernel
theorem dX9_isTurned_167 : decode cX9_isTurned 167 = .ok (.ireturn, 1) := by decide +kernel
theorem dX9_unlikeOf_0 : decode cX9_unlikeOf 0 = .ok (.aload_n 0, 1) := by decide +kernel
theorem dX9_unlikeOf_1 : decode cX9_unlikeOf 1 = .ok (.getfield 31, 3) := by decide +kernel
theorem dX9_unlikeOf_4 : decode cX9_unlikeOf 4 = .ok (.iload_n 1, 1) := by decide +kernel
theorem dX9_unlikeOf_5 : decode cX9_unlikeOf 5 = .ok (.idiv, 1) := by decide +kernel
theorem dX9_unlikeOf_6 : decode cX9_unlikeOf 6 = .ok (.istore_n 2, 1) := by decide +kernel
theorem dX9_unlikeOf_7 : decode cX9_unlikeOf 7 = .ok (.iconst 0, 1) := by decide +kernel
theorem dX9_unlikeOf_8 : decode cX9_unlikeOf 8 = .ok (.istore_n 3, 1) := by decide +kernel
theorem dX9_unlikeOf_9 : decode cX9_unlikeOf 9 = .ok (.iconst 0, 1) := by decide +kernel
theorem dX9_unlikeOf_10 : decode cX9_unlikeOf 10 = .ok (.istore 4, 2) := by decide +kernel
theorem dX9_unlikeOf_12 : decode cX9_unlikeOf 12 = .ok (.iload 4, 2) := by decide +kernel
theorem dX9_unlikeOf_14 : decode cX9_unlikeOf 14 = .ok (.iload_n 2, 1) := by decide +kernel
theorem dX9_unlikeOf_15 : decode cX9_unlikeOf 15 = .ok (.iload_n 2, 1) := by decide +kernel
theorem dX9_unlikeOf_16 : decode cX9_unlikeOf 16 = .ok (.imul, 1) := by decide +kernel
theorem dX9_unlikeOf_17 : decode cX9_unlikeOf 17 = .ok (.if_icmp .ge 65, 3) := by decide +kernel
theorem dX9_unlikeOf_20 : decode cX9_unlikeOf 20 = .ok (.iconst 0, 1) := by decide +kernel
theorem dX9_unlikeOf_21 : decode cX9_unlikeOf 21 = .ok (.istore 5, 2) := by decide +kernel
theorem dX9_unlikeOf_23 : decode cX9_unlikeOf 23 = .ok (.iconst 0, 1) := by decide +kernel
theorem dX9_unlikeOf_24 : decode cX9_unlikeOf 24 = .ok (.istore 6, 2) := by decide +kernel
theorem dX9_unlikeOf_26 : decode cX9_unlikeOf 26 = .ok (.iload 6, 2) := by decide +kernel
theorem dX9_unlikeOf_28 : decode cX9_unlikeOf 28 = .ok (.iload 4, 2) := by decide +kernel
theorem dX9_unlikeOf_30 : decode cX9_unlikeOf 30 = .ok (.if_icmp .ge 33, 3) := by decide +kernel
theorem dX9_unlikeOf_33 : decode cX9_unlikeOf 33 = .ok (.iload 5, 2) := by decide +kernel
theorem dX9_unlikeOf_35 : decode cX9_unlikeOf 35 = .ok (.ifCond .ne 15, 3) := by decide +kernel
theorem dX9_unlikeOf_38 : decode cX9_unlikeOf 38 = .ok (.aload_n 0, 1) := by decide +kernel
theorem dX9_unlikeOf_39 : decode cX9_unlikeOf 39 = .ok (.iload_n 1, 1) := by decide +kernel
theorem dX9_unlikeOf_40 : decode cX9_unlikeOf 40 = .ok (.iload 4, 2) := by decide +kernel
theorem dX9_unlikeOf_42 : decode cX9_unlikeOf 42 = .ok (.iload 6, 2) := by decide +kernel
theorem dX9_unlikeOf_44 : decode cX9_unlikeOf 44 = .ok (.invokevirtual 178, 3) := by decide +kernel
theorem dX9_unlikeOf_47 : decode cX9_unlikeOf 47 = .ok (.ifCond .eq 7, 3) := by decide +kernel
theorem dX9_unlikeOf_50 : decode cX9_unlikeOf 50 = .ok (.iconst 1, 1) := by decide +kernel
theorem dX9_unlikeOf_51 : decode cX9_unlikeOf 51 = .ok (.goto 4, 3) := by decide +kernel
theorem dX9_unlikeOf_54 : decode cX9_unlikeOf 54 = .ok (.iconst 0, 1) := by decide +kernel
theorem dX9_unlikeOf_55 : decode cX9_unlikeOf 55 = .ok (.istore 5, 2) := by decide +kernel
theorem dX9_unlikeOf_57 : decode cX9_unlikeOf 57 = .ok (.iinc 6 1, 3) := by decide +kernel
theorem dX9_unlikeOf_60 : decode cX9_unlikeOf 60 = .ok (.goto (-34), 3) := by decide +kernel
theorem dX9_unlikeOf_63 : decode cX9_unlikeOf 63 = .ok (.iload_n 3, 1) := by decide +kernel
theorem dX9_unlikeOf_64 : decode cX9_unlikeOf 64 = .ok (.iload 5, 2) := by decide +kernel
theorem dX9_unlikeOf_66 : decode cX9_unlikeOf 66 = .ok (.ifCond .eq 7, 3) := by decide +kernel
theorem dX9_unlikeOf_69 : decode cX9_unlikeOf 69 = .ok (.iconst 0, 1) := by decide +kernel
theorem dX9_unlikeOf_70 : decode cX9_unlikeOf 70 = .ok (.goto 4, 3) := by decide +kernel
theorem dX9_unlikeOf_73 : decode cX9_unlikeOf 73 = .ok (.iconst 1, 1) := by decide +kernel
theorem dX9_unlikeOf_74 : decode cX9_unlikeOf 74 = .ok (.iadd, 1) := by decide +kernel
theorem dX9_unlikeOf_75 : decode cX9_unlikeOf 75 = .ok (.istore_n 3, 1) := by decide +kernel
theorem dX9_unlikeOf_76 : decode cX9_unlikeOf 76 = .ok (.iinc 4 1, 3) := by decide +kernel
theorem dX9_unlikeOf_79 : decode cX9_unlikeOf 79 = .ok (.goto (-67), 3) := by decide +kernel
theorem dX9_unlikeOf_82 : decode cX9_unlikeOf 82 = .ok (.iload_n 3, 1) := by decide +kernel
theorem dX9_unlikeOf_83 : decode cX9_unlikeOf 83 = .ok (.ireturn, 1) := by decide +kernel
theorem dX9_unlike_0 : decode cX9_unlike 0 = .ok (.iload_n 1, 1) := by decide +kernel
theorem dX9_unlike_1 : decode cX9_unlike 1 = .ok (.invokestatic 175, 3) := by decide +kernel
theorem dX9_unlike_4 : decode cX9_unlike 4 = .ok (.ifCond .eq 19, 3) := by decide +kernel
theorem dX9_unlike_7 : decode cX9_unlike 7 = .ok (.iload_n 1, 1) := by decide +kernel
theorem dX9_unlike_8 : decode cX9_unlike 8 = .ok (.aload_n 0, 1) := by decide +kernel
theorem dX9_unlike_9 : decode cX9_unlike 9 = .ok (.getfield 31, 3) := by decide +kernel
theorem dX9_unlike_12 : decode cX9_unlike 12 = .ok (.if_icmp .gt 11, 3) := by decide +kernel
theorem dX9_unlike_15 : decode cX9_unlike 15 = .ok (.aload_n 0, 1) := by decide +kernel
theorem dX9_unlike_16 : decode cX9_unlike 16 = .ok (.iload_n 1, 1) := by decide +kernel
theorem dX9_unlike_17 : decode cX9_unlike 17 = .ok (.invokevirtual 181, 3) := by decide +kernel
theorem dX9_unlike_20 : decode cX9_unlike 20 = .ok (.goto 4, 3) := by decide +kernel
theorem dX9_unlike_23 : decode cX9_unlike 23 = .ok (.iconst (-1), 1) := by decide +kernel
theorem dX9_unlike_24 : decode cX9_unlike 24 = .ok (.ireturn, 1) := by decide +kernel
theorem dX9_plan_0 : decode cX9_plan 0 = .ok (.iload_n 1, 1) := by decide +kernel
theorem dX9_plan_1 : decode cX9_plan 1 = .ok (.iconst 1, 1) := by decide +kernel
theorem dX9_plan_2 : decode cX9_plan 2 = .ok (.iconst 3, 1) := by decide +kernel
theorem dX9_plan_3 : decode cX9_plan 3 = .ok (.invokestatic 97, 3) := by decide +kernel
theorem dX9_plan_6 : decode cX9_plan 6 = .ok (.ifCond .eq 12, 3) := by decide +kernel
theorem dX9_plan_9 : decode cX9_plan 9 = .ok (.iload_n 2, 1) := by decide +kernel
theorem dX9_plan_10 : decode cX9_plan 10 = .ok (.iconst 0, 1) := by decide +kernel
theorem dX9_plan_11 : decode cX9_plan 11 = .ok (.iconst 1, 1) := by decide +kernel
theorem dX9_plan_12 : decode cX9_plan 12 = .ok (.invokestatic 97, 3) := by decide +kernel
theorem dX9_plan_15 : decode cX9_plan 15 = .ok (.ifCond .ne 5, 3) := by decide +kernel
theorem dX9_plan_18 : decode cX9_plan 18 = .ok (.iconst (-1), 1) := by decide +kernel
theorem dX9_plan_19 : decode cX9_plan 19 = .ok (.ireturn, 1) := by decide +kernel
theorem dX9_plan_20 : decode cX9_plan 20 = .ok (.bipush (-9), 2) := by decide +kernel
theorem dX9_plan_22 : decode cX9_plan 22 = .ok (.istore_n 3, 1) := by decide +kernel
theorem dX9_plan_23 : decode cX9_plan 23 = .ok (.bipush (-9), 2) := by decide +kernel
theorem dX9_plan_25 : decode cX9_plan 25 = .ok (.istore 4, 2) := by decide +kernel
theorem dX9_plan_27 : decode cX9_plan 27 = .ok (.iconst 2, 1) := by decide +kernel
theorem dX9_plan_28 : decode cX9_plan 28 = .ok (.aload_n 0, 1) := by decide +kernel
theorem dX9_plan_29 : decode cX9_plan 29 = .ok (.getfield 31, 3) := by decide +kernel
theorem dX9_plan_32 : decode cX9_plan 32 = .ok (.imul, 1) := by decide +kernel
theorem dX9_plan_33 : decode cX9_plan 33 = .ok (.iconst 1, 1) := by decide +kernel
theorem dX9_plan_34 : decode cX9_plan 34 = .ok (.isub, 1) := by decide +kernel
theorem dX9_plan_35 : decode cX9_plan 35 = .ok (.istore 5, 2) := by decide +kernel
theorem dX9_plan_37 : decode cX9_plan 37 = .ok (.iload 5, 2) := by decide +kernel
theorem dX9_plan_39 : decode cX9_plan 39 = .ok (.ifCond .le 157, 3) := by decide +kernel
theorem dX9_plan_42 : decode cX9_plan 42 = .ok (.iconst 0, 1) := by decide +kernel
theorem dX9_plan_43 : decode cX9_plan 43 = .ok (.istore 6, 2) := by decide +kernel
theorem dX9_plan_45 : decode cX9_plan 45 = .ok (.iconst 0, 1) := by decide +kernel
theorem dX9_plan_46 : decode cX9_plan 46 = .ok (.istore 7, 2) := by decide +kernel
theorem dX9_plan_48 : decode cX9_plan 48 = .ok (.iconst 0, 1) := by decide +kernel
theorem dX9_plan_49 : decode cX9_plan 49 = .ok (.istore 8, 2) := by decide +kernel
theorem dX9_plan_51 : decode cX9_plan 51 = .ok (.iload 8, 2) := by decide +kernel
theorem dX9_plan_53 : decode cX9_plan 53 = .ok (.iconst 4, 1) := by decide +kernel
theorem dX9_plan_54 : decode cX9_plan 54 = .ok (.if_icmp .ge 80, 3) := by decide +kernel
theorem dX9_plan_57 : decode cX9_plan 57 = .ok (.iload 5, 2) := by decide +kernel
theorem dX9_plan_59 : decode cX9_plan 59 = .ok (.iload 8, 2) := by decide +kernel
theorem dX9_plan_61 : decode cX9_plan 61 = .ok (.ishr, 1) := by decide +kernel
theorem dX9_plan_62 : decode cX9_plan 62 = .ok (.iconst 1, 1) := by decide +kernel
theorem dX9_plan_63 : decode cX9_plan 63 = .ok (.iand, 1) := by decide +kernel
theorem dX9_plan_64 : decode cX9_plan 64 = .ok (.iconst 1, 1) := by decide +kernel
theorem dX9_plan_65 : decode cX9_plan 65 = .ok (.if_icmp .ne 7, 3) := by decide +kernel
theorem dX9_plan_68 : decode cX9_plan 68 = .ok (.iconst 1, 1) := by decide +kernel
theorem dX9_plan_69 : decode cX9_plan 69 = .ok (.goto 4, 3) := by decide +kernel
theorem dX9_plan_72 : decode cX9_plan 72 = .ok (.iconst 0, 1) := by decide +kernel
theorem dX9_plan_73 : decode cX9_plan 73 = .ok (.istore 9, 2) := by decide +kernel
theorem dX9_plan_75 : decode cX9_plan 75 = .ok (.iload 6, 2) := by decide +kernel
theorem dX9_plan_77 : decode cX9_plan 77 = .ok (.iload 9, 2) := by decide +kernel
theorem dX9_plan_79 : decode cX9_plan 79 = .ok (.ifCond .eq 18, 3) := by decide +kernel
theorem dX9_plan_82 : decode cX9_plan 82 = .ok (.iconst 1, 1) := by decide +kernel
theorem dX9_plan_83 : decode cX9_plan 83 = .ok (.iload 8, 2) := by decide +kernel
theorem dX9_plan_85 : decode cX9_plan 85 = .ok (.ishl, 1) := by decide +kernel
theorem dX9_plan_86 : decode cX9_plan 86 = .ok (.aload_n 0, 1) := by decide +kernel
theorem dX9_plan_87 : decode cX9_plan 87 = .ok (.getfield 31, 3) := by decide +kernel
theorem dX9_plan_90 : decode cX9_plan 90 = .ok (.if_icmp .ge 7, 3) := by decide +kernel
theorem dX9_plan_93 : decode cX9_plan 93 = .ok (.iconst 1, 1) := by decide +kernel
theorem dX9_plan_94 : decode cX9_plan 94 = .ok (.goto 4, 3) := by decide +kernel
theorem dX9_plan_97 : decode cX9_plan 97 = .ok (.iconst 0, 1) := by decide +kernel
theorem dX9_plan_98 : decode cX9_plan 98 = .ok (.iadd, 1) := by decide +kernel
theorem dX9_plan_99 : decode cX9_plan 99 = .ok (.istore 6, 2) := by decide +kernel
theorem dX9_plan_101 : decode cX9_plan 101 = .ok (.iload 7, 2) := by decide +kernel
theorem dX9_plan_103 : decode cX9_plan 103 = .ok (.iload 9, 2) := by decide +kernel
theorem dX9_plan_105 : decode cX9_plan 105 = .ok (.ifCond .eq 19, 3) := by decide +kernel
theorem dX9_plan_108 : decode cX9_plan 108 = .ok (.iload 8, 2) := by decide +kernel
theorem dX9_plan_110 : decode cX9_plan 110 = .ok (.ifCond .le 14, 3) := by decide +kernel
theorem dX9_plan_113 : decode cX9_plan 113 = .ok (.aload_n 0, 1) := by decide +kernel
theorem dX9_plan_114 : decode cX9_plan 114 = .ok (.iconst 1, 1) := by decide +kernel
theorem dX9_plan_115 : decode cX9_plan 115 = .ok (.iload 8, 2) := by decide +kernel
theorem dX9_plan_117 : decode cX9_plan 117 = .ok (.ishl, 1) := by decide +kernel
theorem dX9_plan_118 : decode cX9_plan 118 = .ok (.invokevirtual 181, 3) := by decide +kernel
theorem dX9_plan_121 : decode cX9_plan 121 = .ok (.goto 4, 3) := by decide +kernel
theorem dX9_plan_124 : decode cX9_plan 124 = .ok (.iconst 0, 1) := by decide +kernel
theorem dX9_plan_125 : decode cX9_plan 125 = .ok (.iadd, 1) := by decide +kernel
theorem dX9_plan_126 : decode cX9_plan 126 = .ok (.istore 7, 2) := by decide +kernel
theorem dX9_plan_128 : decode cX9_plan 128 = .ok (.iinc 8 1, 3) := by decide +kernel
theorem dX9_plan_131 : decode cX9_plan 131 = .ok (.goto (-80), 3) := by decide +kernel
theorem dX9_plan_134 : decode cX9_plan 134 = .ok (.iload 5, 2) := by decide +kernel
theorem dX9_plan_136 : decode cX9_plan 136 = .ok (.iconst 1, 1) := by decide +kernel
theorem dX9_plan_137 : decode cX9_plan 137 = .ok (.iand, 1) := by decide +kernel
theorem dX9_plan_138 : decode cX9_plan 138 = .ok (.iconst 1, 1) := by decide +kernel
theorem dX9_plan_139 : decode cX9_plan 139 = .ok (.if_icmp .ne 23, 3) := by decide +kernel
theorem dX9_plan_142 : decode cX9_plan 142 = .ok (.iload 5, 2) := by decide +kernel
theorem dX9_plan_144 : decode cX9_plan 144 = .ok (.aload_n 0, 1) := by decide +kernel
theorem dX9_plan_145 : decode cX9_plan 145 = .ok (.getfield 31, 3) := by decide +kernel
theorem dX9_plan_148 : decode cX9_plan 148 = .ok (.iand, 1) := by decide +kernel
theorem dX9_plan_149 : decode cX9_plan 149 = .ok (.ifCond .eq 13, 3) := by decide +kernel
theorem dX9_plan_152 : decode cX9_plan 152 = .ok (.iload 6, 2) := by decide +kernel
theorem dX9_plan_154 : decode cX9_plan 154 = .ok (.iload_n 1, 1) := by decide +kernel
theorem dX9_plan_155 : decode cX9_plan 155 = .ok (.if_icmp .gt 7, 3) := by decide +kernel
theorem dX9_plan_158 : decode cX9_plan 158 = .ok (.iconst 1, 1) := by decide +kernel
theorem dX9_plan_159 : decode cX9_plan 159 = .ok (.goto 4, 3) := by decide +kernel
theorem dX9_plan_162 : decode cX9_plan 162 = .ok (.iconst 0, 1) := by decide +kernel
theorem dX9_plan_163 : decode cX9_plan 163 = .ok (.istore 8, 2) := by decide +kernel
theorem dX9_plan_165 : decode cX9_plan 165 = .ok (.iload 8, 2) := by decide +kernel
theorem dX9_plan_167 : decode cX9_plan 167 = .ok (.ifCond .eq 23, 3) := by decide +kernel
theorem dX9_plan_170 : decode cX9_plan 170 = .ok (.iload_n 3, 1) := by decide +kernel
theorem dX9_plan_171 : decode cX9_plan 171 = .ok (.bipush (-9), 2) := by decide +kernel
theorem dX9_plan_173 : decode cX9_plan 173 = .ok (.if_icmp .eq 10, 3) := by decide +kernel
theorem dX9_plan_176 : decode cX9_plan 176 = .ok (.iload 7, 2) := by decide +kernel
theorem dX9_plan_178 : decode cX9_plan 178 = .ok (.iload 4, 2) := by decide +kernel
theorem dX9_plan_180 : decode cX9_plan 180 = .ok (.if_icmp .ge 10, 3) := by decide +kernel
theorem dX9_plan_183 : decode cX9_plan 183 = .ok (.iload 5, 2) := by decide +kernel
theorem dX9_plan_185 : decode cX9_plan 185 = .ok (.istore_n 3, 1) := by decide +kernel
theorem dX9_plan_186 : decode cX9_plan 186 = .ok (.iload 7, 2) := by decide +kernel
theorem dX9_plan_188 : decode cX9_plan 188 = .ok (.istore 4, 2) := by decide +kernel
theorem dX9_plan_190 : decode cX9_plan 190 = .ok (.iinc 5 (-1), 3) := by decide +kernel
theorem dX9_plan_193 : decode cX9_plan 193 = .ok (.goto (-156), 3) := by decide +kernel
theorem dX9_plan_196 : decode cX9_plan 196 = .ok (.iload_n 2, 1) := by decide +kernel
theorem dX9_plan_197 : decode cX9_plan 197 = .ok (.ifCond .ne 8, 3) := by decide +kernel
theorem dX9_plan_200 : decode cX9_plan 200 = .ok (.iload 4, 2) := by decide +kernel
theorem dX9_plan_202 : decode cX9_plan 202 = .ok (.goto 4, 3) := by decide +kernel
theorem dX9_plan_205 : decode cX9_plan 205 = .ok (.iload_n 3, 1) := by decide +kernel
theorem dX9_plan_206 : decode cX9_plan 206 = .ok (.ireturn, 1) := by decide +kernel
theorem dX9_ways_0 : decode cX9_ways 0 = .ok (.iconst 0, 1) := by decide +kernel
theorem dX9_ways_1 : decode cX9_ways 1 = .ok (.istore 4, 2) := by decide +kernel
theorem dX9_ways_3 : decode cX9_ways 3 = .ok (.iconst 0, 1) := by decide +kernel
theorem dX9_ways_4 : decode cX9_ways 4 = .ok (.istore 5, 2) := by decide +kernel
theorem dX9_ways_6 : decode cX9_ways 6 = .ok (.iload 5, 2) := by decide +kernel
theorem dX9_ways_8 : decode cX9_ways 8 = .ok (.bipush 8, 2) := by decide +kernel
theorem dX9_ways_10 : decode cX9_ways 10 = .ok (.if_icmp .ge 137, 3) := by decide +kernel
theorem dX9_ways_13 : decode cX9_ways 13 = .ok (.aload_n 0, 1) := by decide +kernel
theorem dX9_ways_14 : decode cX9_ways 14 = .ok (.getfield 16, 3) := by decide +kernel
theorem dX9_ways_17 : decode cX9_ways 17 = .ok (.iload_n 1, 1) := by decide +kernel
theorem dX9_ways_18 : decode cX9_ways 18 = .ok (.iaload, 1) := by decide +kernel
theorem dX9_ways_19 : decode cX9_ways 19 = .ok (.iload_n 3, 1) := by decide +kernel
theorem dX9_ways_20 : decode cX9_ways 20 = .ok (.if_icmp .ne 7, 3) := by decide +kernel
theorem dX9_ways_23 : decode cX9_ways 23 = .ok (.iconst 1, 1) := by decide +kernel
theorem dX9_ways_24 : decode cX9_ways 24 = .ok (.goto 4, 3) := by decide +kernel
theorem dX9_ways_27 : decode cX9_ways 27 = .ok (.iconst 0, 1) := by decide +kernel
theorem dX9_ways_28 : decode cX9_ways 28 = .ok (.istore 6, 2) := by decide +kernel
theorem dX9_ways_30 : decode cX9_ways 30 = .ok (.iconst 0, 1) := by decide +kernel
theorem dX9_ways_31 : decode cX9_ways 31 = .ok (.istore 7, 2) := by decide +kernel
theorem dX9_ways_33 : decode cX9_ways 33 = .ok (.iload 7, 2) := by decide +kernel
theorem dX9_ways_35 : decode cX9_ways 35 = .ok (.iload_n 3, 1) := by decide +kernel
theorem dX9_ways_36 : decode cX9_ways 36 = .ok (.if_icmp .ge 87, 3) := by decide +kernel
theorem dX9_ways_39 : decode cX9_ways 39 = .ok (.iload 6, 2) := by decide +kernel
theorem dX9_ways_41 : decode cX9_ways 41 = .ok (.ifCond .eq 82, 3) := by decide +kernel
theorem dX9_ways_44 : decode cX9_ways 44 = .ok (.iconst 0, 1) := by decide +kernel
theorem dX9_ways_45 : decode cX9_ways 45 = .ok (.istore 8, 2) := by decide +kernel
theorem dX9_ways_47 : decode cX9_ways 47 = .ok (.iload 8, 2) := by decide +kernel
theorem dX9_ways_49 : decode cX9_ways 49 = .ok (.iload_n 3, 1) := by decide +kernel
theorem dX9_ways_50 : decode cX9_ways 50 = .ok (.if_icmp .ge 67, 3) := by decide +kernel
theorem dX9_ways_53 : decode cX9_ways 53 = .ok (.aload_n 0, 1) := by decide +kernel
theorem dX9_ways_54 : decode cX9_ways 54 = .ok (.iload_n 2, 1) := by decide +kernel
theorem dX9_ways_55 : decode cX9_ways 55 = .ok (.iload 8, 2) := by decide +kernel
theorem dX9_ways_57 : decode cX9_ways 57 = .ok (.iload 7, 2) := by decide +kernel
theorem dX9_ways_59 : decode cX9_ways 59 = .ok (.invokevirtual 121, 3) := by decide +kernel
theorem dX9_ways_62 : decode cX9_ways 62 = .ok (.istore 9, 2) := by decide +kernel
theorem dX9_ways_64 : decode cX9_ways 64 = .ok (.iload 6, 2) := by decide +kernel
theorem dX9_ways_66 : decode cX9_ways 66 = .ok (.ifCond .eq 42, 3) := by decide +kernel
theorem dX9_ways_69 : decode cX9_ways 69 = .ok (.iload 9, 2) := by decide +kernel
theorem dX9_ways_71 : decode cX9_ways 71 = .ok (.bipush (-9), 2) := by decide +kernel
theorem dX9_ways_73 : decode cX9_ways 73 = .ok (.if_icmp .eq 31, 3) := by decide +kernel
theorem dX9_ways_76 : decode cX9_ways 76 = .ok (.iload 9, 2) := by decide +kernel
theorem dX9_ways_78 : decode cX9_ways 78 = .ok (.aload_n 0, 1) := by decide +kernel
theorem dX9_ways_79 : decode cX9_ways 79 = .ok (.iload_n 1, 1) := by decide +kernel
theorem dX9_ways_80 : decode cX9_ways 80 = .ok (.iload_n 3, 1) := by decide +kernel
theorem dX9_ways_81 : decode cX9_ways 81 = .ok (.iload 8, 2) := by decide +kernel
theorem dX9_ways_83 : decode cX9_ways 83 = .ok (.iload 7, 2) := by decide +kernel
theorem dX9_ways_85 : decode cX9_ways 85 = .ok (.iload 5, 2) := by decide +kernel
theorem dX9_ways_87 : decode cX9_ways 87 = .ok (.iload 5, 2) := by decide +kernel
theorem dX9_ways_89 : decode cX9_ways 89 = .ok (.iconst 3, 1) := by decide +kernel
theorem dX9_ways_90 : decode cX9_ways 90 = .ok (.if_icmp .le 7, 3) := by decide +kernel
theorem dX9_ways_93 : decode cX9_ways 93 = .ok (.iconst 1, 1) := by decide +kernel
theorem dX9_ways_94 : decode cX9_ways 94 = .ok (.goto 4, 3) := by decide +kernel
theorem dX9_ways_97 : decode cX9_ways 97 = .ok (.iconst 0, 1) := by decide +kernel
theorem dX9_ways_98 : decode cX9_ways 98 = .ok (.invokevirtual 147, 3) := by decide +kernel
theorem dX9_ways_101 : decode cX9_ways 101 = .ok (.if_icmp .ne 7, 3) := by decide +kernel
theorem dX9_ways_104 : decode cX9_ways 104 = .ok (.iconst 1, 1) := by decide +kernel
theorem dX9_ways_105 : decode cX9_ways 105 = .ok (.goto 4, 3) := by decide +kernel
theorem dX9_ways_108 : decode cX9_ways 108 = .ok (.iconst 0, 1) := by decide +kernel
theorem dX9_ways_109 : decode cX9_ways 109 = .ok (.istore 6, 2) := by decide +kernel
theorem dX9_ways_111 : decode cX9_ways 111 = .ok (.iinc 8 1, 3) := by decide +kernel
theorem dX9_ways_114 : decode cX9_ways 114 = .ok (.goto (-67), 3) := by decide +kernel
theorem dX9_ways_117 : decode cX9_ways 117 = .ok (.iinc 7 1, 3) := by decide +kernel
theorem dX9_ways_120 : decode cX9_ways 120 = .ok (.goto (-87), 3) := by decide +kernel
theorem dX9_ways_123 : decode cX9_ways 123 = .ok (.iload 4, 2) := by decide +kernel
theorem dX9_ways_125 : decode cX9_ways 125 = .ok (.iload 6, 2) := by decide +kernel
theorem dX9_ways_127 : decode cX9_ways 127 = .ok (.ifCond .eq 10, 3) := by decide +kernel
theorem dX9_ways_130 : decode cX9_ways 130 = .ok (.iconst 1, 1) := by decide +kernel
theorem dX9_ways_131 : decode cX9_ways 131 = .ok (.iload 5, 2) := by decide +kernel
theorem dX9_ways_133 : decode cX9_ways 133 = .ok (.ishl, 1) := by decide +kernel
theorem dX9_ways_134 : decode cX9_ways 134 = .ok (.goto 4, 3) := by decide +kernel
theorem dX9_ways_137 : decode cX9_ways 137 = .ok (.iconst 0, 1) := by decide +kernel
theorem dX9_ways_138 : decode cX9_ways 138 = .ok (.ior, 1) := by decide +kernel
theorem dX9_ways_139 : decode cX9_ways 139 = .ok (.istore 4, 2) := by decide +kernel
theorem dX9_ways_141 : decode cX9_ways 141 = .ok (.iinc 5 1, 3) := by decide +kernel
theorem dX9_ways_144 : decode cX9_ways 144 = .ok (.goto (-138), 3) := by decide +kernel
theorem dX9_ways_147 : decode cX9_ways 147 = .ok (.iload 4, 2) := by decide +kernel
theorem dX9_ways_149 : decode cX9_ways 149 = .ok (.ireturn, 1) := by decide +kernel
theorem dX9_made_0 : decode cX9_made 0 = .ok (.aload_n 0, 1) := by decide +kernel
theorem dX9_made_1 : decode cX9_made 1 = .ok (.iload_n 1, 1) := by decide +kernel
theorem dX9_made_2 : decode cX9_made 2 = .ok (.invokevirtual 104, 3) := by decide +kernel
theorem dX9_made_5 : decode cX9_made 5 = .ok (.ifCond .eq 17, 3) := by decide +kernel
theorem dX9_made_8 : decode cX9_made 8 = .ok (.aload_n 0, 1) := by decide +kernel
theorem dX9_made_9 : decode cX9_made 9 = .ok (.iload_n 1, 1) := by decide +kernel
theorem dX9_made_10 : decode cX9_made 10 = .ok (.bipush 16, 2) := by decide +kernel
theorem dX9_made_12 : decode cX9_made 12 = .ok (.aload_n 0, 1) := by decide +kernel
theorem dX9_made_13 : decode cX9_made 13 = .ok (.getfield 31, 3) := by decide +kernel
theorem dX9_made_16 : decode cX9_made 16 = .ok (.invokevirtual 184, 3) := by decide +kernel
theorem dX9_made_19 : decode cX9_made 19 = .ok (.goto 4, 3) := by decide +kernel
theorem dX9_made_22 : decode cX9_made 22 = .ok (.iconst (-1), 1) := by decide +kernel
theorem dX9_made_23 : decode cX9_made 23 = .ok (.ireturn, 1) := by decide +kernel
theorem dX9_slice_0 : decode cX9_slice 0 = .ok (.iload_n 1, 1) := by decide +kernel
theorem dX9_slice_1 : decode cX9_slice 1 = .ok (.iconst 1, 1) := by decide +kernel
theorem dX9_slice_2 : decode cX9_slice 2 = .ok (.bipush 8, 2) := by decide +kernel
theorem dX9_slice_4 : decode cX9_slice 4 = .ok (.invokestatic 97, 3) := by decide +kernel
theorem dX9_slice_7 : decode cX9_slice 7 = .ok (.ifCond .ne 5, 3) := by decide +kernel
theorem dX9_slice_10 : decode cX9_slice 10 = .ok (.iconst (-1), 1) := by decide +kernel
theorem dX9_slice_11 : decode cX9_slice 11 = .ok (.ireturn, 1) := by decide +kernel
theorem dX9_slice_12 : decode cX9_slice 12 = .ok (.aload_n 0, 1) := by decide +kernel
theorem dX9_slice_13 : decode cX9_slice 13 = .ok (.iload_n 1, 1) := by decide +kernel
theorem dX9_slice_14 : decode cX9_slice 14 = .ok (.putfield 35, 3) := by decide +kernel
theorem dX9_slice_17 : decode cX9_slice 17 = .ok (.iconst 0, 1) := by decide +kernel
theorem dX9_slice_18 : decode cX9_slice 18 = .ok (.istore_n 2, 1) := by decide +kernel
theorem dX9_slice_19 : decode cX9_slice 19 = .ok (.iload_n 2, 1) := by decide +kernel
theorem dX9_slice_20 : decode cX9_slice 20 = .ok (.bipush 64, 2) := by decide +kernel
theorem dX9_slice_22 : decode cX9_slice 22 = .ok (.if_icmp .ge 21, 3) := by decide +kernel
theorem dX9_slice_25 : decode cX9_slice 25 = .ok (.aload_n 0, 1) := by decide +kernel
theorem dX9_slice_26 : decode cX9_slice 26 = .ok (.getfield 28, 3) := by decide +kernel
theorem dX9_slice_29 : decode cX9_slice 29 = .ok (.sipush 1088, 3) := by decide +kernel
theorem dX9_slice_32 : decode cX9_slice 32 = .ok (.iload_n 2, 1) := by decide +kernel
theorem dX9_slice_33 : decode cX9_slice 33 = .ok (.iadd, 1) := by decide +kernel
theorem dX9_slice_34 : decode cX9_slice 34 = .ok (.bipush (-9), 2) := by decide +kernel
theorem dX9_slice_36 : decode cX9_slice 36 = .ok (.iastore, 1) := by decide +kernel
theorem dX9_slice_37 : decode cX9_slice 37 = .ok (.iinc 2 1, 3) := by decide +kernel
theorem dX9_slice_40 : decode cX9_slice 40 = .ok (.goto (-21), 3) := by decide +kernel
theorem dX9_slice_43 : decode cX9_slice 43 = .ok (.iload_n 1, 1) := by decide +kernel
theorem dX9_slice_44 : decode cX9_slice 44 = .ok (.ireturn, 1) := by decide +kernel
theorem dX9_see_0 : decode cX9_see 0 = .ok (.iload_n 1, 1) := by decide +kernel
theorem dX9_see_1 : decode cX9_see 1 = .ok (.iconst 0, 1) := by decide +kernel
theorem dX9_see_2 : decode cX9_see 2 = .ok (.aload_n 0, 1) := by decide +kernel
theorem dX9_see_3 : decode cX9_see 3 = .ok (.getfield 35, 3) := by decide +kernel
theorem dX9_see_6 : decode cX9_see 6 = .ok (.iconst 1, 1) := by decide +kernel
theorem dX9_see_7 : decode cX9_see 7 = .ok (.isub, 1) := by decide +kernel
theorem dX9_see_8 : decode cX9_see 8 = .ok (.invokestatic 97, 3) := by decide +kernel
theorem dX9_see_11 : decode cX9_see 11 = .ok (.ifCond .eq 33, 3) := by decide +kernel
theorem dX9_see_14 : decode cX9_see 14 = .ok (.iload_n 2, 1) := by decide +kernel
theorem dX9_see_15 : decode cX9_see 15 = .ok (.iconst 0, 1) := by decide +kernel
theorem dX9_see_16 : decode cX9_see 16 = .ok (.aload_n 0, 1) := by decide +kernel
theorem dX9_see_17 : decode cX9_see 17 = .ok (.getfield 35, 3) := by decide +kernel
theorem dX9_see_20 : decode cX9_see 20 = .ok (.iconst 1, 1) := by decide +kernel
theorem dX9_see_21 : decode cX9_see 21 = .ok (.isub, 1) := by decide +kernel
theorem dX9_see_22 : decode cX9_see 22 = .ok (.invokestatic 97, 3) := by decide +kernel
theorem dX9_see_25 : decode cX9_see 25 = .ok (.ifCond .eq 19, 3) := by decide +kernel
theorem dX9_see_28 : decode cX9_see 28 = .ok (.iload_n 3, 1) := by decide +kernel
theorem dX9_see_29 : decode cX9_see 29 = .ok (.bipush (-9), 2) := by decide +kernel
theorem dX9_see_31 : decode cX9_see 31 = .ok (.if_icmp .eq 16, 3) := by decide +kernel
theorem dX9_see_34 : decode cX9_see 34 = .ok (.iload_n 3, 1) := by decide +kernel
theorem dX9_see_35 : decode cX9_see 35 = .ok (.iconst 0, 1) := by decide +kernel
theorem dX9_see_36 : decode cX9_see 36 = .ok (.bipush 8, 2) := by decide +kernel
theorem dX9_see_38 : decode cX9_see 38 = .ok (.invokestatic 97, 3) := by decide +kernel
theorem dX9_see_41 : decode cX9_see 41 = .ok (.ifCond .ne 6, 3) := by decide +kernel
theorem dX9_see_44 : decode cX9_see 44 = .ok (.bipush (-2), 2) := by decide +kernel
theorem dX9_see_46 : decode cX9_see 46 = .ok (.ireturn, 1) := by decide +kernel
theorem dX9_see_47 : decode cX9_see 47 = .ok (.aload_n 0, 1) := by decide +kernel
theorem dX9_see_48 : decode cX9_see 48 = .ok (.bipush 17, 2) := by decide +kernel
theorem dX9_see_50 : decode cX9_see 50 = .ok (.iload_n 1, 1) := by decide +kernel
theorem dX9_see_51 : decode cX9_see 51 = .ok (.iload_n 2, 1) := by decide +kernel
theorem dX9_see_52 : decode cX9_see 52 = .ok (.invokevirtual 121, 3) := by decide +kernel
theorem dX9_see_55 : decode cX9_see 55 = .ok (.istore 4, 2) := by decide +kernel
theorem dX9_see_57 : decode cX9_see 57 = .ok (.aload_n 0, 1) := by decide +kernel
theorem dX9_see_58 : decode cX9_see 58 = .ok (.bipush 17, 2) := by decide +kernel
theorem dX9_see_60 : decode cX9_see 60 = .ok (.iload_n 1, 1) := by decide +kernel
theorem dX9_see_61 : decode cX9_see 61 = .ok (.iload_n 2, 1) := by decide +kernel
theorem dX9_see_62 : decode cX9_see 62 = .ok (.iload_n 3, 1) := by decide +kernel
theorem dX9_see_63 : decode cX9_see 63 = .ok (.invokevirtual 111, 3) := by decide +kernel
theorem dX9_see_66 : decode cX9_see 66 = .ok (.iload 4, 2) := by decide +kernel
theorem dX9_see_68 : decode cX9_see 68 = .ok (.ireturn, 1) := by decide +kernel
theorem dX9_fits_0 : decode cX9_fits 0 = .ok (.aload_n 0, 1) := by decide +kernel
theorem dX9_fits_1 : decode cX9_fits 1 = .ok (.iload_n 1, 1) := by decide +kernel
theorem dX9_fits_2 : decode cX9_fits 2 = .ok (.invokevirtual 104, 3) := by decide +kernel
theorem dX9_fits_5 : decode cX9_fits 5 = .ok (.ifCond .eq 17, 3) := by decide +kernel
theorem dX9_fits_8 : decode cX9_fits 8 = .ok (.aload_n 0, 1) := by decide +kernel
theorem dX9_fits_9 : decode cX9_fits 9 = .ok (.iload_n 1, 1) := by decide +kernel
theorem dX9_fits_10 : decode cX9_fits 10 = .ok (.bipush 17, 2) := by decide +kernel
theorem dX9_fits_12 : decode cX9_fits 12 = .ok (.aload_n 0, 1) := by decide +kernel
theorem dX9_fits_13 : decode cX9_fits 13 = .ok (.getfield 35, 3) := by decide +kernel
theorem dX9_fits_16 : decode cX9_fits 16 = .ok (.invokevirtual 184, 3) := by decide +kernel
theorem dX9_fits_19 : decode cX9_fits 19 = .ok (.goto 4, 3) := by decide +kernel
theorem dX9_fits_22 : decode cX9_fits 22 = .ok (.iconst (-1), 1) := by decide +kernel
theorem dX9_fits_23 : decode cX9_fits 23 = .ok (.ireturn, 1) := by decide +kernel
theorem dX9_whose_0 : decode cX9_whose 0 = .ok (.iconst 0, 1) := by decide +kernel
theorem dX9_whose_1 : decode cX9_whose 1 = .ok (.istore_n 1, 1) := by decide +kernel
theorem dX9_whose_2 : decode cX9_whose 2 = .ok (.iconst 0, 1) := by decide +kernel
theorem dX9_whose_3 : decode cX9_whose 3 = .ok (.istore_n 2, 1) := by decide +kernel
theorem dX9_whose_4 : decode cX9_whose 4 = .ok (.iload_n 2, 1) := by decide +kernel
theorem dX9_whose_5 : decode cX9_whose 5 = .ok (.aload_n 0, 1) := by decide +kernel
theorem dX9_whose_6 : decode cX9_whose 6 = .ok (.getfield 101, 3) := by decide +kernel
theorem dX9_whose_9 : decode cX9_whose 9 = .ok (.if_icmp .ge 33, 3) := by decide +kernel
theorem dX9_whose_12 : decode cX9_whose 12 = .ok (.iload_n 1, 1) := by decide +kernel
theorem dX9_whose_13 : decode cX9_whose 13 = .ok (.aload_n 0, 1) := by decide +kernel
theorem dX9_whose_14 : decode cX9_whose 14 = .ok (.iload_n 2, 1) := by decide +kernel
theorem dX9_whose_15 : decode cX9_whose 15 = .ok (.bipush 17, 2) := by decide +kernel
theorem dX9_whose_17 : decode cX9_whose 17 = .ok (.aload_n 0, 1) := by decide +kernel
theorem dX9_whose_18 : decode cX9_whose 18 = .ok (.getfield 35, 3) := by decide +kernel
theorem dX9_whose_21 : decode cX9_whose 21 = .ok (.invokevirtual 184, 3) := by decide +kernel
theorem dX9_whose_24 : decode cX9_whose 24 = .ok (.ifCond .eq 9, 3) := by decide +kernel
theorem dX9_whose_27 : decode cX9_whose 27 = .ok (.iconst 1, 1) := by decide +kernel
theorem dX9_whose_28 : decode cX9_whose 28 = .ok (.iload_n 2, 1) := by decide +kernel
theorem dX9_whose_29 : decode cX9_whose 29 = .ok (.ishl, 1) := by decide +kernel
theorem dX9_whose_30 : decode cX9_whose 30 = .ok (.goto 4, 3) := by decide +kernel
theorem dX9_whose_33 : decode cX9_whose 33 = .ok (.iconst 0, 1) := by decide +kernel
theorem dX9_whose_34 : decode cX9_whose 34 = .ok (.ior, 1) := by decide +kernel
theorem dX9_whose_35 : decode cX9_whose 35 = .ok (.istore_n 1, 1) := by decide +kernel
theorem dX9_whose_36 : decode cX9_whose 36 = .ok (.iinc 2 1, 3) := by decide +kernel
theorem dX9_whose_39 : decode cX9_whose 39 = .ok (.goto (-35), 3) := by decide +kernel
theorem dX9_whose_42 : decode cX9_whose 42 = .ok (.iload_n 1, 1) := by decide +kernel
theorem dX9_whose_43 : decode cX9_whose 43 = .ok (.ireturn, 1) := by decide +kernel
theorem dX9_hasColumns_0 : decode cX9_hasColumns 0 = .ok (.iconst 1, 1) := by decide +kernel
theorem dX9_hasColumns_1 : decode cX9_hasColumns 1 = .ok (.istore 5, 2) := by decide +kernel
theorem dX9_hasColumns_3 : decode cX9_hasColumns 3 = .ok (.iload_n 3, 1) := by decide +kernel
theorem dX9_hasColumns_4 : decode cX9_hasColumns 4 = .ok (.istore 6, 2) := by decide +kernel
theorem dX9_hasColumns_6 : decode cX9_hasColumns 6 = .ok (.iload 6, 2) := by decide +kernel
theorem dX9_hasColumns_8 : decode cX9_hasColumns 8 = .ok (.iload 4, 2) := by decide +kernel
theorem dX9_hasColumns_10 : decode cX9_hasColumns 10 = .ok (.if_icmp .ge 78, 3) := by decide +kernel
theorem dX9_hasColumns_13 : decode cX9_hasColumns 13 = .ok (.iconst 0, 1) := by decide +kernel
theorem dX9_hasColumns_14 : decode cX9_hasColumns 14 = .ok (.istore 7, 2) := by decide +kernel
theorem dX9_hasColumns_16 : decode cX9_hasColumns 16 = .ok (.iload 7, 2) := by decide +kernel
theorem dX9_hasColumns_18 : decode cX9_hasColumns 18 = .ok (.aload_n 0, 1) := by decide +kernel
theorem dX9_hasColumns_19 : decode cX9_hasColumns 19 = .ok (.getfield 35, 3) := by decide +kernel
theorem dX9_hasColumns_22 : decode cX9_hasColumns 22 = .ok (.if_icmp .ge 60, 3) := by decide +kernel
theorem dX9_hasColumns_25 : decode cX9_hasColumns 25 = .ok (.aload_n 0, 1) := by decide +kernel
theorem dX9_hasColumns_26 : decode cX9_hasColumns 26 = .ok (.bipush 17, 2) := by decide +kernel
theorem dX9_hasColumns_28 : decode cX9_hasColumns 28 = .ok (.iload 6, 2) := by decide +kernel
theorem dX9_hasColumns_30 : decode cX9_hasColumns 30 = .ok (.iload 7, 2) := by decide +kernel
theorem dX9_hasColumns_32 : decode cX9_hasColumns 32 = .ok (.invokevirtual 121, 3) := by decide +kernel
theorem dX9_hasColumns_35 : decode cX9_hasColumns 35 = .ok (.istore 8, 2) := by decide +kernel
theorem dX9_hasColumns_37 : decode cX9_hasColumns 37 = .ok (.iload 5, 2) := by decide +kernel
theorem dX9_hasColumns_39 : decode cX9_hasColumns 39 = .ok (.ifCond .eq 34, 3) := by decide +kernel
theorem dX9_hasColumns_42 : decode cX9_hasColumns 42 = .ok (.iload 8, 2) := by decide +kernel
theorem dX9_hasColumns_44 : decode cX9_hasColumns 44 = .ok (.bipush (-9), 2) := by decide +kernel
theorem dX9_hasColumns_46 : decode cX9_hasColumns 46 = .ok (.if_icmp .eq 23, 3) := by decide +kernel
theorem dX9_hasColumns_49 : decode cX9_hasColumns 49 = .ok (.iload 8, 2) := by decide +kernel
theorem dX9_hasColumns_51 : decode cX9_hasColumns 51 = .ok (.aload_n 0, 1) := by decide +kernel
theorem dX9_hasColumns_52 : decode cX9_hasColumns 52 = .ok (.iload_n 1, 1) := by decide +kernel
theorem dX9_hasColumns_53 : decode cX9_hasColumns 53 = .ok (.aload_n 0, 1) := by decide +kernel
theorem dX9_hasColumns_54 : decode cX9_hasColumns 54 = .ok (.getfield 35, 3) := by decide +kernel
theorem dX9_hasColumns_57 : decode cX9_hasColumns 57 = .ok (.iload 6, 2) := by decide +kernel
theorem dX9_hasColumns_59 : decode cX9_hasColumns 59 = .ok (.iload 7, 2) := by decide +kernel
theorem dX9_hasColumns_61 : decode cX9_hasColumns 61 = .ok (.iload_n 2, 1) := by decide +kernel
theorem dX9_hasColumns_62 : decode cX9_hasColumns 62 = .ok (.iconst 0, 1) := by decide +kernel
theorem dX9_hasColumns_63 : decode cX9_hasColumns 63 = .ok (.invokevirtual 147, 3) := by decide +kernel
theorem dX9_hasColumns_66 : decode cX9_hasColumns 66 = .ok (.if_icmp .ne 7, 3) := by decide +kernel
theorem dX9_hasColumns_69 : decode cX9_hasColumns 69 = .ok (.iconst 1, 1) := by decide +kernel
theorem dX9_hasColumns_70 : decode cX9_hasColumns 70 = .ok (.goto 4, 3) := by decide +kernel
theorem dX9_hasColumns_73 : decode cX9_hasColumns 73 = .ok (.iconst 0, 1) := by decide +kernel
theorem dX9_hasColumns_74 : decode cX9_hasColumns 74 = .ok (.istore 5, 2) := by decide +kernel
theorem dX9_hasColumns_76 : decode cX9_hasColumns 76 = .ok (.iinc 7 1, 3) := by decide +kernel
theorem dX9_hasColumns_79 : decode cX9_hasColumns 79 = .ok (.goto (-63), 3) := by decide +kernel
theorem dX9_hasColumns_82 : decode cX9_hasColumns 82 = .ok (.iinc 6 1, 3) := by decide +kernel
theorem dX9_hasColumns_85 : decode cX9_hasColumns 85 = .ok (.goto (-79), 3) := by decide +kernel
theorem dX9_hasColumns_88 : decode cX9_hasColumns 88 = .ok (.iload 5, 2) := by decide +kernel
theorem dX9_hasColumns_90 : decode cX9_hasColumns 90 = .ok (.ireturn, 1) := by decide +kernel
theorem dX9_two_0 : decode cX9_two 0 = .ok (.aload_n 0, 1) := by decide +kernel
theorem dX9_two_1 : decode cX9_two 1 = .ok (.iload_n 1, 1) := by decide +kernel
theorem dX9_two_2 : decode cX9_two 2 = .ok (.invokevirtual 104, 3) := by decide +kernel
theorem dX9_two_5 : decode cX9_two 5 = .ok (.ifCond .eq 11, 3) := by decide +kernel
theorem dX9_two_8 : decode cX9_two 8 = .ok (.aload_n 0, 1) := by decide +kernel
theorem dX9_two_9 : decode cX9_two 9 = .ok (.iload_n 2, 1) := by decide +kernel
theorem dX9_two_10 : decode cX9_two 10 = .ok (.invokevirtual 104, 3) := by decide +kernel
theorem dX9_two_13 : decode cX9_two 13 = .ok (.ifCond .ne 5, 3) := by decide +kernel
theorem dX9_two_16 : decode cX9_two 16 = .ok (.iconst (-1), 1) := by decide +kernel
theorem dX9_two_17 : decode cX9_two 17 = .ok (.ireturn, 1) := by decide +kernel
theorem dX9_two_18 : decode cX9_two 18 = .ok (.aload_n 0, 1) := by decide +kernel
theorem dX9_two_19 : decode cX9_two 19 = .ok (.getfield 16, 3) := by decide +kernel
theorem dX9_two_22 : decode cX9_two 22 = .ok (.iload_n 1, 1) := by decide +kernel
theorem dX9_two_23 : decode cX9_two 23 = .ok (.iaload, 1) := by decide +kernel
theorem dX9_two_24 : decode cX9_two 24 = .ok (.aload_n 0, 1) := by decide +kernel
theorem dX9_two_25 : decode cX9_two 25 = .ok (.getfield 35, 3) := by decide +kernel
theorem dX9_two_28 : decode cX9_two 28 = .ok (.if_icmp .ne 16, 3) := by decide +kernel
theorem dX9_two_31 : decode cX9_two 31 = .ok (.aload_n 0, 1) := by decide +kernel
theorem dX9_two_32 : decode cX9_two 32 = .ok (.getfield 16, 3) := by decide +kernel
theorem dX9_two_35 : decode cX9_two 35 = .ok (.iload_n 2, 1) := by decide +kernel
theorem dX9_two_36 : decode cX9_two 36 = .ok (.iaload, 1) := by decide +kernel
theorem dX9_two_37 : decode cX9_two 37 = .ok (.aload_n 0, 1) := by decide +kernel
theorem dX9_two_38 : decode cX9_two 38 = .ok (.getfield 35, 3) := by decide +kernel
theorem dX9_two_41 : decode cX9_two 41 = .ok (.if_icmp .eq 5, 3) := by decide +kernel
theorem dX9_two_44 : decode cX9_two 44 = .ok (.iconst 0, 1) := by decide +kernel
theorem dX9_two_45 : decode cX9_two 45 = .ok (.ireturn, 1) := by decide +kernel
theorem dX9_two_46 : decode cX9_two 46 = .ok (.iconst 0, 1) := by decide +kernel
theorem dX9_two_47 : decode cX9_two 47 = .ok (.istore_n 3, 1) := by decide +kernel
theorem dX9_two_48 : decode cX9_two 48 = .ok (.iconst 1, 1) := by decide +kernel
theorem dX9_two_49 : decode cX9_two 49 = .ok (.istore 4, 2) := by decide +kernel
theorem dX9_two_51 : decode cX9_two 51 = .ok (.iload 4, 2) := by decide +kernel
theorem dX9_two_53 : decode cX9_two 53 = .ok (.aload_n 0, 1) := by decide +kernel
theorem dX9_two_54 : decode cX9_two 54 = .ok (.getfield 35, 3) := by decide +kernel
theorem dX9_two_57 : decode cX9_two 57 = .ok (.if_icmp .ge 66, 3) := by decide +kernel
theorem dX9_two_60 : decode cX9_two 60 = .ok (.iconst 0, 1) := by decide +kernel
theorem dX9_two_61 : decode cX9_two 61 = .ok (.istore 5, 2) := by decide +kernel
theorem dX9_two_63 : decode cX9_two 63 = .ok (.iload 5, 2) := by decide +kernel
theorem dX9_two_65 : decode cX9_two 65 = .ok (.bipush 16, 2) := by decide +kernel
theorem dX9_two_67 : decode cX9_two 67 = .ok (.if_icmp .ge 50, 3) := by decide +kernel
theorem dX9_two_70 : decode cX9_two 70 = .ok (.iload_n 3, 1) := by decide +kernel
theorem dX9_two_71 : decode cX9_two 71 = .ok (.aload_n 0, 1) := by decide +kernel
theorem dX9_two_72 : decode cX9_two 72 = .ok (.iload_n 1, 1) := by decide +kernel
