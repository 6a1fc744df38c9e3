theorem dX6_init_0 : decode cX6_init 0 = .ok (.aload_n 0, 1) := by decide +kernel
theorem dX6_init_1 : decode cX6_init 1 = .ok (.invokespecial 1, 3) := by decide +kernel
theorem dX6_init_4 : decode cX6_init 4 = .ok (.aload_n 0, 1) := by decide +kernel
theorem dX6_init_5 : decode cX6_init 5 = .ok (.bipush 50, 2) := by decide +kernel
theorem dX6_init_7 : decode cX6_init 7 = .ok (.newarray .int, 2) := by decide +kernel
theorem dX6_init_9 : decode cX6_init 9 = .ok (.putfield 7, 3) := by decide +kernel
theorem dX6_init_12 : decode cX6_init 12 = .ok (.aload_n 0, 1) := by decide +kernel
theorem dX6_init_13 : decode cX6_init 13 = .ok (.bipush 50, 2) := by decide +kernel
theorem dX6_init_15 : decode cX6_init 15 = .ok (.newarray .int, 2) := by decide +kernel
theorem dX6_init_17 : decode cX6_init 17 = .ok (.putfield 13, 3) := by decide +kernel
theorem dX6_init_20 : decode cX6_init 20 = .ok (.aload_n 0, 1) := by decide +kernel
theorem dX6_init_21 : decode cX6_init 21 = .ok (.bipush 18, 2) := by decide +kernel
theorem dX6_init_23 : decode cX6_init 23 = .ok (.newarray .int, 2) := by decide +kernel
theorem dX6_init_25 : decode cX6_init 25 = .ok (.putfield 16, 3) := by decide +kernel
theorem dX6_init_28 : decode cX6_init 28 = .ok (.aload_n 0, 1) := by decide +kernel
theorem dX6_init_29 : decode cX6_init 29 = .ok (.bipush 18, 2) := by decide +kernel
theorem dX6_init_31 : decode cX6_init 31 = .ok (.newarray .int, 2) := by decide +kernel
theorem dX6_init_33 : decode cX6_init 33 = .ok (.putfield 19, 3) := by decide +kernel
theorem dX6_init_36 : decode cX6_init 36 = .ok (.aload_n 0, 1) := by decide +kernel
theorem dX6_init_37 : decode cX6_init 37 = .ok (.sipush 144, 3) := by decide +kernel
theorem dX6_init_40 : decode cX6_init 40 = .ok (.newarray .int, 2) := by decide +kernel
theorem dX6_init_42 : decode cX6_init 42 = .ok (.putfield 22, 3) := by decide +kernel
theorem dX6_init_45 : decode cX6_init 45 = .ok (.aload_n 0, 1) := by decide +kernel
theorem dX6_init_46 : decode cX6_init 46 = .ok (.bipush 36, 2) := by decide +kernel
theorem dX6_init_48 : decode cX6_init 48 = .ok (.newarray .int, 2) := by decide +kernel
theorem dX6_init_50 : decode cX6_init 50 = .ok (.putfield 25, 3) := by decide +kernel
theorem dX6_init_53 : decode cX6_init 53 = .ok (.aload_n 0, 1) := by decide +kernel
theorem dX6_init_54 : decode cX6_init 54 = .ok (.sipush 200, 3) := by decide +kernel
theorem dX6_init_57 : decode cX6_init 57 = .ok (.newarray .int, 2) := by decide +kernel
theorem dX6_init_59 : decode cX6_init 59 = .ok (.putfield 28, 3) := by decide +kernel
theorem dX6_init_62 : decode cX6_init 62 = .ok (.aload_n 0, 1) := by decide +kernel
theorem dX6_init_63 : decode cX6_init 63 = .ok (.bipush 36, 2) := by decide +kernel
theorem dX6_init_65 : decode cX6_init 65 = .ok (.newarray .int, 2) := by decide +kernel
theorem dX6_init_67 : decode cX6_init 67 = .ok (.putfield 31, 3) := by decide +kernel
theorem dX6_init_70 : decode cX6_init 70 = .ok (.aload_n 0, 1) := by decide +kernel
theorem dX6_init_71 : decode cX6_init 71 = .ok (.bipush 6, 2) := by decide +kernel
theorem dX6_init_73 : decode cX6_init 73 = .ok (.newarray .int, 2) := by decide +kernel
theorem dX6_init_75 : decode cX6_init 75 = .ok (.putfield 34, 3) := by decide +kernel
theorem dX6_init_78 : decode cX6_init 78 = .ok (.aload_n 0, 1) := by decide +kernel
theorem dX6_init_79 : decode cX6_init 79 = .ok (.bipush 6, 2) := by decide +kernel
theorem dX6_init_81 : decode cX6_init 81 = .ok (.newarray .int, 2) := by decide +kernel
theorem dX6_init_83 : decode cX6_init 83 = .ok (.putfield 37, 3) := by decide +kernel
theorem dX6_init_86 : decode cX6_init 86 = .ok (.aload_n 0, 1) := by decide +kernel
theorem dX6_init_87 : decode cX6_init 87 = .ok (.invokevirtual 40, 3) := by decide +kernel
theorem dX6_init_90 : decode cX6_init 90 = .ok (.bipush 6, 2) := by decide +kernel
theorem dX6_init_92 : decode cX6_init 92 = .ok (.newarray .int, 2) := by decide +kernel
theorem dX6_init_94 : decode cX6_init 94 = .ok (.astore_n 1, 1) := by decide +kernel
theorem dX6_init_95 : decode cX6_init 95 = .ok (.aload_n 1, 1) := by decide +kernel
theorem dX6_init_96 : decode cX6_init 96 = .ok (.iconst 1, 1) := by decide +kernel
theorem dX6_init_97 : decode cX6_init 97 = .ok (.iconst 3, 1) := by decide +kernel
theorem dX6_init_98 : decode cX6_init 98 = .ok (.iastore, 1) := by decide +kernel
theorem dX6_init_99 : decode cX6_init 99 = .ok (.aload_n 1, 1) := by decide +kernel
theorem dX6_init_100 : decode cX6_init 100 = .ok (.iconst 2, 1) := by decide +kernel
theorem dX6_init_101 : decode cX6_init 101 = .ok (.iconst 1, 1) := by decide +kernel
theorem dX6_init_102 : decode cX6_init 102 = .ok (.iastore, 1) := by decide +kernel
theorem dX6_init_103 : decode cX6_init 103 = .ok (.aload_n 1, 1) := by decide +kernel
theorem dX6_init_104 : decode cX6_init 104 = .ok (.iconst 3, 1) := by decide +kernel
theorem dX6_init_105 : decode cX6_init 105 = .ok (.iconst 2, 1) := by decide +kernel
theorem dX6_init_106 : decode cX6_init 106 = .ok (.iastore, 1) := by decide +kernel
theorem dX6_init_107 : decode cX6_init 107 = .ok (.aload_n 1, 1) := by decide +kernel
theorem dX6_init_108 : decode cX6_init 108 = .ok (.iconst 4, 1) := by decide +kernel
theorem dX6_init_109 : decode cX6_init 109 = .ok (.iconst 3, 1) := by decide +kernel
theorem dX6_init_110 : decode cX6_init 110 = .ok (.iastore, 1) := by decide +kernel
theorem dX6_init_111 : decode cX6_init 111 = .ok (.iconst 0, 1) := by decide +kernel
theorem dX6_init_112 : decode cX6_init 112 = .ok (.istore_n 2, 1) := by decide +kernel
theorem dX6_init_113 : decode cX6_init 113 = .ok (.iload_n 2, 1) := by decide +kernel
theorem dX6_init_114 : decode cX6_init 114 = .ok (.bipush 6, 2) := by decide +kernel
theorem dX6_init_116 : decode cX6_init 116 = .ok (.if_icmp .ge 16, 3) := by decide +kernel
theorem dX6_init_119 : decode cX6_init 119 = .ok (.aload_n 0, 1) := by decide +kernel
theorem dX6_init_120 : decode cX6_init 120 = .ok (.aload_n 1, 1) := by decide +kernel
theorem dX6_init_121 : decode cX6_init 121 = .ok (.iload_n 2, 1) := by decide +kernel
theorem dX6_init_122 : decode cX6_init 122 = .ok (.iaload, 1) := by decide +kernel
theorem dX6_init_123 : decode cX6_init 123 = .ok (.invokevirtual 43, 3) := by decide +kernel
theorem dX6_init_126 : decode cX6_init 126 = .ok (.iinc 2 1, 3) := by decide +kernel
theorem dX6_init_129 : decode cX6_init 129 = .ok (.goto (-16), 3) := by decide +kernel
theorem dX6_init_132 : decode cX6_init 132 = .ok (.aload_n 0, 1) := by decide +kernel
theorem dX6_init_133 : decode cX6_init 133 = .ok (.iconst 0, 1) := by decide +kernel
theorem dX6_init_134 : decode cX6_init 134 = .ok (.iconst 1, 1) := by decide +kernel
theorem dX6_init_135 : decode cX6_init 135 = .ok (.invokevirtual 47, 3) := by decide +kernel
theorem dX6_init_138 : decode cX6_init 138 = .ok (.aload_n 0, 1) := by decide +kernel
theorem dX6_init_139 : decode cX6_init 139 = .ok (.iconst 1, 1) := by decide +kernel
theorem dX6_init_140 : decode cX6_init 140 = .ok (.iconst 4, 1) := by decide +kernel
theorem dX6_init_141 : decode cX6_init 141 = .ok (.invokevirtual 47, 3) := by decide +kernel
theorem dX6_init_144 : decode cX6_init 144 = .ok (.aload_n 0, 1) := by decide +kernel
theorem dX6_init_145 : decode cX6_init 145 = .ok (.iconst 0, 1) := by decide +kernel
theorem dX6_init_146 : decode cX6_init 146 = .ok (.iconst 2, 1) := by decide +kernel
theorem dX6_init_147 : decode cX6_init 147 = .ok (.invokevirtual 47, 3) := by decide +kernel
theorem dX6_init_150 : decode cX6_init 150 = .ok (.aload_n 0, 1) := by decide +kernel
theorem dX6_init_151 : decode cX6_init 151 = .ok (.iconst 2, 1) := by decide +kernel
theorem dX6_init_152 : decode cX6_init 152 = .ok (.iconst 3, 1) := by decide +kernel
theorem dX6_init_153 : decode cX6_init 153 = .ok (.invokevirtual 47, 3) := by decide +kernel
theorem dX6_init_156 : decode cX6_init 156 = .ok (.aload_n 0, 1) := by decide +kernel
theorem dX6_init_157 : decode cX6_init 157 = .ok (.iconst 3, 1) := by decide +kernel
theorem dX6_init_158 : decode cX6_init 158 = .ok (.iconst 4, 1) := by decide +kernel
theorem dX6_init_159 : decode cX6_init 159 = .ok (.invokevirtual 47, 3) := by decide +kernel
theorem dX6_init_162 : decode cX6_init 162 = .ok (.aload_n 0, 1) := by decide +kernel
theorem dX6_init_163 : decode cX6_init 163 = .ok (.iconst 4, 1) := by decide +kernel
theorem dX6_init_164 : decode cX6_init 164 = .ok (.iconst 5, 1) := by decide +kernel
theorem dX6_init_165 : decode cX6_init 165 = .ok (.invokevirtual 47, 3) := by decide +kernel
theorem dX6_init_168 : decode cX6_init 168 = .ok (.aload_n 0, 1) := by decide +kernel
theorem dX6_init_169 : decode cX6_init 169 = .ok (.iconst 0, 1) := by decide +kernel
theorem dX6_init_170 : decode cX6_init 170 = .ok (.iconst 5, 1) := by decide +kernel
theorem dX6_init_171 : decode cX6_init 171 = .ok (.invokevirtual 47, 3) := by decide +kernel
theorem dX6_init_174 : decode cX6_init 174 = .ok (.aload_n 0, 1) := by decide +kernel
theorem dX6_init_175 : decode cX6_init 175 = .ok (.iconst 3, 1) := by decide +kernel
theorem dX6_init_176 : decode cX6_init 176 = .ok (.bipush 6, 2) := by decide +kernel
theorem dX6_init_178 : decode cX6_init 178 = .ok (.iconst 2, 1) := by decide +kernel
theorem dX6_init_179 : decode cX6_init 179 = .ok (.iconst 1, 1) := by decide +kernel
theorem dX6_init_180 : decode cX6_init 180 = .ok (.invokevirtual 51, 3) := by decide +kernel
theorem dX6_init_183 : decode cX6_init 183 = .ok (.aload_n 0, 1) := by decide +kernel
theorem dX6_init_184 : decode cX6_init 184 = .ok (.iconst 5, 1) := by decide +kernel
theorem dX6_init_185 : decode cX6_init 185 = .ok (.bipush 9, 2) := by decide +kernel
theorem dX6_init_187 : decode cX6_init 187 = .ok (.iconst 3, 1) := by decide +kernel
theorem dX6_init_188 : decode cX6_init 188 = .ok (.iconst 3, 1) := by decide +kernel
theorem dX6_init_189 : decode cX6_init 189 = .ok (.invokevirtual 51, 3) := by decide +kernel
theorem dX6_init_192 : decode cX6_init 192 = .ok (.aload_n 0, 1) := by decide +kernel
theorem dX6_init_193 : decode cX6_init 193 = .ok (.iconst 0, 1) := by decide +kernel
theorem dX6_init_194 : decode cX6_init 194 = .ok (.iconst 4, 1) := by decide +kernel
theorem dX6_init_195 : decode cX6_init 195 = .ok (.iconst 1, 1) := by decide +kernel
theorem dX6_init_196 : decode cX6_init 196 = .ok (.bipush 16, 2) := by decide +kernel
theorem dX6_init_198 : decode cX6_init 198 = .ok (.invokevirtual 51, 3) := by decide +kernel
theorem dX6_init_201 : decode cX6_init 201 = .ok (.aload_n 0, 1) := by decide +kernel
theorem dX6_init_202 : decode cX6_init 202 = .ok (.iconst 2, 1) := by decide +kernel
theorem dX6_init_203 : decode cX6_init 203 = .ok (.bipush 12, 2) := by decide +kernel
theorem dX6_init_205 : decode cX6_init 205 = .ok (.iconst 4, 1) := by decide +kernel
theorem dX6_init_206 : decode cX6_init 206 = .ok (.iconst 2, 1) := by decide +kernel
theorem dX6_init_207 : decode cX6_init 207 = .ok (.invokevirtual 51, 3) := by decide +kernel
theorem dX6_init_210 : decode cX6_init 210 = .ok (.aload_n 0, 1) := by decide +kernel
theorem dX6_init_211 : decode cX6_init 211 = .ok (.iconst 1, 1) := by decide +kernel
theorem dX6_init_212 : decode cX6_init 212 = .ok (.iconst 3, 1) := by decide +kernel
theorem dX6_init_213 : decode cX6_init 213 = .ok (.iconst 2, 1) := by decide +kernel
theorem dX6_init_214 : decode cX6_init 214 = .ok (.bipush 40, 2) := by decide +kernel
theorem dX6_init_216 : decode cX6_init 216 = .ok (.invokevirtual 51, 3) := by decide +kernel
theorem dX6_init_219 : decode cX6_init 219 = .ok (.aload_n 0, 1) := by decide +kernel
theorem dX6_init_220 : decode cX6_init 220 = .ok (.iconst 4, 1) := by decide +kernel
theorem dX6_init_221 : decode cX6_init 221 = .ok (.bipush 7, 2) := by decide +kernel
theorem dX6_init_223 : decode cX6_init 223 = .ok (.iconst 1, 1) := by decide +kernel
theorem dX6_init_224 : decode cX6_init 224 = .ok (.iconst 1, 1) := by decide +kernel
theorem dX6_init_225 : decode cX6_init 225 = .ok (.invokevirtual 51, 3) := by decide +kernel
theorem dX6_init_228 : decode cX6_init 228 = .ok (.aload_n 0, 1) := by decide +kernel
theorem dX6_init_229 : decode cX6_init 229 = .ok (.iconst 0, 1) := by decide +kernel
theorem dX6_init_230 : decode cX6_init 230 = .ok (.bipush 8, 2) := by decide +kernel
theorem dX6_init_232 : decode cX6_init 232 = .ok (.iconst 3, 1) := by decide +kernel
theorem dX6_init_233 : decode cX6_init 233 = .ok (.bipush 8, 2) := by decide +kernel
theorem dX6_init_235 : decode cX6_init 235 = .ok (.invokevirtual 51, 3) := by decide +kernel
theorem dX6_init_238 : decode cX6_init 238 = .ok (.aload_n 0, 1) := by decide +kernel
theorem dX6_init_239 : decode cX6_init 239 = .ok (.invokevirtual 55, 3) := by decide +kernel
theorem dX6_init_242 : decode cX6_init 242 = .ok (.return_, 1) := by decide +kernel
theorem dX6_in_0 : decode cX6_in 0 = .ok (.lload_n 0, 1) := by decide +kernel
theorem dX6_in_1 : decode cX6_in 1 = .ok (.lload_n 2, 1) := by decide +kernel
theorem dX6_in_2 : decode cX6_in 2 = .ok (.lcmp, 1) := by decide +kernel
theorem dX6_in_3 : decode cX6_in 3 = .ok (.ifCond .lt 14, 3) := by decide +kernel
theorem dX6_in_6 : decode cX6_in 6 = .ok (.lload_n 0, 1) := by decide +kernel
theorem dX6_in_7 : decode cX6_in 7 = .ok (.lload 4, 2) := by decide +kernel
theorem dX6_in_9 : decode cX6_in 9 = .ok (.lcmp, 1) := by decide +kernel
theorem dX6_in_10 : decode cX6_in 10 = .ok (.ifCond .gt 7, 3) := by decide +kernel
theorem dX6_in_13 : decode cX6_in 13 = .ok (.iconst 1, 1) := by decide +kernel
theorem dX6_in_14 : decode cX6_in 14 = .ok (.goto 4, 3) := by decide +kernel
theorem dX6_in_17 : decode cX6_in 17 = .ok (.iconst 0, 1) := by decide +kernel
theorem dX6_in_18 : decode cX6_in 18 = .ok (.ireturn, 1) := by decide +kernel
theorem dX6_has_0 : decode cX6_has 0 = .ok (.iload_n 0, 1) := by decide +kernel
theorem dX6_has_1 : decode cX6_has 1 = .ok (.iload_n 1, 1) := by decide +kernel
theorem dX6_has_2 : decode cX6_has 2 = .ok (.ishr, 1) := by decide +kernel
theorem dX6_has_3 : decode cX6_has 3 = .ok (.iconst 1, 1) := by decide +kernel
theorem dX6_has_4 : decode cX6_has 4 = .ok (.iand, 1) := by decide +kernel
theorem dX6_has_5 : decode cX6_has 5 = .ok (.iconst 1, 1) := by decide +kernel
theorem dX6_has_6 : decode cX6_has 6 = .ok (.if_icmp .ne 7, 3) := by decide +kernel
theorem dX6_has_9 : decode cX6_has 9 = .ok (.iconst 1, 1) := by decide +kernel
theorem dX6_has_10 : decode cX6_has 10 = .ok (.goto 4, 3) := by decide +kernel
theorem dX6_has_13 : decode cX6_has 13 = .ok (.iconst 0, 1) := by decide +kernel
theorem dX6_has_14 : decode cX6_has 14 = .ok (.ireturn, 1) := by decide +kernel
theorem dX6_bits_0 : decode cX6_bits 0 = .ok (.iconst 0, 1) := by decide +kernel
theorem dX6_bits_1 : decode cX6_bits 1 = .ok (.istore_n 1, 1) := by decide +kernel
theorem dX6_bits_2 : decode cX6_bits 2 = .ok (.iload_n 0, 1) := by decide +kernel
theorem dX6_bits_3 : decode cX6_bits 3 = .ok (.istore_n 2, 1) := by decide +kernel
theorem dX6_bits_4 : decode cX6_bits 4 = .ok (.iload_n 2, 1) := by decide +kernel
theorem dX6_bits_5 : decode cX6_bits 5 = .ok (.ifCond .eq 15, 3) := by decide +kernel
theorem dX6_bits_8 : decode cX6_bits 8 = .ok (.iinc 1 1, 3) := by decide +kernel
theorem dX6_bits_11 : decode cX6_bits 11 = .ok (.iload_n 2, 1) := by decide +kernel
theorem dX6_bits_12 : decode cX6_bits 12 = .ok (.iload_n 2, 1) := by decide +kernel
theorem dX6_bits_13 : decode cX6_bits 13 = .ok (.iconst 1, 1) := by decide +kernel
theorem dX6_bits_14 : decode cX6_bits 14 = .ok (.isub, 1) := by decide +kernel
theorem dX6_bits_15 : decode cX6_bits 15 = .ok (.iand, 1) := by decide +kernel
theorem dX6_bits_16 : decode cX6_bits 16 = .ok (.istore_n 2, 1) := by decide +kernel
theorem dX6_bits_17 : decode cX6_bits 17 = .ok (.goto (-13), 3) := by decide +kernel
theorem dX6_bits_20 : decode cX6_bits 20 = .ok (.iload_n 1, 1) := by decide +kernel
theorem dX6_bits_21 : decode cX6_bits 21 = .ok (.ireturn, 1) := by decide +kernel
theorem dX6_copies_0 : decode cX6_copies 0 = .ok (.iconst 0, 1) := by decide +kernel
theorem dX6_copies_1 : decode cX6_copies 1 = .ok (.istore 5, 2) := by decide +kernel
theorem dX6_copies_3 : decode cX6_copies 3 = .ok (.iload 5, 2) := by decide +kernel
theorem dX6_copies_5 : decode cX6_copies 5 = .ok (.iload 4, 2) := by decide +kernel
theorem dX6_copies_7 : decode cX6_copies 7 = .ok (.if_icmp .ge 21, 3) := by decide +kernel
theorem dX6_copies_10 : decode cX6_copies 10 = .ok (.aload_n 2, 1) := by decide +kernel
theorem dX6_copies_11 : decode cX6_copies 11 = .ok (.iload_n 3, 1) := by decide +kernel
theorem dX6_copies_12 : decode cX6_copies 12 = .ok (.iload 5, 2) := by decide +kernel
theorem dX6_copies_14 : decode cX6_copies 14 = .ok (.iadd, 1) := by decide +kernel
theorem dX6_copies_15 : decode cX6_copies 15 = .ok (.aload_n 0, 1) := by decide +kernel
theorem dX6_copies_16 : decode cX6_copies 16 = .ok (.iload_n 1, 1) := by decide +kernel
theorem dX6_copies_17 : decode cX6_copies 17 = .ok (.iload 5, 2) := by decide +kernel
theorem dX6_copies_19 : decode cX6_copies 19 = .ok (.iadd, 1) := by decide +kernel
theorem dX6_copies_20 : decode cX6_copies 20 = .ok (.iaload, 1) := by decide +kernel
theorem dX6_copies_21 : decode cX6_copies 21 = .ok (.iastore, 1) := by decide +kernel
theorem dX6_copies_22 : decode cX6_copies 22 = .ok (.iinc 5 1, 3) := by decide +kernel
theorem dX6_copies_25 : decode cX6_copies 25 = .ok (.goto (-22), 3) := by decide +kernel
theorem dX6_copies_28 : decode cX6_copies 28 = .ok (.return_, 1) := by decide +kernel
theorem dX6_empties_0 : decode cX6_empties 0 = .ok (.iconst 0, 1) := by decide +kernel
theorem dX6_empties_1 : decode cX6_empties 1 = .ok (.istore_n 1, 1) := by decide +kernel
theorem dX6_empties_2 : decode cX6_empties 2 = .ok (.iload_n 1, 1) := by decide +kernel
theorem dX6_empties_3 : decode cX6_empties 3 = .ok (.bipush 50, 2) := by decide +kernel
theorem dX6_empties_5 : decode cX6_empties 5 = .ok (.if_icmp .ge 16, 3) := by decide +kernel
theorem dX6_empties_8 : decode cX6_empties 8 = .ok (.aload_n 0, 1) := by decide +kernel
theorem dX6_empties_9 : decode cX6_empties 9 = .ok (.getfield 13, 3) := by decide +kernel
theorem dX6_empties_12 : decode cX6_empties 12 = .ok (.iload_n 1, 1) := by decide +kernel
theorem dX6_empties_13 : decode cX6_empties 13 = .ok (.iconst 0, 1) := by decide +kernel
theorem dX6_empties_14 : decode cX6_empties 14 = .ok (.iastore, 1) := by decide +kernel
theorem dX6_empties_15 : decode cX6_empties 15 = .ok (.iinc 1 1, 3) := by decide +kernel
theorem dX6_empties_18 : decode cX6_empties 18 = .ok (.goto (-16), 3) := by decide +kernel
theorem dX6_empties_21 : decode cX6_empties 21 = .ok (.return_, 1) := by decide +kernel
theorem dX6_addsPerson_0 : decode cX6_addsPerson 0 = .ok (.aload_n 0, 1) := by decide +kernel
theorem dX6_addsPerson_1 : decode cX6_addsPerson 1 = .ok (.getfield 13, 3) := by decide +kernel
theorem dX6_addsPerson_4 : decode cX6_addsPerson 4 = .ok (.iconst 2, 1) := by decide +kernel
theorem dX6_addsPerson_5 : decode cX6_addsPerson 5 = .ok (.aload_n 0, 1) := by decide +kernel
theorem dX6_addsPerson_6 : decode cX6_addsPerson 6 = .ok (.getfield 13, 3) := by decide +kernel
theorem dX6_addsPerson_9 : decode cX6_addsPerson 9 = .ok (.iconst 0, 1) := by decide +kernel
theorem dX6_addsPerson_10 : decode cX6_addsPerson 10 = .ok (.iaload, 1) := by decide +kernel
theorem dX6_addsPerson_11 : decode cX6_addsPerson 11 = .ok (.iadd, 1) := by decide +kernel
theorem dX6_addsPerson_12 : decode cX6_addsPerson 12 = .ok (.iload_n 1, 1) := by decide +kernel
theorem dX6_addsPerson_13 : decode cX6_addsPerson 13 = .ok (.iastore, 1) := by decide +kernel
theorem dX6_addsPerson_14 : decode cX6_addsPerson 14 = .ok (.aload_n 0, 1) := by decide +kernel
theorem dX6_addsPerson_15 : decode cX6_addsPerson 15 = .ok (.getfield 13, 3) := by decide +kernel
theorem dX6_addsPerson_18 : decode cX6_addsPerson 18 = .ok (.iconst 0, 1) := by decide +kernel
theorem dX6_addsPerson_19 : decode cX6_addsPerson 19 = .ok (.dup2, 1) := by decide +kernel
theorem dX6_addsPerson_20 : decode cX6_addsPerson 20 = .ok (.iaload, 1) := by decide +kernel
theorem dX6_addsPerson_21 : decode cX6_addsPerson 21 = .ok (.iconst 1, 1) := by decide +kernel
theorem dX6_addsPerson_22 : decode cX6_addsPerson 22 = .ok (.iadd, 1) := by decide +kernel
theorem dX6_addsPerson_23 : decode cX6_addsPerson 23 = .ok (.iastore, 1) := by decide +kernel
theorem dX6_addsPerson_24 : decode cX6_addsPerson 24 = .ok (.return_, 1) := by decide +kernel
theorem dX6_befriends_0 : decode cX6_befriends 0 = .ok (.aload_n 0, 1) := by decide +kernel
theorem dX6_befriends_1 : decode cX6_befriends 1 = .ok (.getfield 13, 3) := by decide +kernel
theorem dX6_befriends_4 : decode cX6_befriends 4 = .ok (.bipush 8, 2) := by decide +kernel
theorem dX6_befriends_6 : decode cX6_befriends 6 = .ok (.iload_n 1, 1) := by decide +kernel
theorem dX6_befriends_7 : decode cX6_befriends 7 = .ok (.iadd, 1) := by decide +kernel
theorem dX6_befriends_8 : decode cX6_befriends 8 = .ok (.dup2, 1) := by decide +kernel
theorem dX6_befriends_9 : decode cX6_befriends 9 = .ok (.iaload, 1) := by decide +kernel
theorem dX6_befriends_10 : decode cX6_befriends 10 = .ok (.iconst 1, 1) := by decide +kernel
theorem dX6_befriends_11 : decode cX6_befriends 11 = .ok (.iload_n 2, 1) := by decide +kernel
theorem dX6_befriends_12 : decode cX6_befriends 12 = .ok (.ishl, 1) := by decide +kernel
theorem dX6_befriends_13 : decode cX6_befriends 13 = .ok (.ior, 1) := by decide +kernel
theorem dX6_befriends_14 : decode cX6_befriends 14 = .ok (.iastore, 1) := by decide +kernel
theorem dX6_befriends_15 : decode cX6_befriends 15 = .ok (.aload_n 0, 1) := by decide +kernel
theorem dX6_befriends_16 : decode cX6_befriends 16 = .ok (.getfield 13, 3) := by decide +kernel
theorem dX6_befriends_19 : decode cX6_befriends 19 = .ok (.bipush 8, 2) := by decide +kernel
theorem dX6_befriends_21 : decode cX6_befriends 21 = .ok (.iload_n 2, 1) := by decide +kernel
theorem dX6_befriends_22 : decode cX6_befriends 22 = .ok (.iadd, 1) := by decide +kernel
theorem dX6_befriends_23 : decode cX6_befriends 23 = .ok (.dup2, 1) := by decide +kernel
theorem dX6_befriends_24 : decode cX6_befriends 24 = .ok (.iaload, 1) := by decide +kernel
theorem dX6_befriends_25 : decode cX6_befriends 25 = .ok (.iconst 1, 1) := by decide +kernel
theorem dX6_befriends_26 : decode cX6_befriends 26 = .ok (.iload_n 1, 1) := by decide +kernel
theorem dX6_befriends_27 : decode cX6_befriends 27 = .ok (.ishl, 1) := by decide +kernel
theorem dX6_befriends_28 : decode cX6_befriends 28 = .ok (.ior, 1) := by decide +kernel
theorem dX6_befriends_29 : decode cX6_befriends 29 = .ok (.iastore, 1) := by decide +kernel
theorem dX6_befriends_30 : decode cX6_befriends 30 = .ok (.return_, 1) := by decide +kernel
theorem dX6_addsTale_0 : decode cX6_addsTale 0 = .ok (.aload_n 0, 1) := by decide +kernel
theorem dX6_addsTale_1 : decode cX6_addsTale 1 = .ok (.getfield 13, 3) := by decide +kernel
theorem dX6_addsTale_4 : decode cX6_addsTale 4 = .ok (.iconst 1, 1) := by decide +kernel
theorem dX6_addsTale_5 : decode cX6_addsTale 5 = .ok (.iaload, 1) := by decide +kernel
theorem dX6_addsTale_6 : decode cX6_addsTale 6 = .ok (.istore 5, 2) := by decide +kernel
theorem dX6_addsTale_8 : decode cX6_addsTale 8 = .ok (.aload_n 0, 1) := by decide +kernel
theorem dX6_addsTale_9 : decode cX6_addsTale 9 = .ok (.getfield 13, 3) := by decide +kernel
theorem dX6_addsTale_12 : decode cX6_addsTale 12 = .ok (.bipush 14, 2) := by decide +kernel
theorem dX6_addsTale_14 : decode cX6_addsTale 14 = .ok (.iload 5, 2) := by decide +kernel
theorem dX6_addsTale_16 : decode cX6_addsTale 16 = .ok (.iadd, 1) := by decide +kernel
theorem dX6_addsTale_17 : decode cX6_addsTale 17 = .ok (.iload_n 1, 1) := by decide +kernel
theorem dX6_addsTale_18 : decode cX6_addsTale 18 = .ok (.iastore, 1) := by decide +kernel
theorem dX6_addsTale_19 : decode cX6_addsTale 19 = .ok (.aload_n 0, 1) := by decide +kernel
theorem dX6_addsTale_20 : decode cX6_addsTale 20 = .ok (.getfield 13, 3) := by decide +kernel
theorem dX6_addsTale_23 : decode cX6_addsTale 23 = .ok (.bipush 23, 2) := by decide +kernel
theorem dX6_addsTale_25 : decode cX6_addsTale 25 = .ok (.iload 5, 2) := by decide +kernel
theorem dX6_addsTale_27 : decode cX6_addsTale 27 = .ok (.iadd, 1) := by decide +kernel
theorem dX6_addsTale_28 : decode cX6_addsTale 28 = .ok (.iload_n 2, 1) := by decide +kernel
theorem dX6_addsTale_29 : decode cX6_addsTale 29 = .ok (.iastore, 1) := by decide +kernel
theorem dX6_addsTale_30 : decode cX6_addsTale 30 = .ok (.aload_n 0, 1) := by decide +kernel
theorem dX6_addsTale_31 : decode cX6_addsTale 31 = .ok (.getfield 13, 3) := by decide +kernel
theorem dX6_addsTale_34 : decode cX6_addsTale 34 = .ok (.bipush 32, 2) := by decide +kernel
theorem dX6_addsTale_36 : decode cX6_addsTale 36 = .ok (.iload 5, 2) := by decide +kernel
theorem dX6_addsTale_38 : decode cX6_addsTale 38 = .ok (.iadd, 1) := by decide +kernel
theorem dX6_addsTale_39 : decode cX6_addsTale 39 = .ok (.iload_n 3, 1) := by decide +kernel
theorem dX6_addsTale_40 : decode cX6_addsTale 40 = .ok (.iastore, 1) := by decide +kernel
theorem dX6_addsTale_41 : decode cX6_addsTale 41 = .ok (.aload_n 0, 1) := by decide +kernel
theorem dX6_addsTale_42 : decode cX6_addsTale 42 = .ok (.getfield 13, 3) := by decide +kernel
theorem dX6_addsTale_45 : decode cX6_addsTale 45 = .ok (.bipush 41, 2) := by decide +kernel
theorem dX6_addsTale_47 : decode cX6_addsTale 47 = .ok (.iload 5, 2) := by decide +kernel
theorem dX6_addsTale_49 : decode cX6_addsTale 49 = .ok (.iadd, 1) := by decide +kernel
theorem dX6_addsTale_50 : decode cX6_addsTale 50 = .ok (.iload 4, 2) := by decide +kernel
theorem dX6_addsTale_52 : decode cX6_addsTale 52 = .ok (.iastore, 1) := by decide +kernel
theorem dX6_addsTale_53 : decode cX6_addsTale 53 = .ok (.aload_n 0, 1) := by decide +kernel
theorem dX6_addsTale_54 : decode cX6_addsTale 54 = .ok (.getfield 13, 3) := by decide +kernel
theorem dX6_addsTale_57 : decode cX6_addsTale 57 = .ok (.iconst 1, 1) := by decide +kernel
theorem dX6_addsTale_58 : decode cX6_addsTale 58 = .ok (.dup2, 1) := by decide +kernel
theorem dX6_addsTale_59 : decode cX6_addsTale 59 = .ok (.iaload, 1) := by decide +kernel
theorem dX6_addsTale_60 : decode cX6_addsTale 60 = .ok (.iconst 1, 1) := by decide +kernel
theorem dX6_addsTale_61 : decode cX6_addsTale 61 = .ok (.iadd, 1) := by decide +kernel
theorem dX6_addsTale_62 : decode cX6_addsTale 62 = .ok (.iastore, 1) := by decide +kernel
theorem dX6_addsTale_63 : decode cX6_addsTale 63 = .ok (.return_, 1) := by decide +kernel
theorem dX6_begins_0 : decode cX6_begins 0 = .ok (.aload_n 0, 1) := by decide +kernel
theorem dX6_begins_1 : decode cX6_begins 1 = .ok (.getfield 13, 3) := by decide +kernel
theorem dX6_begins_4 : decode cX6_begins 4 = .ok (.iconst 0, 1) := by decide +kernel
theorem dX6_begins_5 : decode cX6_begins 5 = .ok (.aload_n 0, 1) := by decide +kernel
theorem dX6_begins_6 : decode cX6_begins 6 = .ok (.getfield 7, 3) := by decide +kernel
theorem dX6_begins_9 : decode cX6_begins 9 = .ok (.iconst 0, 1) := by decide +kernel
theorem dX6_begins_10 : decode cX6_begins 10 = .ok (.bipush 50, 2) := by decide +kernel
theorem dX6_begins_12 : decode cX6_begins 12 = .ok (.invokestatic 58, 3) := by decide +kernel
theorem dX6_begins_15 : decode cX6_begins 15 = .ok (.iconst 0, 1) := by decide +kernel
theorem dX6_begins_16 : decode cX6_begins 16 = .ok (.istore_n 1, 1) := by decide +kernel
theorem dX6_begins_17 : decode cX6_begins 17 = .ok (.iload_n 1, 1) := by decide +kernel
theorem dX6_begins_18 : decode cX6_begins 18 = .ok (.bipush 18, 2) := by decide +kernel
theorem dX6_begins_20 : decode cX6_begins 20 = .ok (.if_icmp .ge 16, 3) := by decide +kernel
theorem dX6_begins_23 : decode cX6_begins 23 = .ok (.aload_n 0, 1) := by decide +kernel
theorem dX6_begins_24 : decode cX6_begins 24 = .ok (.getfield 16, 3) := by decide +kernel
theorem dX6_begins_27 : decode cX6_begins 27 = .ok (.iload_n 1, 1) := by decide +kernel
theorem dX6_begins_28 : decode cX6_begins 28 = .ok (.iconst 0, 1) := by decide +kernel
theorem dX6_begins_29 : decode cX6_begins 29 = .ok (.iastore, 1) := by decide +kernel
theorem dX6_begins_30 : decode cX6_begins 30 = .ok (.iinc 1 1, 3) := by decide +kernel
theorem dX6_begins_33 : decode cX6_begins 33 = .ok (.goto (-16), 3) := by decide +kernel
theorem dX6_begins_36 : decode cX6_begins 36 = .ok (.aload_n 0, 1) := by decide +kernel
theorem dX6_begins_37 : decode cX6_begins 37 = .ok (.getfield 7, 3) := by decide +kernel
theorem dX6_begins_40 : decode cX6_begins 40 = .ok (.bipush 41, 2) := by decide +kernel
theorem dX6_begins_42 : decode cX6_begins 42 = .ok (.aload_n 0, 1) := by decide +kernel
theorem dX6_begins_43 : decode cX6_begins 43 = .ok (.getfield 16, 3) := by decide +kernel
theorem dX6_begins_46 : decode cX6_begins 46 = .ok (.iconst 0, 1) := by decide +kernel
theorem dX6_begins_47 : decode cX6_begins 47 = .ok (.bipush 9, 2) := by decide +kernel
theorem dX6_begins_49 : decode cX6_begins 49 = .ok (.invokestatic 58, 3) := by decide +kernel
theorem dX6_begins_52 : decode cX6_begins 52 = .ok (.aload_n 0, 1) := by decide +kernel
theorem dX6_begins_53 : decode cX6_begins 53 = .ok (.getfield 16, 3) := by decide +kernel
theorem dX6_begins_56 : decode cX6_begins 56 = .ok (.bipush 10, 2) := by decide +kernel
theorem dX6_begins_58 : decode cX6_begins 58 = .ok (.bipush (-4), 2) := by decide +kernel
theorem dX6_begins_60 : decode cX6_begins 60 = .ok (.iastore, 1) := by decide +kernel
theorem dX6_begins_61 : decode cX6_begins 61 = .ok (.aload_n 0, 1) := by decide +kernel
theorem dX6_begins_62 : decode cX6_begins 62 = .ok (.getfield 16, 3) := by decide +kernel
theorem dX6_begins_65 : decode cX6_begins 65 = .ok (.bipush 13, 2) := by decide +kernel
theorem dX6_begins_67 : decode cX6_begins 67 = .ok (.bipush (-4), 2) := by decide +kernel
theorem dX6_begins_69 : decode cX6_begins 69 = .ok (.iastore, 1) := by decide +kernel
theorem dX6_begins_70 : decode cX6_begins 70 = .ok (.aload_n 0, 1) := by decide +kernel
theorem dX6_begins_71 : decode cX6_begins 71 = .ok (.iconst 0, 1) := by decide +kernel
theorem dX6_begins_72 : decode cX6_begins 72 = .ok (.putfield 62, 3) := by decide +kernel
theorem dX6_begins_75 : decode cX6_begins 75 = .ok (.aload_n 0, 1) := by decide +kernel
theorem dX6_begins_76 : decode cX6_begins 76 = .ok (.iconst 0, 1) := by decide +kernel
theorem dX6_begins_77 : decode cX6_begins 77 = .ok (.putfield 66, 3) := by decide +kernel
theorem dX6_begins_80 : decode cX6_begins 80 = .ok (.return_, 1) := by decide +kernel
theorem dX6_write_0 : decode cX6_write 0 = .ok (.iload_n 1, 1) := by decide +kernel
theorem dX6_write_1 : decode cX6_write 1 = .ok (.i2l, 1) := by decide +kernel
theorem dX6_write_2 : decode cX6_write 2 = .ok (.ldc2_w 69, 3) := by decide +kernel
theorem dX6_write_5 : decode cX6_write 5 = .ok (.ldc2_w 71, 3) := by decide +kernel
theorem dX6_write_8 : decode cX6_write 8 = .ok (.invokestatic 73, 3) := by decide +kernel
theorem dX6_write_11 : decode cX6_write 11 = .ok (.ifCond .ne 5, 3) := by decide +kernel
theorem dX6_write_14 : decode cX6_write 14 = .ok (.iconst (-1), 1) := by decide +kernel
theorem dX6_write_15 : decode cX6_write 15 = .ok (.ireturn, 1) := by decide +kernel
theorem dX6_write_16 : decode cX6_write 16 = .ok (.aload_n 0, 1) := by decide +kernel
theorem dX6_write_17 : decode cX6_write 17 = .ok (.getfield 77, 3) := by decide +kernel
theorem dX6_write_20 : decode cX6_write 20 = .ok (.sipush 200, 3) := by decide +kernel
theorem dX6_write_23 : decode cX6_write 23 = .ok (.if_icmp .ne 6, 3) := by decide +kernel
theorem dX6_write_26 : decode cX6_write 26 = .ok (.bipush (-3), 2) := by decide +kernel
theorem dX6_write_28 : decode cX6_write 28 = .ok (.ireturn, 1) := by decide +kernel
theorem dX6_write_29 : decode cX6_write 29 = .ok (.aload_n 0, 1) := by decide +kernel
theorem dX6_write_30 : decode cX6_write 30 = .ok (.getfield 28, 3) := by decide +kernel
theorem dX6_write_33 : decode cX6_write 33 = .ok (.aload_n 0, 1) := by decide +kernel
theorem dX6_write_34 : decode cX6_write 34 = .ok (.getfield 77, 3) := by decide +kernel
theorem dX6_write_37 : decode cX6_write 37 = .ok (.iload_n 1, 1) := by decide +kernel
theorem dX6_write_38 : decode cX6_write 38 = .ok (.iastore, 1) := by decide +kernel
theorem dX6_write_39 : decode cX6_write 39 = .ok (.aload_n 0, 1) := by decide +kernel
theorem dX6_write_40 : decode cX6_write 40 = .ok (.dup, 1) := by decide +kernel
theorem dX6_write_41 : decode cX6_write 41 = .ok (.getfield 77, 3) := by decide +kernel
theorem dX6_write_44 : decode cX6_write 44 = .ok (.iconst 1, 1) := by decide +kernel
theorem dX6_write_45 : decode cX6_write 45 = .ok (.iadd, 1) := by decide +kernel
theorem dX6_write_46 : decode cX6_write 46 = .ok (.putfield 77, 3) := by decide +kernel
theorem dX6_write_49 : decode cX6_write 49 = .ok (.aload_n 0, 1) := by decide +kernel
theorem dX6_write_50 : decode cX6_write 50 = .ok (.getfield 77, 3) := by decide +kernel
theorem dX6_write_53 : decode cX6_write 53 = .ok (.ireturn, 1) := by decide +kernel
theorem dX6_wipe_0 : decode cX6_wipe 0 = .ok (.aload_n 0, 1) := by decide +kernel
theorem dX6_wipe_1 : decode cX6_wipe 1 = .ok (.getfield 77, 3) := by decide +kernel
theorem dX6_wipe_4 : decode cX6_wipe 4 = .ok (.istore_n 1, 1) := by decide +kernel
theorem dX6_wipe_5 : decode cX6_wipe 5 = .ok (.aload_n 0, 1) := by decide +kernel
theorem dX6_wipe_6 : decode cX6_wipe 6 = .ok (.iconst 0, 1) := by decide +kernel
theorem dX6_wipe_7 : decode cX6_wipe 7 = .ok (.putfield 77, 3) := by decide +kernel
theorem dX6_wipe_10 : decode cX6_wipe 10 = .ok (.iload_n 1, 1) := by decide +kernel
theorem dX6_wipe_11 : decode cX6_wipe 11 = .ok (.ireturn, 1) := by decide +kernel
theorem dX6_here_0 : decode cX6_here 0 = .ok (.aload_n 0, 1) := by decide +kernel
theorem dX6_here_1 : decode cX6_here 1 = .ok (.getfield 80, 3) := by decide +kernel
theorem dX6_here_4 : decode cX6_here 4 = .ok (.aload_n 0, 1) := by decide +kernel
theorem dX6_here_5 : decode cX6_here 5 = .ok (.getfield 77, 3) := by decide +kernel
theorem dX6_here_8 : decode cX6_here 8 = .ok (.if_icmp .ge 15, 3) := by decide +kernel
theorem dX6_here_11 : decode cX6_here 11 = .ok (.aload_n 0, 1) := by decide +kernel
theorem dX6_here_12 : decode cX6_here 12 = .ok (.getfield 28, 3) := by decide +kernel
theorem dX6_here_15 : decode cX6_here 15 = .ok (.aload_n 0, 1) := by decide +kernel
theorem dX6_here_16 : decode cX6_here 16 = .ok (.getfield 80, 3) := by decide +kernel
theorem dX6_here_19 : decode cX6_here 19 = .ok (.iaload, 1) := by decide +kernel
theorem dX6_here_20 : decode cX6_here 20 = .ok (.goto 4, 3) := by decide +kernel
theorem dX6_here_23 : decode cX6_here 23 = .ok (.iconst (-1), 1) := by decide +kernel
theorem dX6_here_24 : decode cX6_here 24 = .ok (.ireturn, 1) := by decide +kernel
theorem dX6_takes_0 : decode cX6_takes 0 = .ok (.aload_n 0, 1) := by decide +kernel
theorem dX6_takes_1 : decode cX6_takes 1 = .ok (.invokevirtual 83, 3) := by decide +kernel
theorem dX6_takes_4 : decode cX6_takes 4 = .ok (.iload_n 1, 1) := by decide +kernel
theorem dX6_takes_5 : decode cX6_takes 5 = .ok (.if_icmp .ne 7, 3) := by decide +kernel
theorem dX6_takes_8 : decode cX6_takes 8 = .ok (.iconst 1, 1) := by decide +kernel
theorem dX6_takes_9 : decode cX6_takes 9 = .ok (.goto 4, 3) := by decide +kernel
theorem dX6_takes_12 : decode cX6_takes 12 = .ok (.iconst 0, 1) := by decide +kernel
theorem dX6_takes_13 : decode cX6_takes 13 = .ok (.istore_n 2, 1) := by decide +kernel
theorem dX6_takes_14 : decode cX6_takes 14 = .ok (.aload_n 0, 1) := by decide +kernel
theorem dX6_takes_15 : decode cX6_takes 15 = .ok (.dup, 1) := by decide +kernel
theorem dX6_takes_16 : decode cX6_takes 16 = .ok (.getfield 80, 3) := by decide +kernel
theorem dX6_takes_19 : decode cX6_takes 19 = .ok (.iload_n 2, 1) := by decide +kernel
theorem dX6_takes_20 : decode cX6_takes 20 = .ok (.ifCond .eq 7, 3) := by decide +kernel
theorem dX6_takes_23 : decode cX6_takes 23 = .ok (.iconst 1, 1) := by decide +kernel
theorem dX6_takes_24 : decode cX6_takes 24 = .ok (.goto 4, 3) := by decide +kernel
theorem dX6_takes_27 : decode cX6_takes 27 = .ok (.iconst 0, 1) := by decide +kernel
theorem dX6_takes_28 : decode cX6_takes 28 = .ok (.iadd, 1) := by decide +kernel
theorem dX6_takes_29 : decode cX6_takes 29 = .ok (.putfield 80, 3) := by decide +kernel
theorem dX6_takes_32 : decode cX6_takes 32 = .ok (.iload_n 2, 1) := by decide +kernel
theorem dX6_takes_33 : decode cX6_takes 33 = .ok (.ireturn, 1) := by decide +kernel
theorem dX6_isFigure_0 : decode cX6_isFigure 0 = .ok (.iload_n 0, 1) := by decide +kernel
theorem dX6_isFigure_1 : decode cX6_isFigure 1 = .ok (.i2l, 1) := by decide +kernel
theorem dX6_isFigure_2 : decode cX6_isFigure 2 = .ok (.ldc2_w 87, 3) := by decide +kernel
theorem dX6_isFigure_5 : decode cX6_isFigure 5 = .ok (.ldc2_w 89, 3) := by decide +kernel
theorem dX6_isFigure_8 : decode cX6_isFigure 8 = .ok (.invokestatic 73, 3) := by decide +kernel
theorem dX6_isFigure_11 : decode cX6_isFigure 11 = .ok (.ireturn, 1) := by decide +kernel
theorem dX6_number_0 : decode cX6_number 0 = .ok (.aload_n 0, 1) := by decide +kernel
theorem dX6_number_1 : decode cX6_number 1 = .ok (.invokevirtual 83, 3) := by decide +kernel
theorem dX6_number_4 : decode cX6_number 4 = .ok (.invokestatic 91, 3) := by decide +kernel
theorem dX6_number_7 : decode cX6_number 7 = .ok (.ifCond .ne 5, 3) := by decide +kernel
theorem dX6_number_10 : decode cX6_number 10 = .ok (.iconst 0, 1) := by decide +kernel
theorem dX6_number_11 : decode cX6_number 11 = .ok (.ireturn, 1) := by decide +kernel
theorem dX6_number_12 : decode cX6_number 12 = .ok (.aload_n 0, 1) := by decide +kernel
theorem dX6_number_13 : decode cX6_number 13 = .ok (.aload_n 0, 1) := by decide +kernel
theorem dX6_number_14 : decode cX6_number 14 = .ok (.invokevirtual 83, 3) := by decide +kernel
theorem dX6_number_17 : decode cX6_number 17 = .ok (.bipush 48, 2) := by decide +kernel
theorem dX6_number_19 : decode cX6_number 19 = .ok (.isub, 1) := by decide +kernel
theorem dX6_number_20 : decode cX6_number 20 = .ok (.putfield 95, 3) := by decide +kernel
theorem dX6_number_23 : decode cX6_number 23 = .ok (.aload_n 0, 1) := by decide +kernel
theorem dX6_number_24 : decode cX6_number 24 = .ok (.dup, 1) := by decide +kernel
theorem dX6_number_25 : decode cX6_number 25 = .ok (.getfield 80, 3) := by decide +kernel
theorem dX6_number_28 : decode cX6_number 28 = .ok (.iconst 1, 1) := by decide +kernel
theorem dX6_number_29 : decode cX6_number 29 = .ok (.iadd, 1) := by decide +kernel
theorem dX6_number_30 : decode cX6_number 30 = .ok (.putfield 80, 3) := by decide +kernel
theorem dX6_number_33 : decode cX6_number 33 = .ok (.aload_n 0, 1) := by decide +kernel
theorem dX6_number_34 : decode cX6_number 34 = .ok (.invokevirtual 83, 3) := by decide +kernel
theorem dX6_number_37 : decode cX6_number 37 = .ok (.invokestatic 91, 3) := by decide +kernel
theorem dX6_number_40 : decode cX6_number 40 = .ok (.ifCond .eq 32, 3) := by decide +kernel
theorem dX6_number_43 : decode cX6_number 43 = .ok (.aload_n 0, 1) := by decide +kernel
theorem dX6_number_44 : decode cX6_number 44 = .ok (.bipush 10, 2) := by decide +kernel
theorem dX6_number_46 : decode cX6_number 46 = .ok (.aload_n 0, 1) := by decide +kernel
theorem dX6_number_47 : decode cX6_number 47 = .ok (.getfield 95, 3) := by decide +kernel
theorem dX6_number_50 : decode cX6_number 50 = .ok (.imul, 1) := by decide +kernel
theorem dX6_number_51 : decode cX6_number 51 = .ok (.aload_n 0, 1) := by decide +kernel
theorem dX6_number_52 : decode cX6_number 52 = .ok (.invokevirtual 83, 3) := by decide +kernel
theorem dX6_number_55 : decode cX6_number 55 = .ok (.iadd, 1) := by decide +kernel
theorem dX6_number_56 : decode cX6_number 56 = .ok (.bipush 48, 2) := by decide +kernel
theorem dX6_number_58 : decode cX6_number 58 = .ok (.isub, 1) := by decide +kernel
theorem dX6_number_59 : decode cX6_number 59 = .ok (.putfield 95, 3) := by decide +kernel
theorem dX6_number_62 : decode cX6_number 62 = .ok (.aload_n 0, 1) := by decide +kernel
theorem dX6_number_63 : decode cX6_number 63 = .ok (.dup, 1) := by decide +kernel
theorem dX6_number_64 : decode cX6_number 64 = .ok (.getfield 80, 3) := by decide +kernel
theorem dX6_number_67 : decode cX6_number 67 = .ok (.iconst 1, 1) := by decide +kernel
theorem dX6_number_68 : decode cX6_number 68 = .ok (.iadd, 1) := by decide +kernel
theorem dX6_number_69 : decode cX6_number 69 = .ok (.putfield 80, 3) := by decide +kernel
theorem dX6_number_72 : decode cX6_number 72 = .ok (.aload_n 0, 1) := by decide +kernel
theorem dX6_number_73 : decode cX6_number 73 = .ok (.getfield 95, 3) := by decide +kernel
theorem dX6_number_76 : decode cX6_number 76 = .ok (.i2l, 1) := by decide +kernel
theorem dX6_number_77 : decode cX6_number 77 = .ok (.iload_n 1, 1) := by decide +kernel
theorem dX6_number_78 : decode cX6_number 78 = .ok (.i2l, 1) := by decide +kernel
theorem dX6_number_79 : decode cX6_number 79 = .ok (.iload_n 2, 1) := by decide +kernel
theorem dX6_number_80 : decode cX6_number 80 = .ok (.i2l, 1) := by decide +kernel
theorem dX6_number_81 : decode cX6_number 81 = .ok (.invokestatic 73, 3) := by decide +kernel
theorem dX6_number_84 : decode cX6_number 84 = .ok (.ireturn, 1) := by decide +kernel
theorem dX6_isPerson_0 : decode cX6_isPerson 0 = .ok (.aload_n 0, 1) := by decide +kernel
theorem dX6_isPerson_1 : decode cX6_isPerson 1 = .ok (.getfield 13, 3) := by decide +kernel
theorem dX6_isPerson_4 : decode cX6_isPerson 4 = .ok (.iconst 0, 1) := by decide +kernel
theorem dX6_isPerson_5 : decode cX6_isPerson 5 = .ok (.iaload, 1) := by decide +kernel
theorem dX6_isPerson_6 : decode cX6_isPerson 6 = .ok (.bipush 6, 2) := by decide +kernel
theorem dX6_isPerson_8 : decode cX6_isPerson 8 = .ok (.if_icmp .eq 21, 3) := by decide +kernel
theorem dX6_isPerson_11 : decode cX6_isPerson 11 = .ok (.aload_n 0, 1) := by decide +kernel
theorem dX6_isPerson_12 : decode cX6_isPerson 12 = .ok (.iconst 0, 1) := by decide +kernel
theorem dX6_isPerson_13 : decode cX6_isPerson 13 = .ok (.iconst 3, 1) := by decide +kernel
theorem dX6_isPerson_14 : decode cX6_isPerson 14 = .ok (.invokevirtual 98, 3) := by decide +kernel
theorem dX6_isPerson_17 : decode cX6_isPerson 17 = .ok (.ifCond .eq 12, 3) := by decide +kernel
theorem dX6_isPerson_20 : decode cX6_isPerson 20 = .ok (.aload_n 0, 1) := by decide +kernel
theorem dX6_isPerson_21 : decode cX6_isPerson 21 = .ok (.bipush 59, 2) := by decide +kernel
theorem dX6_isPerson_23 : decode cX6_isPerson 23 = .ok (.invokevirtual 102, 3) := by decide +kernel
theorem dX6_isPerson_26 : decode cX6_isPerson 26 = .ok (.ifCond .ne 5, 3) := by decide +kernel
theorem dX6_isPerson_29 : decode cX6_isPerson 29 = .ok (.iconst 0, 1) := by decide +kernel
theorem dX6_isPerson_30 : decode cX6_isPerson 30 = .ok (.ireturn, 1) := by decide +kernel
theorem dX6_isPerson_31 : decode cX6_isPerson 31 = .ok (.aload_n 0, 1) := by decide +kernel
theorem dX6_isPerson_32 : decode cX6_isPerson 32 = .ok (.aload_n 0, 1) := by decide +kernel
theorem dX6_isPerson_33 : decode cX6_isPerson 33 = .ok (.getfield 95, 3) := by decide +kernel
theorem dX6_isPerson_36 : decode cX6_isPerson 36 = .ok (.invokevirtual 43, 3) := by decide +kernel
theorem dX6_isPerson_39 : decode cX6_isPerson 39 = .ok (.iconst 1, 1) := by decide +kernel
theorem dX6_isPerson_40 : decode cX6_isPerson 40 = .ok (.ireturn, 1) := by decide +kernel
theorem dX6_areFriends_0 : decode cX6_areFriends 0 = .ok (.aload_n 0, 1) := by decide +kernel
theorem dX6_areFriends_1 : decode cX6_areFriends 1 = .ok (.getfield 13, 3) := by decide +kernel
theorem dX6_areFriends_4 : decode cX6_areFriends 4 = .ok (.iconst 0, 1) := by decide +kernel
theorem dX6_areFriends_5 : decode cX6_areFriends 5 = .ok (.iaload, 1) := by decide +kernel
theorem dX6_areFriends_6 : decode cX6_areFriends 6 = .ok (.iconst 1, 1) := by decide +kernel
theorem dX6_areFriends_7 : decode cX6_areFriends 7 = .ok (.isub, 1) := by decide +kernel
theorem dX6_areFriends_8 : decode cX6_areFriends 8 = .ok (.istore_n 1, 1) := by decide +kernel
theorem dX6_areFriends_9 : decode cX6_areFriends 9 = .ok (.aload_n 0, 1) := by decide +kernel
theorem dX6_areFriends_10 : decode cX6_areFriends 10 = .ok (.iconst 0, 1) := by decide +kernel
theorem dX6_areFriends_11 : decode cX6_areFriends 11 = .ok (.iload_n 1, 1) := by decide +kernel
theorem dX6_areFriends_12 : decode cX6_areFriends 12 = .ok (.invokevirtual 98, 3) := by decide +kernel
theorem dX6_areFriends_15 : decode cX6_areFriends 15 = .ok (.ifCond .ne 5, 3) := by decide +kernel
theorem dX6_areFriends_18 : decode cX6_areFriends 18 = .ok (.iconst 0, 1) := by decide +kernel
theorem dX6_areFriends_19 : decode cX6_areFriends 19 = .ok (.ireturn, 1) := by decide +kernel
theorem dX6_areFriends_20 : decode cX6_areFriends 20 = .ok (.aload_n 0, 1) := by decide +kernel
theorem dX6_areFriends_21 : decode cX6_areFriends 21 = .ok (.getfield 95, 3) := by decide +kernel
theorem dX6_areFriends_24 : decode cX6_areFriends 24 = .ok (.istore_n 2, 1) := by decide +kernel
theorem dX6_areFriends_25 : decode cX6_areFriends 25 = .ok (.aload_n 0, 1) := by decide +kernel
theorem dX6_areFriends_26 : decode cX6_areFriends 26 = .ok (.bipush 44, 2) := by decide +kernel
theorem dX6_areFriends_28 : decode cX6_areFriends 28 = .ok (.invokevirtual 102, 3) := by decide +kernel
theorem dX6_areFriends_31 : decode cX6_areFriends 31 = .ok (.ifCond .eq 29, 3) := by decide +kernel
theorem dX6_areFriends_34 : decode cX6_areFriends 34 = .ok (.aload_n 0, 1) := by decide +kernel
theorem dX6_areFriends_35 : decode cX6_areFriends 35 = .ok (.iconst 0, 1) := by decide +kernel
theorem dX6_areFriends_36 : decode cX6_areFriends 36 = .ok (.iload_n 1, 1) := by decide +kernel
theorem dX6_areFriends_37 : decode cX6_areFriends 37 = .ok (.invokevirtual 98, 3) := by decide +kernel
theorem dX6_areFriends_40 : decode cX6_areFriends 40 = .ok (.ifCond .eq 20, 3) := by decide +kernel
theorem dX6_areFriends_43 : decode cX6_areFriends 43 = .ok (.aload_n 0, 1) := by decide +kernel
theorem dX6_areFriends_44 : decode cX6_areFriends 44 = .ok (.getfield 95, 3) := by decide +kernel
theorem dX6_areFriends_47 : decode cX6_areFriends 47 = .ok (.iload_n 2, 1) := by decide +kernel
theorem dX6_areFriends_48 : decode cX6_areFriends 48 = .ok (.if_icmp .eq 12, 3) := by decide +kernel
theorem dX6_areFriends_51 : decode cX6_areFriends 51 = .ok (.aload_n 0, 1) := by decide +kernel
theorem dX6_areFriends_52 : decode cX6_areFriends 52 = .ok (.bipush 59, 2) := by decide +kernel
theorem dX6_areFriends_54 : decode cX6_areFriends 54 = .ok (.invokevirtual 102, 3) := by decide +kernel
theorem dX6_areFriends_57 : decode cX6_areFriends 57 = .ok (.ifCond .ne 5, 3) := by decide +kernel
theorem dX6_areFriends_60 : decode cX6_areFriends 60 = .ok (.iconst 0, 1) := by decide +kernel
theorem dX6_areFriends_61 : decode cX6_areFriends 61 = .ok (.ireturn, 1) := by decide +kernel
theorem dX6_areFriends_62 : decode cX6_areFriends 62 = .ok (.aload_n 0, 1) := by decide +kernel
theorem dX6_areFriends_63 : decode cX6_areFriends 63 = .ok (.iload_n 2, 1) := by decide +kernel
theorem dX6_areFriends_64 : decode cX6_areFriends 64 = .ok (.aload_n 0, 1) := by decide +kernel
theorem dX6_areFriends_65 : decode cX6_areFriends 65 = .ok (.getfield 95, 3) := by decide +kernel
theorem dX6_areFriends_68 : decode cX6_areFriends 68 = .ok (.invokevirtual 47, 3) := by decide +kernel
theorem dX6_areFriends_71 : decode cX6_areFriends 71 = .ok (.iconst 1, 1) := by decide +kernel
theorem dX6_areFriends_72 : decode cX6_areFriends 72 = .ok (.ireturn, 1) := by decide +kernel
theorem dX6_row_0 : decode cX6_row 0 = .ok (.iconst 0, 1) := by decide +kernel
theorem dX6_row_1 : decode cX6_row 1 = .ok (.istore_n 2, 1) := by decide +kernel
theorem dX6_row_2 : decode cX6_row 2 = .ok (.aload_n 0, 1) := by decide +kernel
theorem dX6_row_3 : decode cX6_row 3 = .ok (.invokevirtual 83, 3) := by decide +kernel
theorem dX6_row_6 : decode cX6_row 6 = .ok (.invokestatic 91, 3) := by decide +kernel
theorem dX6_row_9 : decode cX6_row 9 = .ok (.ifCond .eq 55, 3) := by decide +kernel
theorem dX6_row_12 : decode cX6_row 12 = .ok (.aload_n 0, 1) := by decide +kernel
theorem dX6_row_13 : decode cX6_row 13 = .ok (.invokevirtual 83, 3) := by decide +kernel
theorem dX6_row_16 : decode cX6_row 16 = .ok (.bipush 48, 2) := by decide +kernel
theorem dX6_row_18 : decode cX6_row 18 = .ok (.isub, 1) := by decide +kernel
theorem dX6_row_19 : decode cX6_row 19 = .ok (.istore_n 3, 1) := by decide +kernel
theorem dX6_row_20 : decode cX6_row 20 = .ok (.iload_n 3, 1) := by decide +kernel
theorem dX6_row_21 : decode cX6_row 21 = .ok (.aload_n 0, 1) := by decide +kernel
theorem dX6_row_22 : decode cX6_row 22 = .ok (.getfield 13, 3) := by decide +kernel
theorem dX6_row_25 : decode cX6_row 25 = .ok (.iconst 0, 1) := by decide +kernel
theorem dX6_row_26 : decode cX6_row 26 = .ok (.iaload, 1) := by decide +kernel
theorem dX6_row_27 : decode cX6_row 27 = .ok (.if_icmp .ge 16, 3) := by decide +kernel
theorem dX6_row_30 : decode cX6_row 30 = .ok (.iload_n 3, 1) := by decide +kernel
theorem dX6_row_31 : decode cX6_row 31 = .ok (.iload_n 1, 1) := by decide +kernel
theorem dX6_row_32 : decode cX6_row 32 = .ok (.if_icmp .eq 11, 3) := by decide +kernel
theorem dX6_row_35 : decode cX6_row 35 = .ok (.iload_n 2, 1) := by decide +kernel
theorem dX6_row_36 : decode cX6_row 36 = .ok (.iload_n 3, 1) := by decide +kernel
theorem dX6_row_37 : decode cX6_row 37 = .ok (.invokestatic 105, 3) := by decide +kernel
theorem dX6_row_40 : decode cX6_row 40 = .ok (.ifCond .eq 5, 3) := by decide +kernel
theorem dX6_row_43 : decode cX6_row 43 = .ok (.iconst 0, 1) := by decide +kernel
theorem dX6_row_44 : decode cX6_row 44 = .ok (.ireturn, 1) := by decide +kernel
theorem dX6_row_45 : decode cX6_row 45 = .ok (.iload_n 2, 1) := by decide +kernel
theorem dX6_row_46 : decode cX6_row 46 = .ok (.iconst 1, 1) := by decide +kernel
theorem dX6_row_47 : decode cX6_row 47 = .ok (.iload_n 3, 1) := by decide +kernel
theorem dX6_row_48 : decode cX6_row 48 = .ok (.ishl, 1) := by decide +kernel
theorem dX6_row_49 : decode cX6_row 49 = .ok (.ior, 1) := by decide +kernel
theorem dX6_row_50 : decode cX6_row 50 = .ok (.istore_n 2, 1) := by decide +kernel
theorem dX6_row_51 : decode cX6_row 51 = .ok (.aload_n 0, 1) := by decide +kernel
theorem dX6_row_52 : decode cX6_row 52 = .ok (.dup, 1) := by decide +kernel
theorem dX6_row_53 : decode cX6_row 53 = .ok (.getfield 80, 3) := by decide +kernel
theorem dX6_row_56 : decode cX6_row 56 = .ok (.iconst 1, 1) := by decide +kernel
theorem dX6_row_57 : decode cX6_row 57 = .ok (.iadd, 1) := by decide +kernel
theorem dX6_row_58 : decode cX6_row 58 = .ok (.putfield 80, 3) := by decide +kernel
theorem dX6_row_61 : decode cX6_row 61 = .ok (.goto (-59), 3) := by decide +kernel
theorem dX6_row_64 : decode cX6_row 64 = .ok (.iload_n 2, 1) := by decide +kernel
theorem dX6_row_65 : decode cX6_row 65 = .ok (.ireturn, 1) := by decide +kernel
theorem dX6_isTale_0 : decode cX6_isTale 0 = .ok (.aload_n 0, 1) := by decide +kernel
theorem dX6_isTale_1 : decode cX6_isTale 1 = .ok (.getfield 13, 3) := by decide +kernel
theorem dX6_isTale_4 : decode cX6_isTale 4 = .ok (.iconst 1, 1) := by decide +kernel
theorem dX6_isTale_5 : decode cX6_isTale 5 = .ok (.iaload, 1) := by decide +kernel
theorem dX6_isTale_6 : decode cX6_isTale 6 = .ok (.bipush 9, 2) := by decide +kernel
theorem dX6_isTale_8 : decode cX6_isTale 8 = .ok (.if_icmp .eq 19, 3) := by decide +kernel
theorem dX6_isTale_11 : decode cX6_isTale 11 = .ok (.aload_n 0, 1) := by decide +kernel
theorem dX6_isTale_12 : decode cX6_isTale 12 = .ok (.iconst 0, 1) := by decide +kernel
theorem dX6_isTale_13 : decode cX6_isTale 13 = .ok (.aload_n 0, 1) := by decide +kernel
theorem dX6_isTale_14 : decode cX6_isTale 14 = .ok (.getfield 13, 3) := by decide +kernel
theorem dX6_isTale_17 : decode cX6_isTale 17 = .ok (.iconst 0, 1) := by decide +kernel
theorem dX6_isTale_18 : decode cX6_isTale 18 = .ok (.iaload, 1) := by decide +kernel
theorem dX6_isTale_19 : decode cX6_isTale 19 = .ok (.iconst 1, 1) := by decide +kernel
theorem dX6_isTale_20 : decode cX6_isTale 20 = .ok (.isub, 1) := by decide +kernel
theorem dX6_isTale_21 : decode cX6_isTale 21 = .ok (.invokevirtual 98, 3) := by decide +kernel
theorem dX6_isTale_24 : decode cX6_isTale 24 = .ok (.ifCond .ne 5, 3) := by decide +kernel
theorem dX6_isTale_27 : decode cX6_isTale 27 = .ok (.iconst 0, 1) := by decide +kernel
theorem dX6_isTale_28 : decode cX6_isTale 28 = .ok (.ireturn, 1) := by decide +kernel
theorem dX6_isTale_29 : decode cX6_isTale 29 = .ok (.aload_n 0, 1) := by decide +kernel
theorem dX6_isTale_30 : decode cX6_isTale 30 = .ok (.getfield 95, 3) := by decide +kernel
theorem dX6_isTale_33 : decode cX6_isTale 33 = .ok (.istore_n 1, 1) := by decide +kernel
theorem dX6_isTale_34 : decode cX6_isTale 34 = .ok (.aload_n 0, 1) := by decide +kernel
theorem dX6_isTale_35 : decode cX6_isTale 35 = .ok (.bipush 44, 2) := by decide +kernel
theorem dX6_isTale_37 : decode cX6_isTale 37 = .ok (.invokevirtual 102, 3) := by decide +kernel
theorem dX6_isTale_40 : decode cX6_isTale 40 = .ok (.ifCond .eq 13, 3) := by decide +kernel
theorem dX6_isTale_43 : decode cX6_isTale 43 = .ok (.aload_n 0, 1) := by decide +kernel
theorem dX6_isTale_44 : decode cX6_isTale 44 = .ok (.iconst 1, 1) := by decide +kernel
theorem dX6_isTale_45 : decode cX6_isTale 45 = .ok (.bipush 20, 2) := by decide +kernel
theorem dX6_isTale_47 : decode cX6_isTale 47 = .ok (.invokevirtual 98, 3) := by decide +kernel
theorem dX6_isTale_50 : decode cX6_isTale 50 = .ok (.ifCond .ne 5, 3) := by decide +kernel
theorem dX6_isTale_53 : decode cX6_isTale 53 = .ok (.iconst 0, 1) := by decide +kernel
theorem dX6_isTale_54 : decode cX6_isTale 54 = .ok (.ireturn, 1) := by decide +kernel
theorem dX6_isTale_55 : decode cX6_isTale 55 = .ok (.aload_n 0, 1) := by decide +kernel
theorem dX6_isTale_56 : decode cX6_isTale 56 = .ok (.getfield 95, 3) := by decide +kernel
theorem dX6_isTale_59 : decode cX6_isTale 59 = .ok (.istore_n 2, 1) := by decide +kernel
theorem dX6_isTale_60 : decode cX6_isTale 60 = .ok (.aload_n 0, 1) := by decide +kernel
theorem dX6_isTale_61 : decode cX6_isTale 61 = .ok (.bipush 44, 2) := by decide +kernel
theorem dX6_isTale_63 : decode cX6_isTale 63 = .ok (.invokevirtual 102, 3) := by decide +kernel
theorem dX6_isTale_66 : decode cX6_isTale 66 = .ok (.ifCond .eq 13, 3) := by decide +kernel
theorem dX6_isTale_69 : decode cX6_isTale 69 = .ok (.aload_n 0, 1) := by decide +kernel
theorem dX6_isTale_70 : decode cX6_isTale 70 = .ok (.iconst 1, 1) := by decide +kernel
theorem dX6_isTale_71 : decode cX6_isTale 71 = .ok (.bipush 9, 2) := by decide +kernel
theorem dX6_isTale_73 : decode cX6_isTale 73 = .ok (.invokevirtual 98, 3) := by decide +kernel
theorem dX6_isTale_76 : decode cX6_isTale 76 = .ok (.ifCond .ne 5, 3) := by decide +kernel
theorem dX6_isTale_79 : decode cX6_isTale 79 = .ok (.iconst 0, 1) := by decide +kernel
theorem dX6_isTale_80 : decode cX6_isTale 80 = .ok (.ireturn, 1) := by decide +kernel
theorem dX6_isTale_81 : decode cX6_isTale 81 = .ok (.aload_n 0, 1) := by decide +kernel
theorem dX6_isTale_82 : decode cX6_isTale 82 = .ok (.getfield 95, 3) := by decide +kernel
theorem dX6_isTale_85 : decode cX6_isTale 85 = .ok (.istore_n 3, 1) := by decide +kernel
theorem dX6_isTale_86 : decode cX6_isTale 86 = .ok (.aload_n 0, 1) := by decide +kernel
theorem dX6_isTale_87 : decode cX6_isTale 87 = .ok (.bipush 44, 2) := by decide +kernel
theorem dX6_isTale_89 : decode cX6_isTale 89 = .ok (.invokevirtual 102, 3) := by decide +kernel
theorem dX6_isTale_92 : decode cX6_isTale 92 = .ok (.ifCond .ne 5, 3) := by decide +kernel
theorem dX6_isTale_95 : decode cX6_isTale 95 = .ok (.iconst 0, 1) := by decide +kernel
theorem dX6_isTale_96 : decode cX6_isTale 96 = .ok (.ireturn, 1) := by decide +kernel
theorem dX6_isTale_97 : decode cX6_isTale 97 = .ok (.aload_n 0, 1) := by decide +kernel
theorem dX6_isTale_98 : decode cX6_isTale 98 = .ok (.iload_n 1, 1) := by decide +kernel
theorem dX6_isTale_99 : decode cX6_isTale 99 = .ok (.invokevirtual 108, 3) := by decide +kernel
theorem dX6_isTale_102 : decode cX6_isTale 102 = .ok (.istore 4, 2) := by decide +kernel
theorem dX6_isTale_104 : decode cX6_isTale 104 = .ok (.iload 4, 2) := by decide +kernel
theorem dX6_isTale_106 : decode cX6_isTale 106 = .ok (.ifCond .eq 12, 3) := by decide +kernel
theorem dX6_isTale_109 : decode cX6_isTale 109 = .ok (.aload_n 0, 1) := by decide +kernel
theorem dX6_isTale_110 : decode cX6_isTale 110 = .ok (.bipush 59, 2) := by decide +kernel
theorem dX6_isTale_112 : decode cX6_isTale 112 = .ok (.invokevirtual 102, 3) := by decide +kernel
theorem dX6_isTale_115 : decode cX6_isTale 115 = .ok (.ifCond .ne 5, 3) := by decide +kernel
theorem dX6_isTale_118 : decode cX6_isTale 118 = .ok (.iconst 0, 1) := by decide +kernel
theorem dX6_isTale_119 : decode cX6_isTale 119 = .ok (.ireturn, 1) := by decide +kernel
theorem dX6_isTale_120 : decode cX6_isTale 120 = .ok (.aload_n 0, 1) := by decide +kernel
theorem dX6_isTale_121 : decode cX6_isTale 121 = .ok (.iload_n 1, 1) := by decide +kernel
theorem dX6_isTale_122 : decode cX6_isTale 122 = .ok (.iload_n 2, 1) := by decide +kernel
theorem dX6_isTale_123 : decode cX6_isTale 123 = .ok (.iload_n 3, 1) := by decide +kernel
theorem dX6_isTale_124 : decode cX6_isTale 124 = .ok (.iload 4, 2) := by decide +kernel
theorem dX6_isTale_126 : decode cX6_isTale 126 = .ok (.invokevirtual 51, 3) := by decide +kernel
theorem dX6_isTale_129 : decode cX6_isTale 129 = .ok (.iconst 1, 1) := by decide +kernel
theorem dX6_isTale_130 : decode cX6_isTale 130 = .ok (.ireturn, 1) := by decide +kernel
theorem dX6_isItem_0 : decode cX6_isItem 0 = .ok (.aload_n 0, 1) := by decide +kernel
theorem dX6_isItem_1 : decode cX6_isItem 1 = .ok (.bipush 112, 2) := by decide +kernel
theorem dX6_isItem_3 : decode cX6_isItem 3 = .ok (.invokevirtual 102, 3) := by decide +kernel
theorem dX6_isItem_6 : decode cX6_isItem 6 = .ok (.ifCond .eq 8, 3) := by decide +kernel
theorem dX6_isItem_9 : decode cX6_isItem 9 = .ok (.aload_n 0, 1) := by decide +kernel
theorem dX6_isItem_10 : decode cX6_isItem 10 = .ok (.invokevirtual 112, 3) := by decide +kernel
theorem dX6_isItem_13 : decode cX6_isItem 13 = .ok (.ireturn, 1) := by decide +kernel
theorem dX6_isItem_14 : decode cX6_isItem 14 = .ok (.aload_n 0, 1) := by decide +kernel
theorem dX6_isItem_15 : decode cX6_isItem 15 = .ok (.bipush 102, 2) := by decide +kernel
theorem dX6_isItem_17 : decode cX6_isItem 17 = .ok (.invokevirtual 102, 3) := by decide +kernel
theorem dX6_isItem_20 : decode cX6_isItem 20 = .ok (.ifCond .eq 8, 3) := by decide +kernel
theorem dX6_isItem_23 : decode cX6_isItem 23 = .ok (.aload_n 0, 1) := by decide +kernel
theorem dX6_isItem_24 : decode cX6_isItem 24 = .ok (.invokevirtual 116, 3) := by decide +kernel
theorem dX6_isItem_27 : decode cX6_isItem 27 = .ok (.ireturn, 1) := by decide +kernel
theorem dX6_isItem_28 : decode cX6_isItem 28 = .ok (.aload_n 0, 1) := by decide +kernel
theorem dX6_isItem_29 : decode cX6_isItem 29 = .ok (.bipush 116, 2) := by decide +kernel
theorem dX6_isItem_31 : decode cX6_isItem 31 = .ok (.invokevirtual 102, 3) := by decide +kernel
theorem dX6_isItem_34 : decode cX6_isItem 34 = .ok (.ifCond .eq 14, 3) := by decide +kernel
theorem dX6_isItem_37 : decode cX6_isItem 37 = .ok (.aload_n 0, 1) := by decide +kernel
theorem dX6_isItem_38 : decode cX6_isItem 38 = .ok (.invokevirtual 119, 3) := by decide +kernel
theorem dX6_isItem_41 : decode cX6_isItem 41 = .ok (.ifCond .eq 7, 3) := by decide +kernel
theorem dX6_isItem_44 : decode cX6_isItem 44 = .ok (.iconst 1, 1) := by decide +kernel
theorem dX6_isItem_45 : decode cX6_isItem 45 = .ok (.goto 4, 3) := by decide +kernel
theorem dX6_isItem_48 : decode cX6_isItem 48 = .ok (.iconst 0, 1) := by decide +kernel
theorem dX6_isItem_49 : decode cX6_isItem 49 = .ok (.ireturn, 1) := by decide +kernel
theorem dX6_fault_0 : decode cX6_fault 0 = .ok (.aload_n 0, 1) := by decide +kernel
theorem dX6_fault_1 : decode cX6_fault 1 = .ok (.invokevirtual 40, 3) := by decide +kernel
theorem dX6_fault_4 : decode cX6_fault 4 = .ok (.aload_n 0, 1) := by decide +kernel
theorem dX6_fault_5 : decode cX6_fault 5 = .ok (.iconst 0, 1) := by decide +kernel
theorem dX6_fault_6 : decode cX6_fault 6 = .ok (.putfield 80, 3) := by decide +kernel
theorem dX6_fault_9 : decode cX6_fault 9 = .ok (.aload_n 0, 1) := by decide +kernel
theorem dX6_fault_10 : decode cX6_fault 10 = .ok (.getfield 80, 3) := by decide +kernel
theorem dX6_fault_13 : decode cX6_fault 13 = .ok (.aload_n 0, 1) := by decide +kernel
theorem dX6_fault_14 : decode cX6_fault 14 = .ok (.getfield 77, 3) := by decide +kernel
theorem dX6_fault_17 : decode cX6_fault 17 = .ok (.if_icmp .ge 20, 3) := by decide +kernel
theorem dX6_fault_20 : decode cX6_fault 20 = .ok (.aload_n 0, 1) := by decide +kernel
theorem dX6_fault_21 : decode cX6_fault 21 = .ok (.getfield 80, 3) := by decide +kernel
theorem dX6_fault_24 : decode cX6_fault 24 = .ok (.istore_n 1, 1) := by decide +kernel
theorem dX6_fault_25 : decode cX6_fault 25 = .ok (.aload_n 0, 1) := by decide +kernel
theorem dX6_fault_26 : decode cX6_fault 26 = .ok (.invokevirtual 122, 3) := by decide +kernel
theorem dX6_fault_29 : decode cX6_fault 29 = .ok (.ifCond .ne 5, 3) := by decide +kernel
theorem dX6_fault_32 : decode cX6_fault 32 = .ok (.iload_n 1, 1) := by decide +kernel
theorem dX6_fault_33 : decode cX6_fault 33 = .ok (.ireturn, 1) := by decide +kernel
theorem dX6_fault_34 : decode cX6_fault 34 = .ok (.goto (-25), 3) := by decide +kernel
theorem dX6_fault_37 : decode cX6_fault 37 = .ok (.bipush (-4), 2) := by decide +kernel
theorem dX6_fault_39 : decode cX6_fault 39 = .ok (.ireturn, 1) := by decide +kernel
theorem dX6_lay_0 : decode cX6_lay 0 = .ok (.aload_n 0, 1) := by decide +kernel
theorem dX6_lay_1 : decode cX6_lay 1 = .ok (.invokevirtual 125, 3) := by decide +kernel
theorem dX6_lay_4 : decode cX6_lay 4 = .ok (.bipush (-4), 2) := by decide +kernel
theorem dX6_lay_6 : decode cX6_lay 6 = .ok (.if_icmp .ne 12, 3) := by decide +kernel
theorem dX6_lay_9 : decode cX6_lay 9 = .ok (.aload_n 0, 1) := by decide +kernel
theorem dX6_lay_10 : decode cX6_lay 10 = .ok (.getfield 13, 3) := by decide +kernel
theorem dX6_lay_13 : decode cX6_lay 13 = .ok (.iconst 0, 1) := by decide +kernel
theorem dX6_lay_14 : decode cX6_lay 14 = .ok (.iaload, 1) := by decide +kernel
theorem dX6_lay_15 : decode cX6_lay 15 = .ok (.ifCond .ne 6, 3) := by decide +kernel
theorem dX6_lay_18 : decode cX6_lay 18 = .ok (.bipush (-2), 2) := by decide +kernel
theorem dX6_lay_20 : decode cX6_lay 20 = .ok (.ireturn, 1) := by decide +kernel
theorem dX6_lay_21 : decode cX6_lay 21 = .ok (.aload_n 0, 1) := by decide +kernel
theorem dX6_lay_22 : decode cX6_lay 22 = .ok (.invokevirtual 55, 3) := by decide +kernel
theorem dX6_lay_25 : decode cX6_lay 25 = .ok (.aload_n 0, 1) := by decide +kernel
theorem dX6_lay_26 : decode cX6_lay 26 = .ok (.getfield 7, 3) := by decide +kernel
theorem dX6_lay_29 : decode cX6_lay 29 = .ok (.iconst 0, 1) := by decide +kernel
theorem dX6_lay_30 : decode cX6_lay 30 = .ok (.iaload, 1) := by decide +kernel
theorem dX6_lay_31 : decode cX6_lay 31 = .ok (.ireturn, 1) := by decide +kernel
theorem dX6_isOne_0 : decode cX6_isOne 0 = .ok (.iload_n 1, 1) := by decide +kernel
theorem dX6_isOne_1 : decode cX6_isOne 1 = .ok (.i2l, 1) := by decide +kernel
theorem dX6_isOne_2 : decode cX6_isOne 2 = .ok (.lconst 0, 1) := by decide +kernel
theorem dX6_isOne_3 : decode cX6_isOne 3 = .ok (.aload_n 0, 1) := by decide +kernel
theorem dX6_isOne_4 : decode cX6_isOne 4 = .ok (.getfield 7, 3) := by decide +kernel
theorem dX6_isOne_7 : decode cX6_isOne 7 = .ok (.iconst 0, 1) := by decide +kernel
theorem dX6_isOne_8 : decode cX6_isOne 8 = .ok (.iaload, 1) := by decide +kernel
theorem dX6_isOne_9 : decode cX6_isOne 9 = .ok (.iconst 1, 1) := by decide +kernel
theorem dX6_isOne_10 : decode cX6_isOne 10 = .ok (.isub, 1) := by decide +kernel
theorem dX6_isOne_11 : decode cX6_isOne 11 = .ok (.i2l, 1) := by decide +kernel
theorem dX6_isOne_12 : decode cX6_isOne 12 = .ok (.invokestatic 73, 3) := by decide +kernel
theorem dX6_isOne_15 : decode cX6_isOne 15 = .ok (.ireturn, 1) := by decide +kernel
theorem dX6_isTaleOf_0 : decode cX6_isTaleOf 0 = .ok (.iload_n 1, 1) := by decide +kernel
theorem dX6_isTaleOf_1 : decode cX6_isTaleOf 1 = .ok (.i2l, 1) := by decide +kernel
theorem dX6_isTaleOf_2 : decode cX6_isTaleOf 2 = .ok (.lconst 0, 1) := by decide +kernel
theorem dX6_isTaleOf_3 : decode cX6_isTaleOf 3 = .ok (.aload_n 0, 1) := by decide +kernel
theorem dX6_isTaleOf_4 : decode cX6_isTaleOf 4 = .ok (.getfield 7, 3) := by decide +kernel
theorem dX6_isTaleOf_7 : decode cX6_isTaleOf 7 = .ok (.iconst 1, 1) := by decide +kernel
theorem dX6_isTaleOf_8 : decode cX6_isTaleOf 8 = .ok (.iaload, 1) := by decide +kernel
theorem dX6_isTaleOf_9 : decode cX6_isTaleOf 9 = .ok (.iconst 1, 1) := by decide +kernel
theorem dX6_isTaleOf_10 : decode cX6_isTaleOf 10 = .ok (.isub, 1) := by decide +kernel
theorem dX6_isTaleOf_11 : decode cX6_isTaleOf 11 = .ok (.i2l, 1) := by decide +kernel
theorem dX6_isTaleOf_12 : decode cX6_isTaleOf 12 = .ok (.invokestatic 73, 3) := by decide +kernel
theorem dX6_isTaleOf_15 : decode cX6_isTaleOf 15 = .ok (.ireturn, 1) := by decide +kernel
theorem dX6_areTwo_0 : decode cX6_areTwo 0 = .ok (.aload_n 0, 1) := by decide +kernel
theorem dX6_areTwo_1 : decode cX6_areTwo 1 = .ok (.iload_n 1, 1) := by decide +kernel
theorem dX6_areTwo_2 : decode cX6_areTwo 2 = .ok (.invokevirtual 128, 3) := by decide +kernel
theorem dX6_areTwo_5 : decode cX6_areTwo 5 = .ok (.ifCond .eq 20, 3) := by decide +kernel
theorem dX6_areTwo_8 : decode cX6_areTwo 8 = .ok (.aload_n 0, 1) := by decide +kernel
theorem dX6_areTwo_9 : decode cX6_areTwo 9 = .ok (.iload_n 2, 1) := by decide +kernel
theorem dX6_areTwo_10 : decode cX6_areTwo 10 = .ok (.invokevirtual 128, 3) := by decide +kernel
theorem dX6_areTwo_13 : decode cX6_areTwo 13 = .ok (.ifCond .eq 12, 3) := by decide +kernel
theorem dX6_areTwo_16 : decode cX6_areTwo 16 = .ok (.iload_n 1, 1) := by decide +kernel
theorem dX6_areTwo_17 : decode cX6_areTwo 17 = .ok (.iload_n 2, 1) := by decide +kernel
theorem dX6_areTwo_18 : decode cX6_areTwo 18 = .ok (.if_icmp .eq 7, 3) := by decide +kernel
theorem dX6_areTwo_21 : decode cX6_areTwo 21 = .ok (.iconst 1, 1) := by decide +kernel
theorem dX6_areTwo_22 : decode cX6_areTwo 22 = .ok (.goto 4, 3) := by decide +kernel
theorem dX6_areTwo_25 : decode cX6_areTwo 25 = .ok (.iconst 0, 1) := by decide +kernel
theorem dX6_areTwo_26 : decode cX6_areTwo 26 = .ok (.ireturn, 1) := by decide +kernel
theorem dX6_likes_0 : decode cX6_likes 0 = .ok (.aload_n 0, 1) := by decide +kernel
theorem dX6_likes_1 : decode cX6_likes 1 = .ok (.getfield 7, 3) := by decide +kernel
theorem dX6_likes_4 : decode cX6_likes 4 = .ok (.bipush 8, 2) := by decide +kernel
theorem dX6_likes_6 : decode cX6_likes 6 = .ok (.iload_n 1, 1) := by decide +kernel
theorem dX6_likes_7 : decode cX6_likes 7 = .ok (.iadd, 1) := by decide +kernel
theorem dX6_likes_8 : decode cX6_likes 8 = .ok (.iaload, 1) := by decide +kernel
theorem dX6_likes_9 : decode cX6_likes 9 = .ok (.iload_n 2, 1) := by decide +kernel
theorem dX6_likes_10 : decode cX6_likes 10 = .ok (.invokestatic 105, 3) := by decide +kernel
theorem dX6_likes_13 : decode cX6_likes 13 = .ok (.ireturn, 1) := by decide +kernel
theorem dX6_sits_0 : decode cX6_sits 0 = .ok (.aload_n 0, 1) := by decide +kernel
theorem dX6_sits_1 : decode cX6_sits 1 = .ok (.getfield 16, 3) := by decide +kernel
theorem dX6_sits_4 : decode cX6_sits 4 = .ok (.bipush 10, 2) := by decide +kernel
theorem dX6_sits_6 : decode cX6_sits 6 = .ok (.iaload, 1) := by decide +kernel
theorem dX6_sits_7 : decode cX6_sits 7 = .ok (.bipush (-4), 2) := by decide +kernel
theorem dX6_sits_9 : decode cX6_sits 9 = .ok (.if_icmp .eq 29, 3) := by decide +kernel
theorem dX6_sits_12 : decode cX6_sits 12 = .ok (.aload_n 0, 1) := by decide +kernel
theorem dX6_sits_13 : decode cX6_sits 13 = .ok (.getfield 16, 3) := by decide +kernel
theorem dX6_sits_16 : decode cX6_sits 16 = .ok (.bipush 10, 2) := by decide +kernel
theorem dX6_sits_18 : decode cX6_sits 18 = .ok (.iaload, 1) := by decide +kernel
theorem dX6_sits_19 : decode cX6_sits 19 = .ok (.iload_n 1, 1) := by decide +kernel
theorem dX6_sits_20 : decode cX6_sits 20 = .ok (.if_icmp .eq 14, 3) := by decide +kernel
theorem dX6_sits_23 : decode cX6_sits 23 = .ok (.aload_n 0, 1) := by decide +kernel
theorem dX6_sits_24 : decode cX6_sits 24 = .ok (.getfield 16, 3) := by decide +kernel
theorem dX6_sits_27 : decode cX6_sits 27 = .ok (.bipush 11, 2) := by decide +kernel
theorem dX6_sits_29 : decode cX6_sits 29 = .ok (.iaload, 1) := by decide +kernel
theorem dX6_sits_30 : decode cX6_sits 30 = .ok (.iload_n 1, 1) := by decide +kernel
theorem dX6_sits_31 : decode cX6_sits 31 = .ok (.if_icmp .ne 7, 3) := by decide +kernel
theorem dX6_sits_34 : decode cX6_sits 34 = .ok (.iconst 1, 1) := by decide +kernel
theorem dX6_sits_35 : decode cX6_sits 35 = .ok (.goto 4, 3) := by decide +kernel
theorem dX6_sits_38 : decode cX6_sits 38 = .ok (.iconst 0, 1) := by decide +kernel
theorem dX6_sits_39 : decode cX6_sits 39 = .ok (.ireturn, 1) := by decide +kernel
theorem dX6_knownBy_0 : decode cX6_knownBy 0 = .ok (.iconst 0, 1) := by decide +kernel
theorem dX6_knownBy_1 : decode cX6_knownBy 1 = .ok (.istore_n 2, 1) := by decide +kernel
theorem dX6_knownBy_2 : decode cX6_knownBy 2 = .ok (.iconst 0, 1) := by decide +kernel
theorem dX6_knownBy_3 : decode cX6_knownBy 3 = .ok (.istore_n 3, 1) := by decide +kernel
theorem dX6_knownBy_4 : decode cX6_knownBy 4 = .ok (.iload_n 3, 1) := by decide +kernel
theorem dX6_knownBy_5 : decode cX6_knownBy 5 = .ok (.aload_n 0, 1) := by decide +kernel
theorem dX6_knownBy_6 : decode cX6_knownBy 6 = .ok (.getfield 7, 3) := by decide +kernel
theorem dX6_knownBy_9 : decode cX6_knownBy 9 = .ok (.iconst 1, 1) := by decide +kernel
theorem dX6_knownBy_10 : decode cX6_knownBy 10 = .ok (.iaload, 1) := by decide +kernel
theorem dX6_knownBy_11 : decode cX6_knownBy 11 = .ok (.if_icmp .ge 34, 3) := by decide +kernel
theorem dX6_knownBy_14 : decode cX6_knownBy 14 = .ok (.iload_n 2, 1) := by decide +kernel
theorem dX6_knownBy_15 : decode cX6_knownBy 15 = .ok (.aload_n 0, 1) := by decide +kernel
theorem dX6_knownBy_16 : decode cX6_knownBy 16 = .ok (.getfield 16, 3) := by decide +kernel
theorem dX6_knownBy_19 : decode cX6_knownBy 19 = .ok (.iconst 0, 1) := by decide +kernel
theorem dX6_knownBy_20 : decode cX6_knownBy 20 = .ok (.iload_n 3, 1) := by decide +kernel
theorem dX6_knownBy_21 : decode cX6_knownBy 21 = .ok (.iadd, 1) := by decide +kernel
theorem dX6_knownBy_22 : decode cX6_knownBy 22 = .ok (.iaload, 1) := by decide +kernel
theorem dX6_knownBy_23 : decode cX6_knownBy 23 = .ok (.iload_n 1, 1) := by decide +kernel
theorem dX6_knownBy_24 : decode cX6_knownBy 24 = .ok (.invokestatic 105, 3) := by decide +kernel
theorem dX6_knownBy_27 : decode cX6_knownBy 27 = .ok (.ifCond .eq 9, 3) := by decide +kernel
theorem dX6_knownBy_30 : decode cX6_knownBy 30 = .ok (.iconst 1, 1) := by decide +kernel
theorem dX6_knownBy_31 : decode cX6_knownBy 31 = .ok (.iload_n 3, 1) := by decide +kernel
theorem dX6_knownBy_32 : decode cX6_knownBy 32 = .ok (.ishl, 1) := by decide +kernel
theorem dX6_knownBy_33 : decode cX6_knownBy 33 = .ok (.goto 4, 3) := by decide +kernel
theorem dX6_knownBy_36 : decode cX6_knownBy 36 = .ok (.iconst 0, 1) := by decide +kernel
theorem dX6_knownBy_37 : decode cX6_knownBy 37 = .ok (.ior, 1) := by decide +kernel
theorem dX6_knownBy_38 : decode cX6_knownBy 38 = .ok (.istore_n 2, 1) := by decide +kernel
theorem dX6_knownBy_39 : decode cX6_knownBy 39 = .ok (.iinc 3 1, 3) := by decide +kernel
theorem dX6_knownBy_42 : decode cX6_knownBy 42 = .ok (.goto (-38), 3) := by decide +kernel
theorem dX6_knownBy_45 : decode cX6_knownBy 45 = .ok (.iload_n 2, 1) := by decide +kernel
theorem dX6_knownBy_46 : decode cX6_knownBy 46 = .ok (.ireturn, 1) := by decide +kernel
theorem dX6_person_0 : decode cX6_person 0 = .ok (.aload_n 0, 1) := by decide +kernel
theorem dX6_person_1 : decode cX6_person 1 = .ok (.iload_n 1, 1) := by decide +kernel
theorem dX6_person_2 : decode cX6_person 2 = .ok (.invokevirtual 128, 3) := by decide +kernel
theorem dX6_person_5 : decode cX6_person 5 = .ok (.ifCond .ne 5, 3) := by decide +kernel
theorem dX6_person_8 : decode cX6_person 8 = .ok (.iconst (-1), 1) := by decide +kernel
theorem dX6_person_9 : decode cX6_person 9 = .ok (.ireturn, 1) := by decide +kernel
theorem dX6_person_10 : decode cX6_person 10 = .ok (.iload_n 2, 1) := by decide +kernel
theorem dX6_person_11 : decode cX6_person 11 = .ok (.tableswitch 68 0 3 #[29, 38, 48, 54], 29) := by decide +kernel
theorem dX6_person_40 : decode cX6_person 40 = .ok (.aload_n 0, 1) := by decide +kernel
theorem dX6_person_41 : decode cX6_person 41 = .ok (.getfield 7, 3) := by decide +kernel
theorem dX6_person_44 : decode cX6_person 44 = .ok (.iconst 2, 1) := by decide +kernel
theorem dX6_person_45 : decode cX6_person 45 = .ok (.iload_n 1, 1) := by decide +kernel
theorem dX6_person_46 : decode cX6_person 46 = .ok (.iadd, 1) := by decide +kernel
theorem dX6_person_47 : decode cX6_person 47 = .ok (.iaload, 1) := by decide +kernel
theorem dX6_person_48 : decode cX6_person 48 = .ok (.ireturn, 1) := by decide +kernel
theorem dX6_person_49 : decode cX6_person 49 = .ok (.aload_n 0, 1) := by decide +kernel
theorem dX6_person_50 : decode cX6_person 50 = .ok (.getfield 7, 3) := by decide +kernel
theorem dX6_person_53 : decode cX6_person 53 = .ok (.bipush 8, 2) := by decide +kernel
theorem dX6_person_55 : decode cX6_person 55 = .ok (.iload_n 1, 1) := by decide +kernel
theorem dX6_person_56 : decode cX6_person 56 = .ok (.iadd, 1) := by decide +kernel
theorem dX6_person_57 : decode cX6_person 57 = .ok (.iaload, 1) := by decide +kernel
theorem dX6_person_58 : decode cX6_person 58 = .ok (.ireturn, 1) := by decide +kernel
theorem dX6_person_59 : decode cX6_person 59 = .ok (.aload_n 0, 1) := by decide +kernel
theorem dX6_person_60 : decode cX6_person 60 = .ok (.iload_n 1, 1) := by decide +kernel
theorem dX6_person_61 : decode cX6_person 61 = .ok (.invokevirtual 131, 3) := by decide +kernel
theorem dX6_person_64 : decode cX6_person 64 = .ok (.ireturn, 1) := by decide +kernel
theorem dX6_person_65 : decode cX6_person 65 = .ok (.aload_n 0, 1) := by decide +kernel
theorem dX6_person_66 : decode cX6_person 66 = .ok (.iload_n 1, 1) := by decide +kernel
theorem dX6_person_67 : decode cX6_person 67 = .ok (.invokevirtual 134, 3) := by decide +kernel
theorem dX6_person_70 : decode cX6_person 70 = .ok (.ifCond .eq 7, 3) := by decide +kernel
theorem dX6_person_73 : decode cX6_person 73 = .ok (.iconst 1, 1) := by decide +kernel
theorem dX6_person_74 : decode cX6_person 74 = .ok (.goto 4, 3) := by decide +kernel
theorem dX6_person_77 : decode cX6_person 77 = .ok (.iconst 0, 1) := by decide +kernel
theorem dX6_person_78 : decode cX6_person 78 = .ok (.ireturn, 1) := by decide +kernel
theorem dX6_person_79 : decode cX6_person 79 = .ok (.iconst (-1), 1) := by decide +kernel
theorem dX6_person_80 : decode cX6_person 80 = .ok (.ireturn, 1) := by decide +kernel
theorem dX6_tale_0 : decode cX6_tale 0 = .ok (.aload_n 0, 1) := by decide +kernel
theorem dX6_tale_1 : decode cX6_tale 1 = .ok (.iload_n 1, 1) := by decide +kernel
theorem dX6_tale_2 : decode cX6_tale 2 = .ok (.invokevirtual 137, 3) := by decide +kernel
theorem dX6_tale_5 : decode cX6_tale 5 = .ok (.ifCond .ne 5, 3) := by decide +kernel
theorem dX6_tale_8 : decode cX6_tale 8 = .ok (.iconst (-1), 1) := by decide +kernel
theorem dX6_tale_9 : decode cX6_tale 9 = .ok (.ireturn, 1) := by decide +kernel
theorem dX6_tale_10 : decode cX6_tale 10 = .ok (.iload_n 2, 1) := by decide +kernel
theorem dX6_tale_11 : decode cX6_tale 11 = .ok (.tableswitch 69 0 4 #[33, 33, 33, 48, 60], 33) := by decide +kernel
theorem dX6_tale_44 : decode cX6_tale 44 = .ok (.aload_n 0, 1) := by decide +kernel
theorem dX6_tale_45 : decode cX6_tale 45 = .ok (.getfield 7, 3) := by decide +kernel
theorem dX6_tale_48 : decode cX6_tale 48 = .ok (.bipush 14, 2) := by decide +kernel
theorem dX6_tale_50 : decode cX6_tale 50 = .ok (.bipush 9, 2) := by decide +kernel
theorem dX6_tale_52 : decode cX6_tale 52 = .ok (.iload_n 2, 1) := by decide +kernel
theorem dX6_tale_53 : decode cX6_tale 53 = .ok (.imul, 1) := by decide +kernel
theorem dX6_tale_54 : decode cX6_tale 54 = .ok (.iadd, 1) := by decide +kernel
theorem dX6_tale_55 : decode cX6_tale 55 = .ok (.iload_n 1, 1) := by decide +kernel
theorem dX6_tale_56 : decode cX6_tale 56 = .ok (.iadd, 1) := by decide +kernel
theorem dX6_tale_57 : decode cX6_tale 57 = .ok (.iaload, 1) := by decide +kernel
theorem dX6_tale_58 : decode cX6_tale 58 = .ok (.ireturn, 1) := by decide +kernel
theorem dX6_tale_59 : decode cX6_tale 59 = .ok (.aload_n 0, 1) := by decide +kernel
theorem dX6_tale_60 : decode cX6_tale 60 = .ok (.getfield 16, 3) := by decide +kernel
theorem dX6_tale_63 : decode cX6_tale 63 = .ok (.bipush 9, 2) := by decide +kernel
theorem dX6_tale_65 : decode cX6_tale 65 = .ok (.iaload, 1) := by decide +kernel
theorem dX6_tale_66 : decode cX6_tale 66 = .ok (.iload_n 1, 1) := by decide +kernel
theorem dX6_tale_67 : decode cX6_tale 67 = .ok (.ishr, 1) := by decide +kernel
theorem dX6_tale_68 : decode cX6_tale 68 = .ok (.iconst 1, 1) := by decide +kernel
theorem dX6_tale_69 : decode cX6_tale 69 = .ok (.iand, 1) := by decide +kernel
theorem dX6_tale_70 : decode cX6_tale 70 = .ok (.ireturn, 1) := by decide +kernel
theorem dX6_tale_71 : decode cX6_tale 71 = .ok (.aload_n 0, 1) := by decide +kernel
theorem dX6_tale_72 : decode cX6_tale 72 = .ok (.getfield 16, 3) := by decide +kernel
theorem dX6_tale_75 : decode cX6_tale 75 = .ok (.iconst 0, 1) := by decide +kernel
theorem dX6_tale_76 : decode cX6_tale 76 = .ok (.iload_n 1, 1) := by decide +kernel
theorem dX6_tale_77 : decode cX6_tale 77 = .ok (.iadd, 1) := by decide +kernel
theorem dX6_tale_78 : decode cX6_tale 78 = .ok (.iaload, 1) := by decide +kernel
theorem dX6_tale_79 : decode cX6_tale 79 = .ok (.ireturn, 1) := by decide +kernel
theorem dX6_tale_80 : decode cX6_tale 80 = .ok (.iconst (-1), 1) := by decide +kernel
theorem dX6_tale_81 : decode cX6_tale 81 = .ok (.ireturn, 1) := by decide +kernel
theorem dX6_churn_0 : decode cX6_churn 0 = .ok (.iload_n 1, 1) := by decide +kernel
theorem dX6_churn_1 : decode cX6_churn 1 = .ok (.i2l, 1) := by decide +kernel
theorem dX6_churn_2 : decode cX6_churn 2 = .ok (.lconst 0, 1) := by decide +kernel
theorem dX6_churn_3 : decode cX6_churn 3 = .ok (.ldc2_w 140, 3) := by decide +kernel
theorem dX6_churn_6 : decode cX6_churn 6 = .ok (.invokestatic 73, 3) := by decide +kernel
theorem dX6_churn_9 : decode cX6_churn 9 = .ok (.ifCond .ne 5, 3) := by decide +kernel
theorem dX6_churn_12 : decode cX6_churn 12 = .ok (.iconst (-1), 1) := by decide +kernel
theorem dX6_churn_13 : decode cX6_churn 13 = .ok (.ireturn, 1) := by decide +kernel
theorem dX6_churn_14 : decode cX6_churn 14 = .ok (.aload_n 0, 1) := by decide +kernel
theorem dX6_churn_15 : decode cX6_churn 15 = .ok (.getfield 16, 3) := by decide +kernel
theorem dX6_churn_18 : decode cX6_churn 18 = .ok (.bipush 10, 2) := by decide +kernel
theorem dX6_churn_20 : decode cX6_churn 20 = .ok (.iaload, 1) := by decide +kernel
theorem dX6_churn_21 : decode cX6_churn 21 = .ok (.bipush (-4), 2) := by decide +kernel
theorem dX6_churn_23 : decode cX6_churn 23 = .ok (.if_icmp .ne 8, 3) := by decide +kernel
theorem dX6_churn_26 : decode cX6_churn 26 = .ok (.bipush (-4), 2) := by decide +kernel
theorem dX6_churn_28 : decode cX6_churn 28 = .ok (.goto 12, 3) := by decide +kernel
theorem dX6_churn_31 : decode cX6_churn 31 = .ok (.aload_n 0, 1) := by decide +kernel
theorem dX6_churn_32 : decode cX6_churn 32 = .ok (.getfield 16, 3) := by decide +kernel
theorem dX6_churn_35 : decode cX6_churn 35 = .ok (.bipush 10, 2) := by decide +kernel
theorem dX6_churn_37 : decode cX6_churn 37 = .ok (.iload_n 1, 1) := by decide +kernel
theorem dX6_churn_38 : decode cX6_churn 38 = .ok (.iadd, 1) := by decide +kernel
theorem dX6_churn_39 : decode cX6_churn 39 = .ok (.iaload, 1) := by decide +kernel
theorem dX6_churn_40 : decode cX6_churn 40 = .ok (.ireturn, 1) := by decide +kernel
theorem dX6_canTell_0 : decode cX6_canTell 0 = .ok (.aload_n 1, 1) := by decide +kernel
theorem dX6_canTell_1 : decode cX6_canTell 1 = .ok (.iconst 0, 1) := by decide +kernel
theorem dX6_canTell_2 : decode cX6_canTell 2 = .ok (.iload_n 2, 1) := by decide +kernel
theorem dX6_canTell_3 : decode cX6_canTell 3 = .ok (.iadd, 1) := by decide +kernel
theorem dX6_canTell_4 : decode cX6_canTell 4 = .ok (.iaload, 1) := by decide +kernel
theorem dX6_canTell_5 : decode cX6_canTell 5 = .ok (.iload_n 3, 1) := by decide +kernel
theorem dX6_canTell_6 : decode cX6_canTell 6 = .ok (.invokestatic 105, 3) := by decide +kernel
theorem dX6_canTell_9 : decode cX6_canTell 9 = .ok (.ifCond .eq 44, 3) := by decide +kernel
theorem dX6_canTell_12 : decode cX6_canTell 12 = .ok (.aload_n 0, 1) := by decide +kernel
theorem dX6_canTell_13 : decode cX6_canTell 13 = .ok (.getfield 7, 3) := by decide +kernel
theorem dX6_canTell_16 : decode cX6_canTell 16 = .ok (.iconst 2, 1) := by decide +kernel
theorem dX6_canTell_17 : decode cX6_canTell 17 = .ok (.iload_n 3, 1) := by decide +kernel
theorem dX6_canTell_18 : decode cX6_canTell 18 = .ok (.iadd, 1) := by decide +kernel
theorem dX6_canTell_19 : decode cX6_canTell 19 = .ok (.iaload, 1) := by decide +kernel
theorem dX6_canTell_20 : decode cX6_canTell 20 = .ok (.iconst 1, 1) := by decide +kernel
theorem dX6_canTell_21 : decode cX6_canTell 21 = .ok (.if_icmp .eq 32, 3) := by decide +kernel
theorem dX6_canTell_24 : decode cX6_canTell 24 = .ok (.aload_n 1, 1) := by decide +kernel
theorem dX6_canTell_25 : decode cX6_canTell 25 = .ok (.bipush 9, 2) := by decide +kernel
theorem dX6_canTell_27 : decode cX6_canTell 27 = .ok (.iaload, 1) := by decide +kernel
theorem dX6_canTell_28 : decode cX6_canTell 28 = .ok (.iload_n 2, 1) := by decide +kernel
theorem dX6_canTell_29 : decode cX6_canTell 29 = .ok (.invokestatic 105, 3) := by decide +kernel
theorem dX6_canTell_32 : decode cX6_canTell 32 = .ok (.ifCond .ne 21, 3) := by decide +kernel
theorem dX6_canTell_35 : decode cX6_canTell 35 = .ok (.aload_n 0, 1) := by decide +kernel
theorem dX6_canTell_36 : decode cX6_canTell 36 = .ok (.getfield 7, 3) := by decide +kernel
theorem dX6_canTell_39 : decode cX6_canTell 39 = .ok (.bipush 14, 2) := by decide +kernel
theorem dX6_canTell_41 : decode cX6_canTell 41 = .ok (.iload_n 2, 1) := by decide +kernel
theorem dX6_canTell_42 : decode cX6_canTell 42 = .ok (.iadd, 1) := by decide +kernel
theorem dX6_canTell_43 : decode cX6_canTell 43 = .ok (.iaload, 1) := by decide +kernel
theorem dX6_canTell_44 : decode cX6_canTell 44 = .ok (.iload 4, 2) := by decide +kernel
theorem dX6_canTell_46 : decode cX6_canTell 46 = .ok (.if_icmp .eq 7, 3) := by decide +kernel
theorem dX6_canTell_49 : decode cX6_canTell 49 = .ok (.iconst 1, 1) := by decide +kernel
theorem dX6_canTell_50 : decode cX6_canTell 50 = .ok (.goto 4, 3) := by decide +kernel
theorem dX6_canTell_53 : decode cX6_canTell 53 = .ok (.iconst 0, 1) := by decide +kernel
theorem dX6_canTell_54 : decode cX6_canTell 54 = .ok (.ireturn, 1) := by decide +kernel
theorem dX6_tellable_0 : decode cX6_tellable 0 = .ok (.iconst 0, 1) := by decide +kernel
theorem dX6_tellable_1 : decode cX6_tellable 1 = .ok (.istore 5, 2) := by decide +kernel
theorem dX6_tellable_3 : decode cX6_tellable 3 = .ok (.iconst 0, 1) := by decide +kernel
theorem dX6_tellable_4 : decode cX6_tellable 4 = .ok (.istore 6, 2) := by decide +kernel
theorem dX6_tellable_6 : decode cX6_tellable 6 = .ok (.iload 6, 2) := by decide +kernel
theorem dX6_tellable_8 : decode cX6_tellable 8 = .ok (.aload_n 0, 1) := by decide +kernel
theorem dX6_tellable_9 : decode cX6_tellable 9 = .ok (.getfield 7, 3) := by decide +kernel
theorem dX6_tellable_12 : decode cX6_tellable 12 = .ok (.iconst 1, 1) := by decide +kernel
theorem dX6_tellable_13 : decode cX6_tellable 13 = .ok (.iaload, 1) := by decide +kernel
theorem dX6_tellable_14 : decode cX6_tellable 14 = .ok (.if_icmp .ge 44, 3) := by decide +kernel
theorem dX6_tellable_17 : decode cX6_tellable 17 = .ok (.iload 5, 2) := by decide +kernel
theorem dX6_tellable_19 : decode cX6_tellable 19 = .ok (.aload_n 0, 1) := by decide +kernel
theorem dX6_tellable_20 : decode cX6_tellable 20 = .ok (.aload_n 1, 1) := by decide +kernel
theorem dX6_tellable_21 : decode cX6_tellable 21 = .ok (.iload 6, 2) := by decide +kernel
theorem dX6_tellable_23 : decode cX6_tellable 23 = .ok (.iload_n 2, 1) := by decide +kernel
theorem dX6_tellable_24 : decode cX6_tellable 24 = .ok (.iload_n 3, 1) := by decide +kernel
theorem dX6_tellable_25 : decode cX6_tellable 25 = .ok (.invokevirtual 142, 3) := by decide +kernel
theorem dX6_tellable_28 : decode cX6_tellable 28 = .ok (.ifCond .eq 20, 3) := by decide +kernel
theorem dX6_tellable_31 : decode cX6_tellable 31 = .ok (.iload 4, 2) := by decide +kernel
theorem dX6_tellable_33 : decode cX6_tellable 33 = .ok (.iload 6, 2) := by decide +kernel
theorem dX6_tellable_35 : decode cX6_tellable 35 = .ok (.invokestatic 105, 3) := by decide +kernel
theorem dX6_tellable_38 : decode cX6_tellable 38 = .ok (.ifCond .ne 10, 3) := by decide +kernel
theorem dX6_tellable_41 : decode cX6_tellable 41 = .ok (.iconst 1, 1) := by decide +kernel
theorem dX6_tellable_42 : decode cX6_tellable 42 = .ok (.iload 6, 2) := by decide +kernel
theorem dX6_tellable_44 : decode cX6_tellable 44 = .ok (.ishl, 1) := by decide +kernel
theorem dX6_tellable_45 : decode cX6_tellable 45 = .ok (.goto 4, 3) := by decide +kernel
theorem dX6_tellable_48 : decode cX6_tellable 48 = .ok (.iconst 0, 1) := by decide +kernel
theorem dX6_tellable_49 : decode cX6_tellable 49 = .ok (.ior, 1) := by decide +kernel
theorem dX6_tellable_50 : decode cX6_tellable 50 = .ok (.istore 5, 2) := by decide +kernel
theorem dX6_tellable_52 : decode cX6_tellable 52 = .ok (.iinc 6 1, 3) := by decide +kernel
theorem dX6_tellable_55 : decode cX6_tellable 55 = .ok (.goto (-49), 3) := by decide +kernel
theorem dX6_tellable_58 : decode cX6_tellable 58 = .ok (.iload 5, 2) := by decide +kernel
theorem dX6_tellable_60 : decode cX6_tellable 60 = .ok (.ireturn, 1) := by decide +kernel
theorem dX6_lowest_0 : decode cX6_lowest 0 = .ok (.iconst 0, 1) := by decide +kernel
theorem dX6_lowest_1 : decode cX6_lowest 1 = .ok (.istore_n 1, 1) := by decide +kernel
theorem dX6_lowest_2 : decode cX6_lowest 2 = .ok (.iload_n 0, 1) := by decide +kernel
theorem dX6_lowest_3 : decode cX6_lowest 3 = .ok (.iload_n 1, 1) := by decide +kernel
theorem dX6_lowest_4 : decode cX6_lowest 4 = .ok (.invokestatic 105, 3) := by decide +kernel
theorem dX6_lowest_7 : decode cX6_lowest 7 = .ok (.ifCond .ne 9, 3) := by decide +kernel
theorem dX6_lowest_10 : decode cX6_lowest 10 = .ok (.iinc 1 1, 3) := by decide +kernel
theorem dX6_lowest_13 : decode cX6_lowest 13 = .ok (.goto (-11), 3) := by decide +kernel
theorem dX6_lowest_16 : decode cX6_lowest 16 = .ok (.iload_n 1, 1) := by decide +kernel
theorem dX6_lowest_17 : decode cX6_lowest 17 = .ok (.ireturn, 1) := by decide +kernel
theorem dX6_otherOf_0 : decode cX6_otherOf 0 = .ok (.aload_n 0, 1) := by decide +kernel
theorem dX6_otherOf_1 : decode cX6_otherOf 1 = .ok (.bipush 10, 2) := by decide +kernel
theorem dX6_otherOf_3 : decode cX6_otherOf 3 = .ok (.iaload, 1) := by decide +kernel
theorem dX6_otherOf_4 : decode cX6_otherOf 4 = .ok (.iload_n 1, 1) := by decide +kernel
theorem dX6_otherOf_5 : decode cX6_otherOf 5 = .ok (.if_icmp .ne 10, 3) := by decide +kernel
theorem dX6_otherOf_8 : decode cX6_otherOf 8 = .ok (.aload_n 0, 1) := by decide +kernel
theorem dX6_otherOf_9 : decode cX6_otherOf 9 = .ok (.bipush 11, 2) := by decide +kernel
theorem dX6_otherOf_11 : decode cX6_otherOf 11 = .ok (.iaload, 1) := by decide +kernel
theorem dX6_otherOf_12 : decode cX6_otherOf 12 = .ok (.goto 7, 3) := by decide +kernel
theorem dX6_otherOf_15 : decode cX6_otherOf 15 = .ok (.aload_n 0, 1) := by decide +kernel
theorem dX6_otherOf_16 : decode cX6_otherOf 16 = .ok (.bipush 10, 2) := by decide +kernel
theorem dX6_otherOf_18 : decode cX6_otherOf 18 = .ok (.iaload, 1) := by decide +kernel
theorem dX6_otherOf_19 : decode cX6_otherOf 19 = .ok (.ireturn, 1) := by decide +kernel
theorem dX6_isTold_0 : decode cX6_isTold 0 = .ok (.iconst 0, 1) := by decide +kernel
theorem dX6_isTold_1 : decode cX6_isTold 1 = .ok (.istore_n 2, 1) := by decide +kernel
theorem dX6_isTold_2 : decode cX6_isTold 2 = .ok (.iload_n 2, 1) := by decide +kernel
theorem dX6_isTold_3 : decode cX6_isTold 3 = .ok (.iconst 2, 1) := by decide +kernel
theorem dX6_isTold_4 : decode cX6_isTold 4 = .ok (.if_icmp .ge 90, 3) := by decide +kernel
theorem dX6_isTold_7 : decode cX6_isTold 7 = .ok (.aload_n 1, 1) := by decide +kernel
theorem dX6_isTold_8 : decode cX6_isTold 8 = .ok (.bipush 13, 2) := by decide +kernel
theorem dX6_isTold_10 : decode cX6_isTold 10 = .ok (.iaload, 1) := by decide +kernel
theorem dX6_isTold_11 : decode cX6_isTold 11 = .ok (.bipush (-4), 2) := by decide +kernel
theorem dX6_isTold_13 : decode cX6_isTold 13 = .ok (.if_icmp .ne 81, 3) := by decide +kernel
theorem dX6_isTold_16 : decode cX6_isTold 16 = .ok (.iload_n 2, 1) := by decide +kernel
theorem dX6_isTold_17 : decode cX6_isTold 17 = .ok (.ifCond .ne 10, 3) := by decide +kernel
theorem dX6_isTold_20 : decode cX6_isTold 20 = .ok (.aload_n 1, 1) := by decide +kernel
theorem dX6_isTold_21 : decode cX6_isTold 21 = .ok (.bipush 12, 2) := by decide +kernel
theorem dX6_isTold_23 : decode cX6_isTold 23 = .ok (.iaload, 1) := by decide +kernel
theorem dX6_isTold_24 : decode cX6_isTold 24 = .ok (.goto 11, 3) := by decide +kernel
theorem dX6_isTold_27 : decode cX6_isTold 27 = .ok (.aload_n 1, 1) := by decide +kernel
theorem dX6_isTold_28 : decode cX6_isTold 28 = .ok (.aload_n 1, 1) := by decide +kernel
theorem dX6_isTold_29 : decode cX6_isTold 29 = .ok (.bipush 12, 2) := by decide +kernel
theorem dX6_isTold_31 : decode cX6_isTold 31 = .ok (.iaload, 1) := by decide +kernel
theorem dX6_isTold_32 : decode cX6_isTold 32 = .ok (.invokestatic 146, 3) := by decide +kernel
theorem dX6_isTold_35 : decode cX6_isTold 35 = .ok (.istore_n 3, 1) := by decide +kernel
theorem dX6_isTold_36 : decode cX6_isTold 36 = .ok (.aload_n 0, 1) := by decide +kernel
theorem dX6_isTold_37 : decode cX6_isTold 37 = .ok (.aload_n 1, 1) := by decide +kernel
theorem dX6_isTold_38 : decode cX6_isTold 38 = .ok (.iload_n 3, 1) := by decide +kernel
theorem dX6_isTold_39 : decode cX6_isTold 39 = .ok (.aload_n 1, 1) := by decide +kernel
theorem dX6_isTold_40 : decode cX6_isTold 40 = .ok (.iload_n 3, 1) := by decide +kernel
theorem dX6_isTold_41 : decode cX6_isTold 41 = .ok (.invokestatic 146, 3) := by decide +kernel
theorem dX6_isTold_44 : decode cX6_isTold 44 = .ok (.aload_n 1, 1) := by decide +kernel
theorem dX6_isTold_45 : decode cX6_isTold 45 = .ok (.bipush 15, 2) := by decide +kernel
theorem dX6_isTold_47 : decode cX6_isTold 47 = .ok (.iaload, 1) := by decide +kernel
theorem dX6_isTold_48 : decode cX6_isTold 48 = .ok (.invokevirtual 150, 3) := by decide +kernel
theorem dX6_isTold_51 : decode cX6_isTold 51 = .ok (.istore 4, 2) := by decide +kernel
theorem dX6_isTold_53 : decode cX6_isTold 53 = .ok (.iload 4, 2) := by decide +kernel
theorem dX6_isTold_55 : decode cX6_isTold 55 = .ok (.ifCond .eq 33, 3) := by decide +kernel
theorem dX6_isTold_58 : decode cX6_isTold 58 = .ok (.aload_n 1, 1) := by decide +kernel
theorem dX6_isTold_59 : decode cX6_isTold 59 = .ok (.bipush 12, 2) := by decide +kernel
theorem dX6_isTold_61 : decode cX6_isTold 61 = .ok (.iload_n 3, 1) := by decide +kernel
theorem dX6_isTold_62 : decode cX6_isTold 62 = .ok (.iastore, 1) := by decide +kernel
theorem dX6_isTold_63 : decode cX6_isTold 63 = .ok (.aload_n 1, 1) := by decide +kernel
theorem dX6_isTold_64 : decode cX6_isTold 64 = .ok (.bipush 13, 2) := by decide +kernel
theorem dX6_isTold_66 : decode cX6_isTold 66 = .ok (.iload 4, 2) := by decide +kernel
theorem dX6_isTold_68 : decode cX6_isTold 68 = .ok (.invokestatic 154, 3) := by decide +kernel
theorem dX6_isTold_71 : decode cX6_isTold 71 = .ok (.iastore, 1) := by decide +kernel
theorem dX6_isTold_72 : decode cX6_isTold 72 = .ok (.aload_n 1, 1) := by decide +kernel
theorem dX6_isTold_73 : decode cX6_isTold 73 = .ok (.bipush 14, 2) := by decide +kernel
theorem dX6_isTold_75 : decode cX6_isTold 75 = .ok (.aload_n 0, 1) := by decide +kernel
theorem dX6_isTold_76 : decode cX6_isTold 76 = .ok (.getfield 7, 3) := by decide +kernel
theorem dX6_isTold_79 : decode cX6_isTold 79 = .ok (.bipush 32, 2) := by decide +kernel
theorem dX6_isTold_81 : decode cX6_isTold 81 = .ok (.aload_n 1, 1) := by decide +kernel
theorem dX6_isTold_82 : decode cX6_isTold 82 = .ok (.bipush 13, 2) := by decide +kernel
theorem dX6_isTold_84 : decode cX6_isTold 84 = .ok (.iaload, 1) := by decide +kernel
theorem dX6_isTold_85 : decode cX6_isTold 85 = .ok (.iadd, 1) := by decide +kernel
theorem dX6_isTold_86 : decode cX6_isTold 86 = .ok (.iaload, 1) := by decide +kernel
theorem dX6_isTold_87 : decode cX6_isTold 87 = .ok (.iastore, 1) := by decide +kernel
theorem dX6_isTold_88 : decode cX6_isTold 88 = .ok (.iinc 2 1, 3) := by decide +kernel
theorem dX6_isTold_91 : decode cX6_isTold 91 = .ok (.goto (-89), 3) := by decide +kernel
theorem dX6_isTold_94 : decode cX6_isTold 94 = .ok (.aload_n 1, 1) := by decide +kernel
theorem dX6_isTold_95 : decode cX6_isTold 95 = .ok (.bipush 13, 2) := by decide +kernel
theorem dX6_isTold_97 : decode cX6_isTold 97 = .ok (.iaload, 1) := by decide +kernel
theorem dX6_isTold_98 : decode cX6_isTold 98 = .ok (.bipush (-4), 2) := by decide +kernel
theorem dX6_isTold_100 : decode cX6_isTold 100 = .ok (.if_icmp .eq 7, 3) := by decide +kernel
theorem dX6_isTold_103 : decode cX6_isTold 103 = .ok (.iconst 1, 1) := by decide +kernel
theorem dX6_isTold_104 : decode cX6_isTold 104 = .ok (.goto 4, 3) := by decide +kernel
theorem dX6_isTold_107 : decode cX6_isTold 107 = .ok (.iconst 0, 1) := by decide +kernel
theorem dX6_isTold_108 : decode cX6_isTold 108 = .ok (.ireturn, 1) := by decide +kernel
theorem dX6_minuteGoes_0 : decode cX6_minuteGoes 0 = .ok (.aload_n 1, 1) := by decide +kernel
theorem dX6_minuteGoes_1 : decode cX6_minuteGoes 1 = .ok (.bipush 16, 2) := by decide +kernel
theorem dX6_minuteGoes_3 : decode cX6_minuteGoes 3 = .ok (.dup2, 1) := by decide +kernel
theorem dX6_minuteGoes_4 : decode cX6_minuteGoes 4 = .ok (.iaload, 1) := by decide +kernel
theorem dX6_minuteGoes_5 : decode cX6_minuteGoes 5 = .ok (.iconst 1, 1) := by decide +kernel
theorem dX6_minuteGoes_6 : decode cX6_minuteGoes 6 = .ok (.iadd, 1) := by decide +kernel
theorem dX6_minuteGoes_7 : decode cX6_minuteGoes 7 = .ok (.iastore, 1) := by decide +kernel
theorem dX6_minuteGoes_8 : decode cX6_minuteGoes 8 = .ok (.aload_n 1, 1) := by decide +kernel
theorem dX6_minuteGoes_9 : decode cX6_minuteGoes 9 = .ok (.bipush 10, 2) := by decide +kernel
theorem dX6_minuteGoes_11 : decode cX6_minuteGoes 11 = .ok (.iaload, 1) := by decide +kernel
theorem dX6_minuteGoes_12 : decode cX6_minuteGoes 12 = .ok (.bipush (-4), 2) := by decide +kernel
theorem dX6_minuteGoes_14 : decode cX6_minuteGoes 14 = .ok (.if_icmp .ne 4, 3) := by decide +kernel
theorem dX6_minuteGoes_17 : decode cX6_minuteGoes 17 = .ok (.return_, 1) := by decide +kernel
theorem dX6_minuteGoes_18 : decode cX6_minuteGoes 18 = .ok (.aload_n 0, 1) := by decide +kernel
theorem dX6_minuteGoes_19 : decode cX6_minuteGoes 19 = .ok (.aload_n 1, 1) := by decide +kernel
theorem dX6_minuteGoes_20 : decode cX6_minuteGoes 20 = .ok (.invokevirtual 157, 3) := by decide +kernel
theorem dX6_minuteGoes_23 : decode cX6_minuteGoes 23 = .ok (.ifCond .ne 47, 3) := by decide +kernel
theorem dX6_minuteGoes_26 : decode cX6_minuteGoes 26 = .ok (.aload_n 1, 1) := by decide +kernel
theorem dX6_minuteGoes_27 : decode cX6_minuteGoes 27 = .ok (.bipush 17, 2) := by decide +kernel
theorem dX6_minuteGoes_29 : decode cX6_minuteGoes 29 = .ok (.dup2, 1) := by decide +kernel
theorem dX6_minuteGoes_30 : decode cX6_minuteGoes 30 = .ok (.iaload, 1) := by decide +kernel
theorem dX6_minuteGoes_31 : decode cX6_minuteGoes 31 = .ok (.aload_n 0, 1) := by decide +kernel
theorem dX6_minuteGoes_32 : decode cX6_minuteGoes 32 = .ok (.getfield 7, 3) := by decide +kernel
theorem dX6_minuteGoes_35 : decode cX6_minuteGoes 35 = .ok (.iconst 2, 1) := by decide +kernel
theorem dX6_minuteGoes_36 : decode cX6_minuteGoes 36 = .ok (.aload_n 1, 1) := by decide +kernel
theorem dX6_minuteGoes_37 : decode cX6_minuteGoes 37 = .ok (.bipush 10, 2) := by decide +kernel
theorem dX6_minuteGoes_39 : decode cX6_minuteGoes 39 = .ok (.iaload, 1) := by decide +kernel
theorem dX6_minuteGoes_40 : decode cX6_minuteGoes 40 = .ok (.iadd, 1) := by decide +kernel
theorem dX6_minuteGoes_41 : decode cX6_minuteGoes 41 = .ok (.iaload, 1) := by decide +kernel
theorem dX6_minuteGoes_42 : decode cX6_minuteGoes 42 = .ok (.iconst 3, 1) := by decide +kernel
theorem dX6_minuteGoes_43 : decode cX6_minuteGoes 43 = .ok (.if_icmp .ne 23, 3) := by decide +kernel
theorem dX6_minuteGoes_46 : decode cX6_minuteGoes 46 = .ok (.aload_n 0, 1) := by decide +kernel
theorem dX6_minuteGoes_47 : decode cX6_minuteGoes 47 = .ok (.getfield 7, 3) := by decide +kernel
theorem dX6_minuteGoes_50 : decode cX6_minuteGoes 50 = .ok (.iconst 2, 1) := by decide +kernel
theorem dX6_minuteGoes_51 : decode cX6_minuteGoes 51 = .ok (.aload_n 1, 1) := by decide +kernel
theorem dX6_minuteGoes_52 : decode cX6_minuteGoes 52 = .ok (.bipush 11, 2) := by decide +kernel
theorem dX6_minuteGoes_54 : decode cX6_minuteGoes 54 = .ok (.iaload, 1) := by decide +kernel
theorem dX6_minuteGoes_55 : decode cX6_minuteGoes 55 = .ok (.iadd, 1) := by decide +kernel
theorem dX6_minuteGoes_56 : decode cX6_minuteGoes 56 = .ok (.iaload, 1) := by decide +kernel
theorem dX6_minuteGoes_57 : decode cX6_minuteGoes 57 = .ok (.iconst 3, 1) := by decide +kernel
theorem dX6_minuteGoes_58 : decode cX6_minuteGoes 58 = .ok (.if_icmp .ne 8, 3) := by decide +kernel
theorem dX6_minuteGoes_61 : decode cX6_minuteGoes 61 = .ok (.bipush 10, 2) := by decide +kernel
theorem dX6_minuteGoes_63 : decode cX6_minuteGoes 63 = .ok (.goto 4, 3) := by decide +kernel
theorem dX6_minuteGoes_66 : decode cX6_minuteGoes 66 = .ok (.iconst 0, 1) := by decide +kernel
theorem dX6_minuteGoes_67 : decode cX6_minuteGoes 67 = .ok (.iadd, 1) := by decide +kernel
theorem dX6_minuteGoes_68 : decode cX6_minuteGoes 68 = .ok (.iastore, 1) := by decide +kernel
theorem dX6_minuteGoes_69 : decode cX6_minuteGoes 69 = .ok (.return_, 1) := by decide +kernel
theorem dX6_minuteGoes_70 : decode cX6_minuteGoes 70 = .ok (.aload_n 1, 1) := by decide +kernel
theorem dX6_minuteGoes_71 : decode cX6_minuteGoes 71 = .ok (.bipush 13, 2) := by decide +kernel
theorem dX6_minuteGoes_73 : decode cX6_minuteGoes 73 = .ok (.iaload, 1) := by decide +kernel
theorem dX6_minuteGoes_74 : decode cX6_minuteGoes 74 = .ok (.istore_n 2, 1) := by decide +kernel
theorem dX6_minuteGoes_75 : decode cX6_minuteGoes 75 = .ok (.aload_n 1, 1) := by decide +kernel
theorem dX6_minuteGoes_76 : decode cX6_minuteGoes 76 = .ok (.bipush 17, 2) := by decide +kernel
theorem dX6_minuteGoes_78 : decode cX6_minuteGoes 78 = .ok (.dup2, 1) := by decide +kernel
theorem dX6_minuteGoes_79 : decode cX6_minuteGoes 79 = .ok (.iaload, 1) := by decide +kernel
theorem dX6_minuteGoes_80 : decode cX6_minuteGoes 80 = .ok (.aload_n 0, 1) := by decide +kernel
theorem dX6_minuteGoes_81 : decode cX6_minuteGoes 81 = .ok (.getfield 7, 3) := by decide +kernel
theorem dX6_minuteGoes_84 : decode cX6_minuteGoes 84 = .ok (.iconst 2, 1) := by decide +kernel
theorem dX6_minuteGoes_85 : decode cX6_minuteGoes 85 = .ok (.aload_n 1, 1) := by decide +kernel
theorem dX6_minuteGoes_86 : decode cX6_minuteGoes 86 = .ok (.bipush 12, 2) := by decide +kernel
theorem dX6_minuteGoes_88 : decode cX6_minuteGoes 88 = .ok (.iaload, 1) := by decide +kernel
theorem dX6_minuteGoes_89 : decode cX6_minuteGoes 89 = .ok (.iadd, 1) := by decide +kernel
theorem dX6_minuteGoes_90 : decode cX6_minuteGoes 90 = .ok (.iaload, 1) := by decide +kernel
theorem dX6_minuteGoes_91 : decode cX6_minuteGoes 91 = .ok (.iconst 2, 1) := by decide +kernel
theorem dX6_minuteGoes_92 : decode cX6_minuteGoes 92 = .ok (.if_icmp .ne 17, 3) := by decide +kernel
theorem dX6_minuteGoes_95 : decode cX6_minuteGoes 95 = .ok (.aload_n 0, 1) := by decide +kernel
theorem dX6_minuteGoes_96 : decode cX6_minuteGoes 96 = .ok (.getfield 7, 3) := by decide +kernel
theorem dX6_minuteGoes_99 : decode cX6_minuteGoes 99 = .ok (.bipush 23, 2) := by decide +kernel
theorem dX6_minuteGoes_101 : decode cX6_minuteGoes 101 = .ok (.iload_n 2, 1) := by decide +kernel
theorem dX6_minuteGoes_102 : decode cX6_minuteGoes 102 = .ok (.iadd, 1) := by decide +kernel
theorem dX6_minuteGoes_103 : decode cX6_minuteGoes 103 = .ok (.iaload, 1) := by decide +kernel
theorem dX6_minuteGoes_104 : decode cX6_minuteGoes 104 = .ok (.iconst 2, 1) := by decide +kernel
theorem dX6_minuteGoes_105 : decode cX6_minuteGoes 105 = .ok (.idiv, 1) := by decide +kernel
theorem dX6_minuteGoes_106 : decode cX6_minuteGoes 106 = .ok (.goto 12, 3) := by decide +kernel
theorem dX6_minuteGoes_109 : decode cX6_minuteGoes 109 = .ok (.aload_n 0, 1) := by decide +kernel
theorem dX6_minuteGoes_110 : decode cX6_minuteGoes 110 = .ok (.getfield 7, 3) := by decide +kernel
theorem dX6_minuteGoes_113 : decode cX6_minuteGoes 113 = .ok (.bipush 23, 2) := by decide +kernel
theorem dX6_minuteGoes_115 : decode cX6_minuteGoes 115 = .ok (.iload_n 2, 1) := by decide +kernel
theorem dX6_minuteGoes_116 : decode cX6_minuteGoes 116 = .ok (.iadd, 1) := by decide +kernel
theorem dX6_minuteGoes_117 : decode cX6_minuteGoes 117 = .ok (.iaload, 1) := by decide +kernel
theorem dX6_minuteGoes_118 : decode cX6_minuteGoes 118 = .ok (.iadd, 1) := by decide +kernel
theorem dX6_minuteGoes_119 : decode cX6_minuteGoes 119 = .ok (.iastore, 1) := by decide +kernel
theorem dX6_minuteGoes_120 : decode cX6_minuteGoes 120 = .ok (.aload_n 1, 1) := by decide +kernel
theorem dX6_minuteGoes_121 : decode cX6_minuteGoes 121 = .ok (.bipush 14, 2) := by decide +kernel
theorem dX6_minuteGoes_123 : decode cX6_minuteGoes 123 = .ok (.dup2, 1) := by decide +kernel
theorem dX6_minuteGoes_124 : decode cX6_minuteGoes 124 = .ok (.iaload, 1) := by decide +kernel
theorem dX6_minuteGoes_125 : decode cX6_minuteGoes 125 = .ok (.iconst 1, 1) := by decide +kernel
theorem dX6_minuteGoes_126 : decode cX6_minuteGoes 126 = .ok (.isub, 1) := by decide +kernel
theorem dX6_minuteGoes_127 : decode cX6_minuteGoes 127 = .ok (.iastore, 1) := by decide +kernel
theorem dX6_minuteGoes_128 : decode cX6_minuteGoes 128 = .ok (.aload_n 1, 1) := by decide +kernel
theorem dX6_minuteGoes_129 : decode cX6_minuteGoes 129 = .ok (.bipush 14, 2) := by decide +kernel
theorem dX6_minuteGoes_131 : decode cX6_minuteGoes 131 = .ok (.iaload, 1) := by decide +kernel
theorem dX6_minuteGoes_132 : decode cX6_minuteGoes 132 = .ok (.ifCond .ne 45, 3) := by decide +kernel
theorem dX6_minuteGoes_135 : decode cX6_minuteGoes 135 = .ok (.aload_n 1, 1) := by decide +kernel
theorem dX6_minuteGoes_136 : decode cX6_minuteGoes 136 = .ok (.bipush 15, 2) := by decide +kernel
theorem dX6_minuteGoes_138 : decode cX6_minuteGoes 138 = .ok (.dup2, 1) := by decide +kernel
theorem dX6_minuteGoes_139 : decode cX6_minuteGoes 139 = .ok (.iaload, 1) := by decide +kernel
theorem dX6_minuteGoes_140 : decode cX6_minuteGoes 140 = .ok (.iconst 1, 1) := by decide +kernel
theorem dX6_minuteGoes_141 : decode cX6_minuteGoes 141 = .ok (.iload_n 2, 1) := by decide +kernel
theorem dX6_minuteGoes_142 : decode cX6_minuteGoes 142 = .ok (.ishl, 1) := by decide +kernel
theorem dX6_minuteGoes_143 : decode cX6_minuteGoes 143 = .ok (.ior, 1) := by decide +kernel
theorem dX6_minuteGoes_144 : decode cX6_minuteGoes 144 = .ok (.iastore, 1) := by decide +kernel
theorem dX6_minuteGoes_145 : decode cX6_minuteGoes 145 = .ok (.aload_n 1, 1) := by decide +kernel
theorem dX6_minuteGoes_146 : decode cX6_minuteGoes 146 = .ok (.bipush 12, 2) := by decide +kernel
theorem dX6_minuteGoes_148 : decode cX6_minuteGoes 148 = .ok (.aload_n 1, 1) := by decide +kernel
theorem dX6_minuteGoes_149 : decode cX6_minuteGoes 149 = .ok (.aload_n 1, 1) := by decide +kernel
theorem dX6_minuteGoes_150 : decode cX6_minuteGoes 150 = .ok (.bipush 12, 2) := by decide +kernel
theorem dX6_minuteGoes_152 : decode cX6_minuteGoes 152 = .ok (.iaload, 1) := by decide +kernel
theorem dX6_minuteGoes_153 : decode cX6_minuteGoes 153 = .ok (.invokestatic 146, 3) := by decide +kernel
theorem dX6_minuteGoes_156 : decode cX6_minuteGoes 156 = .ok (.iastore, 1) := by decide +kernel
theorem dX6_minuteGoes_157 : decode cX6_minuteGoes 157 = .ok (.aload_n 1, 1) := by decide +kernel
theorem dX6_minuteGoes_158 : decode cX6_minuteGoes 158 = .ok (.iconst 0, 1) := by decide +kernel
theorem dX6_minuteGoes_159 : decode cX6_minuteGoes 159 = .ok (.iload_n 2, 1) := by decide +kernel
theorem dX6_minuteGoes_160 : decode cX6_minuteGoes 160 = .ok (.iadd, 1) := by decide +kernel
theorem dX6_minuteGoes_161 : decode cX6_minuteGoes 161 = .ok (.dup2, 1) := by decide +kernel
theorem dX6_minuteGoes_162 : decode cX6_minuteGoes 162 = .ok (.iaload, 1) := by decide +kernel
theorem dX6_minuteGoes_163 : decode cX6_minuteGoes 163 = .ok (.iconst 1, 1) := by decide +kernel
theorem dX6_minuteGoes_164 : decode cX6_minuteGoes 164 = .ok (.aload_n 1, 1) := by decide +kernel
theorem dX6_minuteGoes_165 : decode cX6_minuteGoes 165 = .ok (.bipush 12, 2) := by decide +kernel
theorem dX6_minuteGoes_167 : decode cX6_minuteGoes 167 = .ok (.iaload, 1) := by decide +kernel
theorem dX6_minuteGoes_168 : decode cX6_minuteGoes 168 = .ok (.ishl, 1) := by decide +kernel
theorem dX6_minuteGoes_169 : decode cX6_minuteGoes 169 = .ok (.ior, 1) := by decide +kernel
theorem dX6_minuteGoes_170 : decode cX6_minuteGoes 170 = .ok (.iastore, 1) := by decide +kernel
theorem dX6_minuteGoes_171 : decode cX6_minuteGoes 171 = .ok (.aload_n 1, 1) := by decide +kernel
theorem dX6_minuteGoes_172 : decode cX6_minuteGoes 172 = .ok (.bipush 13, 2) := by decide +kernel
theorem dX6_minuteGoes_174 : decode cX6_minuteGoes 174 = .ok (.bipush (-4), 2) := by decide +kernel
theorem dX6_minuteGoes_176 : decode cX6_minuteGoes 176 = .ok (.iastore, 1) := by decide +kernel
theorem dX6_minuteGoes_177 : decode cX6_minuteGoes 177 = .ok (.return_, 1) := by decide +kernel
theorem dX6_sitsDown_0 : decode cX6_sitsDown 0 = .ok (.aload_n 1, 1) := by decide +kernel
theorem dX6_sitsDown_1 : decode cX6_sitsDown 1 = .ok (.bipush 10, 2) := by decide +kernel
theorem dX6_sitsDown_3 : decode cX6_sitsDown 3 = .ok (.iload_n 2, 1) := by decide +kernel
theorem dX6_sitsDown_4 : decode cX6_sitsDown 4 = .ok (.iastore, 1) := by decide +kernel
theorem dX6_sitsDown_5 : decode cX6_sitsDown 5 = .ok (.aload_n 1, 1) := by decide +kernel
theorem dX6_sitsDown_6 : decode cX6_sitsDown 6 = .ok (.bipush 11, 2) := by decide +kernel
theorem dX6_sitsDown_8 : decode cX6_sitsDown 8 = .ok (.iload_n 3, 1) := by decide +kernel
theorem dX6_sitsDown_9 : decode cX6_sitsDown 9 = .ok (.iastore, 1) := by decide +kernel
theorem dX6_sitsDown_10 : decode cX6_sitsDown 10 = .ok (.aload_n 1, 1) := by decide +kernel
theorem dX6_sitsDown_11 : decode cX6_sitsDown 11 = .ok (.bipush 12, 2) := by decide +kernel
theorem dX6_sitsDown_13 : decode cX6_sitsDown 13 = .ok (.iload_n 2, 1) := by decide +kernel
theorem dX6_sitsDown_14 : decode cX6_sitsDown 14 = .ok (.iastore, 1) := by decide +kernel
theorem dX6_sitsDown_15 : decode cX6_sitsDown 15 = .ok (.aload_n 1, 1) := by decide +kernel
theorem dX6_sitsDown_16 : decode cX6_sitsDown 16 = .ok (.invokestatic 161, 3) := by decide +kernel
theorem dX6_sitsDown_19 : decode cX6_sitsDown 19 = .ok (.return_, 1) := by decide +kernel
theorem dX6_standsAnew_0 : decode cX6_standsAnew 0 = .ok (.aload_n 0, 1) := by decide +kernel
theorem dX6_standsAnew_1 : decode cX6_standsAnew 1 = .ok (.bipush 13, 2) := by decide +kernel
theorem dX6_standsAnew_3 : decode cX6_standsAnew 3 = .ok (.bipush (-4), 2) := by decide +kernel
theorem dX6_standsAnew_5 : decode cX6_standsAnew 5 = .ok (.iastore, 1) := by decide +kernel
theorem dX6_standsAnew_6 : decode cX6_standsAnew 6 = .ok (.aload_n 0, 1) := by decide +kernel
theorem dX6_standsAnew_7 : decode cX6_standsAnew 7 = .ok (.bipush 14, 2) := by decide +kernel
theorem dX6_standsAnew_9 : decode cX6_standsAnew 9 = .ok (.iconst 0, 1) := by decide +kernel
theorem dX6_standsAnew_10 : decode cX6_standsAnew 10 = .ok (.iastore, 1) := by decide +kernel
theorem dX6_standsAnew_11 : decode cX6_standsAnew 11 = .ok (.aload_n 0, 1) := by decide +kernel
theorem dX6_standsAnew_12 : decode cX6_standsAnew 12 = .ok (.bipush 15, 2) := by decide +kernel
theorem dX6_standsAnew_14 : decode cX6_standsAnew 14 = .ok (.iconst 0, 1) := by decide +kernel
theorem dX6_standsAnew_15 : decode cX6_standsAnew 15 = .ok (.iastore, 1) := by decide +kernel
theorem dX6_standsAnew_16 : decode cX6_standsAnew 16 = .ok (.return_, 1) := by decide +kernel
theorem dX6_remember_0 : decode cX6_remember 0 = .ok (.aload_n 0, 1) := by decide +kernel
theorem dX6_remember_1 : decode cX6_remember 1 = .ok (.getfield 62, 3) := by decide +kernel
theorem dX6_remember_4 : decode cX6_remember 4 = .ok (.bipush 8, 2) := by decide +kernel
theorem dX6_remember_6 : decode cX6_remember 6 = .ok (.if_icmp .ne 42, 3) := by decide +kernel
theorem dX6_remember_9 : decode cX6_remember 9 = .ok (.iconst 0, 1) := by decide +kernel
theorem dX6_remember_10 : decode cX6_remember 10 = .ok (.istore_n 1, 1) := by decide +kernel
theorem dX6_remember_11 : decode cX6_remember 11 = .ok (.iload_n 1, 1) := by decide +kernel
theorem dX6_remember_12 : decode cX6_remember 12 = .ok (.bipush 126, 2) := by decide +kernel
theorem dX6_remember_14 : decode cX6_remember 14 = .ok (.if_icmp .ge 24, 3) := by decide +kernel
theorem dX6_remember_17 : decode cX6_remember 17 = .ok (.aload_n 0, 1) := by decide +kernel
theorem dX6_remember_18 : decode cX6_remember 18 = .ok (.getfield 22, 3) := by decide +kernel
theorem dX6_remember_21 : decode cX6_remember 21 = .ok (.iload_n 1, 1) := by decide +kernel
theorem dX6_remember_22 : decode cX6_remember 22 = .ok (.aload_n 0, 1) := by decide +kernel
theorem dX6_remember_23 : decode cX6_remember 23 = .ok (.getfield 22, 3) := by decide +kernel
theorem dX6_remember_26 : decode cX6_remember 26 = .ok (.iload_n 1, 1) := by decide +kernel
theorem dX6_remember_27 : decode cX6_remember 27 = .ok (.bipush 18, 2) := by decide +kernel
theorem dX6_remember_29 : decode cX6_remember 29 = .ok (.iadd, 1) := by decide +kernel
theorem dX6_remember_30 : decode cX6_remember 30 = .ok (.iaload, 1) := by decide +kernel
theorem dX6_remember_31 : decode cX6_remember 31 = .ok (.iastore, 1) := by decide +kernel
theorem dX6_remember_32 : decode cX6_remember 32 = .ok (.iinc 1 1, 3) := by decide +kernel
theorem dX6_remember_35 : decode cX6_remember 35 = .ok (.goto (-24), 3) := by decide +kernel
theorem dX6_remember_38 : decode cX6_remember 38 = .ok (.aload_n 0, 1) := by decide +kernel
theorem dX6_remember_39 : decode cX6_remember 39 = .ok (.dup, 1) := by decide +kernel
theorem dX6_remember_40 : decode cX6_remember 40 = .ok (.getfield 62, 3) := by decide +kernel
theorem dX6_remember_43 : decode cX6_remember 43 = .ok (.iconst 1, 1) := by decide +kernel
theorem dX6_remember_44 : decode cX6_remember 44 = .ok (.isub, 1) := by decide +kernel
theorem dX6_remember_45 : decode cX6_remember 45 = .ok (.putfield 62, 3) := by decide +kernel
theorem dX6_remember_48 : decode cX6_remember 48 = .ok (.aload_n 0, 1) := by decide +kernel
theorem dX6_remember_49 : decode cX6_remember 49 = .ok (.getfield 16, 3) := by decide +kernel
theorem dX6_remember_52 : decode cX6_remember 52 = .ok (.iconst 0, 1) := by decide +kernel
theorem dX6_remember_53 : decode cX6_remember 53 = .ok (.aload_n 0, 1) := by decide +kernel
theorem dX6_remember_54 : decode cX6_remember 54 = .ok (.getfield 22, 3) := by decide +kernel
theorem dX6_remember_57 : decode cX6_remember 57 = .ok (.bipush 18, 2) := by decide +kernel
theorem dX6_remember_59 : decode cX6_remember 59 = .ok (.aload_n 0, 1) := by decide +kernel
theorem dX6_remember_60 : decode cX6_remember 60 = .ok (.getfield 62, 3) := by decide +kernel
theorem dX6_remember_63 : decode cX6_remember 63 = .ok (.imul, 1) := by decide +kernel
theorem dX6_remember_64 : decode cX6_remember 64 = .ok (.bipush 18, 2) := by decide +kernel
theorem dX6_remember_66 : decode cX6_remember 66 = .ok (.invokestatic 58, 3) := by decide +kernel
theorem dX6_remember_69 : decode cX6_remember 69 = .ok (.aload_n 0, 1) := by decide +kernel
theorem dX6_remember_70 : decode cX6_remember 70 = .ok (.dup, 1) := by decide +kernel
theorem dX6_remember_71 : decode cX6_remember 71 = .ok (.getfield 62, 3) := by decide +kernel
theorem dX6_remember_74 : decode cX6_remember 74 = .ok (.iconst 1, 1) := by decide +kernel
theorem dX6_remember_75 : decode cX6_remember 75 = .ok (.iadd, 1) := by decide +kernel
theorem dX6_remember_76 : decode cX6_remember 76 = .ok (.putfield 62, 3) := by decide +kernel
theorem dX6_remember_79 : decode cX6_remember 79 = .ok (.return_, 1) := by decide +kernel
theorem dX6_sit_0 : decode cX6_sit 0 = .ok (.aload_n 0, 1) := by decide +kernel
theorem dX6_sit_1 : decode cX6_sit 1 = .ok (.iload_n 1, 1) := by decide +kernel
theorem dX6_sit_2 : decode cX6_sit 2 = .ok (.iload_n 2, 1) := by decide +kernel
theorem dX6_sit_3 : decode cX6_sit 3 = .ok (.invokevirtual 165, 3) := by decide +kernel
theorem dX6_sit_6 : decode cX6_sit 6 = .ok (.ifCond .ne 5, 3) := by decide +kernel
theorem dX6_sit_9 : decode cX6_sit 9 = .ok (.iconst (-1), 1) := by decide +kernel
theorem dX6_sit_10 : decode cX6_sit 10 = .ok (.ireturn, 1) := by decide +kernel
theorem dX6_sit_11 : decode cX6_sit 11 = .ok (.aload_n 0, 1) := by decide +kernel
theorem dX6_sit_12 : decode cX6_sit 12 = .ok (.getfield 16, 3) := by decide +kernel
theorem dX6_sit_15 : decode cX6_sit 15 = .ok (.bipush 10, 2) := by decide +kernel
theorem dX6_sit_17 : decode cX6_sit 17 = .ok (.iaload, 1) := by decide +kernel
theorem dX6_sit_18 : decode cX6_sit 18 = .ok (.bipush (-4), 2) := by decide +kernel
theorem dX6_sit_20 : decode cX6_sit 20 = .ok (.if_icmp .ne 12, 3) := by decide +kernel
theorem dX6_sit_23 : decode cX6_sit 23 = .ok (.aload_n 0, 1) := by decide +kernel
theorem dX6_sit_24 : decode cX6_sit 24 = .ok (.iload_n 1, 1) := by decide +kernel
theorem dX6_sit_25 : decode cX6_sit 25 = .ok (.iload_n 2, 1) := by decide +kernel
theorem dX6_sit_26 : decode cX6_sit 26 = .ok (.invokevirtual 168, 3) := by decide +kernel
theorem dX6_sit_29 : decode cX6_sit 29 = .ok (.ifCond .ne 6, 3) := by decide +kernel
theorem dX6_sit_32 : decode cX6_sit 32 = .ok (.bipush (-2), 2) := by decide +kernel
theorem dX6_sit_34 : decode cX6_sit 34 = .ok (.ireturn, 1) := by decide +kernel
theorem dX6_sit_35 : decode cX6_sit 35 = .ok (.aload_n 0, 1) := by decide +kernel
theorem dX6_sit_36 : decode cX6_sit 36 = .ok (.invokevirtual 171, 3) := by decide +kernel
theorem dX6_sit_39 : decode cX6_sit 39 = .ok (.aload_n 0, 1) := by decide +kernel
theorem dX6_sit_40 : decode cX6_sit 40 = .ok (.aload_n 0, 1) := by decide +kernel
theorem dX6_sit_41 : decode cX6_sit 41 = .ok (.getfield 16, 3) := by decide +kernel
theorem dX6_sit_44 : decode cX6_sit 44 = .ok (.iload_n 1, 1) := by decide +kernel
theorem dX6_sit_45 : decode cX6_sit 45 = .ok (.iload_n 2, 1) := by decide +kernel
theorem dX6_sit_46 : decode cX6_sit 46 = .ok (.invokevirtual 174, 3) := by decide +kernel
theorem dX6_sit_49 : decode cX6_sit 49 = .ok (.aload_n 0, 1) := by decide +kernel
theorem dX6_sit_50 : decode cX6_sit 50 = .ok (.aload_n 0, 1) := by decide +kernel
theorem dX6_sit_51 : decode cX6_sit 51 = .ok (.getfield 16, 3) := by decide +kernel
theorem dX6_sit_54 : decode cX6_sit 54 = .ok (.iload_n 1, 1) := by decide +kernel
theorem dX6_sit_55 : decode cX6_sit 55 = .ok (.iload_n 2, 1) := by decide +kernel
theorem dX6_sit_56 : decode cX6_sit 56 = .ok (.iconst 0, 1) := by decide +kernel
theorem dX6_sit_57 : decode cX6_sit 57 = .ok (.invokevirtual 150, 3) := by decide +kernel
theorem dX6_sit_60 : decode cX6_sit 60 = .ok (.ireturn, 1) := by decide +kernel
theorem dX6_stand_0 : decode cX6_stand 0 = .ok (.aload_n 0, 1) := by decide +kernel
theorem dX6_stand_1 : decode cX6_stand 1 = .ok (.getfield 16, 3) := by decide +kernel
theorem dX6_stand_4 : decode cX6_stand 4 = .ok (.bipush 10, 2) := by decide +kernel
theorem dX6_stand_6 : decode cX6_stand 6 = .ok (.iaload, 1) := by decide +kernel
theorem dX6_stand_7 : decode cX6_stand 7 = .ok (.bipush (-4), 2) := by decide +kernel
theorem dX6_stand_9 : decode cX6_stand 9 = .ok (.if_icmp .ne 6, 3) := by decide +kernel
theorem dX6_stand_12 : decode cX6_stand 12 = .ok (.bipush (-2), 2) := by decide +kernel
theorem dX6_stand_14 : decode cX6_stand 14 = .ok (.ireturn, 1) := by decide +kernel
theorem dX6_stand_15 : decode cX6_stand 15 = .ok (.aload_n 0, 1) := by decide +kernel
theorem dX6_stand_16 : decode cX6_stand 16 = .ok (.invokevirtual 171, 3) := by decide +kernel
theorem dX6_stand_19 : decode cX6_stand 19 = .ok (.aload_n 0, 1) := by decide +kernel
theorem dX6_stand_20 : decode cX6_stand 20 = .ok (.getfield 16, 3) := by decide +kernel
theorem dX6_stand_23 : decode cX6_stand 23 = .ok (.bipush 15, 2) := by decide +kernel
theorem dX6_stand_25 : decode cX6_stand 25 = .ok (.iaload, 1) := by decide +kernel
theorem dX6_stand_26 : decode cX6_stand 26 = .ok (.invokestatic 178, 3) := by decide +kernel
theorem dX6_stand_29 : decode cX6_stand 29 = .ok (.istore_n 1, 1) := by decide +kernel
theorem dX6_stand_30 : decode cX6_stand 30 = .ok (.aload_n 0, 1) := by decide +kernel
theorem dX6_stand_31 : decode cX6_stand 31 = .ok (.getfield 16, 3) := by decide +kernel
theorem dX6_stand_34 : decode cX6_stand 34 = .ok (.bipush 10, 2) := by decide +kernel
theorem dX6_stand_36 : decode cX6_stand 36 = .ok (.bipush (-4), 2) := by decide +kernel
theorem dX6_stand_38 : decode cX6_stand 38 = .ok (.iastore, 1) := by decide +kernel
theorem dX6_stand_39 : decode cX6_stand 39 = .ok (.aload_n 0, 1) := by decide +kernel
theorem dX6_stand_40 : decode cX6_stand 40 = .ok (.getfield 16, 3) := by decide +kernel
theorem dX6_stand_43 : decode cX6_stand 43 = .ok (.invokestatic 161, 3) := by decide +kernel
theorem dX6_stand_46 : decode cX6_stand 46 = .ok (.iload_n 1, 1) := by decide +kernel
theorem dX6_stand_47 : decode cX6_stand 47 = .ok (.ireturn, 1) := by decide +kernel
theorem dX6_pass_0 : decode cX6_pass 0 = .ok (.iload_n 1, 1) := by decide +kernel
theorem dX6_pass_1 : decode cX6_pass 1 = .ok (.i2l, 1) := by decide +kernel
theorem dX6_pass_2 : decode cX6_pass 2 = .ok (.lconst 1, 1) := by decide +kernel
theorem dX6_pass_3 : decode cX6_pass 3 = .ok (.ldc2_w 181, 3) := by decide +kernel
theorem dX6_pass_6 : decode cX6_pass 6 = .ok (.invokestatic 73, 3) := by decide +kernel
theorem dX6_pass_9 : decode cX6_pass 9 = .ok (.ifCond .ne 5, 3) := by decide +kernel
theorem dX6_pass_12 : decode cX6_pass 12 = .ok (.iconst (-1), 1) := by decide +kernel
theorem dX6_pass_13 : decode cX6_pass 13 = .ok (.ireturn, 1) := by decide +kernel
theorem dX6_pass_14 : decode cX6_pass 14 = .ok (.aload_n 0, 1) := by decide +kernel
theorem dX6_pass_15 : decode cX6_pass 15 = .ok (.invokevirtual 171, 3) := by decide +kernel
theorem dX6_pass_18 : decode cX6_pass 18 = .ok (.iconst 0, 1) := by decide +kernel
theorem dX6_pass_19 : decode cX6_pass 19 = .ok (.istore_n 2, 1) := by decide +kernel
theorem dX6_pass_20 : decode cX6_pass 20 = .ok (.iload_n 2, 1) := by decide +kernel
theorem dX6_pass_21 : decode cX6_pass 21 = .ok (.iload_n 1, 1) := by decide +kernel
theorem dX6_pass_22 : decode cX6_pass 22 = .ok (.if_icmp .ge 17, 3) := by decide +kernel
theorem dX6_pass_25 : decode cX6_pass 25 = .ok (.aload_n 0, 1) := by decide +kernel
theorem dX6_pass_26 : decode cX6_pass 26 = .ok (.aload_n 0, 1) := by decide +kernel
theorem dX6_pass_27 : decode cX6_pass 27 = .ok (.getfield 16, 3) := by decide +kernel
theorem dX6_pass_30 : decode cX6_pass 30 = .ok (.invokevirtual 183, 3) := by decide +kernel
theorem dX6_pass_33 : decode cX6_pass 33 = .ok (.iinc 2 1, 3) := by decide +kernel
theorem dX6_pass_36 : decode cX6_pass 36 = .ok (.goto (-16), 3) := by decide +kernel
theorem dX6_pass_39 : decode cX6_pass 39 = .ok (.aload_n 0, 1) := by decide +kernel
theorem dX6_pass_40 : decode cX6_pass 40 = .ok (.getfield 16, 3) := by decide +kernel
theorem dX6_pass_43 : decode cX6_pass 43 = .ok (.bipush 17, 2) := by decide +kernel
theorem dX6_pass_45 : decode cX6_pass 45 = .ok (.iaload, 1) := by decide +kernel
theorem dX6_pass_46 : decode cX6_pass 46 = .ok (.ireturn, 1) := by decide +kernel
theorem dX6_mayHush_0 : decode cX6_mayHush 0 = .ok (.aload_n 1, 1) := by decide +kernel
theorem dX6_mayHush_1 : decode cX6_mayHush 1 = .ok (.bipush 9, 2) := by decide +kernel
theorem dX6_mayHush_3 : decode cX6_mayHush 3 = .ok (.iaload, 1) := by decide +kernel
theorem dX6_mayHush_4 : decode cX6_mayHush 4 = .ok (.iload_n 2, 1) := by decide +kernel
theorem dX6_mayHush_5 : decode cX6_mayHush 5 = .ok (.invokestatic 105, 3) := by decide +kernel
theorem dX6_mayHush_8 : decode cX6_mayHush 8 = .ok (.ifCond .ne 24, 3) := by decide +kernel
theorem dX6_mayHush_11 : decode cX6_mayHush 11 = .ok (.aload_n 1, 1) := by decide +kernel
theorem dX6_mayHush_12 : decode cX6_mayHush 12 = .ok (.bipush 10, 2) := by decide +kernel
theorem dX6_mayHush_14 : decode cX6_mayHush 14 = .ok (.iaload, 1) := by decide +kernel
theorem dX6_mayHush_15 : decode cX6_mayHush 15 = .ok (.bipush (-4), 2) := by decide +kernel
theorem dX6_mayHush_17 : decode cX6_mayHush 17 = .ok (.if_icmp .eq 11, 3) := by decide +kernel
theorem dX6_mayHush_20 : decode cX6_mayHush 20 = .ok (.aload_n 1, 1) := by decide +kernel
theorem dX6_mayHush_21 : decode cX6_mayHush 21 = .ok (.bipush 13, 2) := by decide +kernel
theorem dX6_mayHush_23 : decode cX6_mayHush 23 = .ok (.iaload, 1) := by decide +kernel
theorem dX6_mayHush_24 : decode cX6_mayHush 24 = .ok (.iload_n 2, 1) := by decide +kernel
theorem dX6_mayHush_25 : decode cX6_mayHush 25 = .ok (.if_icmp .eq 7, 3) := by decide +kernel
theorem dX6_mayHush_28 : decode cX6_mayHush 28 = .ok (.iconst 1, 1) := by decide +kernel
theorem dX6_mayHush_29 : decode cX6_mayHush 29 = .ok (.goto 4, 3) := by decide +kernel
theorem dX6_mayHush_32 : decode cX6_mayHush 32 = .ok (.iconst 0, 1) := by decide +kernel
theorem dX6_mayHush_33 : decode cX6_mayHush 33 = .ok (.ireturn, 1) := by decide +kernel
theorem dX6_hush_0 : decode cX6_hush 0 = .ok (.aload_n 0, 1) := by decide +kernel
theorem dX6_hush_1 : decode cX6_hush 1 = .ok (.iload_n 1, 1) := by decide +kernel
theorem dX6_hush_2 : decode cX6_hush 2 = .ok (.invokevirtual 137, 3) := by decide +kernel
theorem dX6_hush_5 : decode cX6_hush 5 = .ok (.ifCond .ne 5, 3) := by decide +kernel
theorem dX6_hush_8 : decode cX6_hush 8 = .ok (.iconst (-1), 1) := by decide +kernel
theorem dX6_hush_9 : decode cX6_hush 9 = .ok (.ireturn, 1) := by decide +kernel
theorem dX6_hush_10 : decode cX6_hush 10 = .ok (.aload_n 0, 1) := by decide +kernel
theorem dX6_hush_11 : decode cX6_hush 11 = .ok (.aload_n 0, 1) := by decide +kernel
theorem dX6_hush_12 : decode cX6_hush 12 = .ok (.getfield 16, 3) := by decide +kernel
theorem dX6_hush_15 : decode cX6_hush 15 = .ok (.iload_n 1, 1) := by decide +kernel
theorem dX6_hush_16 : decode cX6_hush 16 = .ok (.invokevirtual 186, 3) := by decide +kernel
theorem dX6_hush_19 : decode cX6_hush 19 = .ok (.ifCond .ne 6, 3) := by decide +kernel
theorem dX6_hush_22 : decode cX6_hush 22 = .ok (.bipush (-2), 2) := by decide +kernel
theorem dX6_hush_24 : decode cX6_hush 24 = .ok (.ireturn, 1) := by decide +kernel
theorem dX6_hush_25 : decode cX6_hush 25 = .ok (.aload_n 0, 1) := by decide +kernel
theorem dX6_hush_26 : decode cX6_hush 26 = .ok (.invokevirtual 171, 3) := by decide +kernel
theorem dX6_hush_29 : decode cX6_hush 29 = .ok (.aload_n 0, 1) := by decide +kernel
theorem dX6_hush_30 : decode cX6_hush 30 = .ok (.getfield 16, 3) := by decide +kernel
theorem dX6_hush_33 : decode cX6_hush 33 = .ok (.bipush 9, 2) := by decide +kernel
theorem dX6_hush_35 : decode cX6_hush 35 = .ok (.dup2, 1) := by decide +kernel
theorem dX6_hush_36 : decode cX6_hush 36 = .ok (.iaload, 1) := by decide +kernel
theorem dX6_hush_37 : decode cX6_hush 37 = .ok (.iconst 1, 1) := by decide +kernel
theorem dX6_hush_38 : decode cX6_hush 38 = .ok (.iload_n 1, 1) := by decide +kernel
theorem dX6_hush_39 : decode cX6_hush 39 = .ok (.ishl, 1) := by decide +kernel
theorem dX6_hush_40 : decode cX6_hush 40 = .ok (.ior, 1) := by decide +kernel
theorem dX6_hush_41 : decode cX6_hush 41 = .ok (.iastore, 1) := by decide +kernel
theorem dX6_hush_42 : decode cX6_hush 42 = .ok (.aload_n 0, 1) := by decide +kernel
theorem dX6_hush_43 : decode cX6_hush 43 = .ok (.getfield 7, 3) := by decide +kernel
theorem dX6_hush_46 : decode cX6_hush 46 = .ok (.iconst 1, 1) := by decide +kernel
theorem dX6_hush_47 : decode cX6_hush 47 = .ok (.iaload, 1) := by decide +kernel
theorem dX6_hush_48 : decode cX6_hush 48 = .ok (.aload_n 0, 1) := by decide +kernel
theorem dX6_hush_49 : decode cX6_hush 49 = .ok (.getfield 16, 3) := by decide +kernel
theorem dX6_hush_52 : decode cX6_hush 52 = .ok (.bipush 9, 2) := by decide +kernel
theorem dX6_hush_54 : decode cX6_hush 54 = .ok (.iaload, 1) := by decide +kernel
theorem dX6_hush_55 : decode cX6_hush 55 = .ok (.invokestatic 178, 3) := by decide +kernel
theorem dX6_hush_58 : decode cX6_hush 58 = .ok (.isub, 1) := by decide +kernel
theorem dX6_hush_59 : decode cX6_hush 59 = .ok (.ireturn, 1) := by decide +kernel
theorem dX6_undo_0 : decode cX6_undo 0 = .ok (.aload_n 0, 1) := by decide +kernel
theorem dX6_undo_1 : decode cX6_undo 1 = .ok (.getfield 62, 3) := by decide +kernel
theorem dX6_undo_4 : decode cX6_undo 4 = .ok (.ifCond .ne 6, 3) := by decide +kernel
theorem dX6_undo_7 : decode cX6_undo 7 = .ok (.bipush (-2), 2) := by decide +kernel
theorem dX6_undo_9 : decode cX6_undo 9 = .ok (.ireturn, 1) := by decide +kernel
theorem dX6_undo_10 : decode cX6_undo 10 = .ok (.aload_n 0, 1) := by decide +kernel
theorem dX6_undo_11 : decode cX6_undo 11 = .ok (.dup, 1) := by decide +kernel
theorem dX6_undo_12 : decode cX6_undo 12 = .ok (.getfield 62, 3) := by decide +kernel
theorem dX6_undo_15 : decode cX6_undo 15 = .ok (.iconst 1, 1) := by decide +kernel
theorem dX6_undo_16 : decode cX6_undo 16 = .ok (.isub, 1) := by decide +kernel
theorem dX6_undo_17 : decode cX6_undo 17 = .ok (.putfield 62, 3) := by decide +kernel
theorem dX6_undo_20 : decode cX6_undo 20 = .ok (.aload_n 0, 1) := by decide +kernel
theorem dX6_undo_21 : decode cX6_undo 21 = .ok (.getfield 22, 3) := by decide +kernel
theorem dX6_undo_24 : decode cX6_undo 24 = .ok (.bipush 18, 2) := by decide +kernel
theorem dX6_undo_26 : decode cX6_undo 26 = .ok (.aload_n 0, 1) := by decide +kernel
theorem dX6_undo_27 : decode cX6_undo 27 = .ok (.getfield 62, 3) := by decide +kernel
theorem dX6_undo_30 : decode cX6_undo 30 = .ok (.imul, 1) := by decide +kernel
theorem dX6_undo_31 : decode cX6_undo 31 = .ok (.aload_n 0, 1) := by decide +kernel
theorem dX6_undo_32 : decode cX6_undo 32 = .ok (.getfield 16, 3) := by decide +kernel
theorem dX6_undo_35 : decode cX6_undo 35 = .ok (.iconst 0, 1) := by decide +kernel
theorem dX6_undo_36 : decode cX6_undo 36 = .ok (.bipush 18, 2) := by decide +kernel
theorem dX6_undo_38 : decode cX6_undo 38 = .ok (.invokestatic 58, 3) := by decide +kernel
theorem dX6_undo_41 : decode cX6_undo 41 = .ok (.aload_n 0, 1) := by decide +kernel
theorem dX6_undo_42 : decode cX6_undo 42 = .ok (.getfield 62, 3) := by decide +kernel
theorem dX6_undo_45 : decode cX6_undo 45 = .ok (.ireturn, 1) := by decide +kernel
theorem dX6_layAside_0 : decode cX6_layAside 0 = .ok (.aload_n 0, 1) := by decide +kernel
theorem dX6_layAside_1 : decode cX6_layAside 1 = .ok (.getfield 16, 3) := by decide +kernel
theorem dX6_layAside_4 : decode cX6_layAside 4 = .ok (.iconst 0, 1) := by decide +kernel
theorem dX6_layAside_5 : decode cX6_layAside 5 = .ok (.aload_n 0, 1) := by decide +kernel
theorem dX6_layAside_6 : decode cX6_layAside 6 = .ok (.getfield 19, 3) := by decide +kernel
theorem dX6_layAside_9 : decode cX6_layAside 9 = .ok (.iconst 0, 1) := by decide +kernel
theorem dX6_layAside_10 : decode cX6_layAside 10 = .ok (.bipush 18, 2) := by decide +kernel
theorem dX6_layAside_12 : decode cX6_layAside 12 = .ok (.invokestatic 58, 3) := by decide +kernel
theorem dX6_layAside_15 : decode cX6_layAside 15 = .ok (.return_, 1) := by decide +kernel
theorem dX6_comes_0 : decode cX6_comes 0 = .ok (.iload_n 1, 1) := by decide +kernel
theorem dX6_comes_1 : decode cX6_comes 1 = .ok (.i2l, 1) := by decide +kernel
theorem dX6_comes_2 : decode cX6_comes 2 = .ok (.lconst 0, 1) := by decide +kernel
theorem dX6_comes_3 : decode cX6_comes 3 = .ok (.ldc2_w 190, 3) := by decide +kernel
theorem dX6_comes_6 : decode cX6_comes 6 = .ok (.invokestatic 73, 3) := by decide +kernel
theorem dX6_comes_9 : decode cX6_comes 9 = .ok (.ifCond .ne 5, 3) := by decide +kernel
theorem dX6_comes_12 : decode cX6_comes 12 = .ok (.iconst (-1), 1) := by decide +kernel
theorem dX6_comes_13 : decode cX6_comes 13 = .ok (.ireturn, 1) := by decide +kernel
theorem dX6_comes_14 : decode cX6_comes 14 = .ok (.aload_n 0, 1) := by decide +kernel
theorem dX6_comes_15 : decode cX6_comes 15 = .ok (.invokevirtual 192, 3) := by decide +kernel
theorem dX6_comes_18 : decode cX6_comes 18 = .ok (.iconst 0, 1) := by decide +kernel
theorem dX6_comes_19 : decode cX6_comes 19 = .ok (.istore_n 2, 1) := by decide +kernel
theorem dX6_comes_20 : decode cX6_comes 20 = .ok (.iload_n 2, 1) := by decide +kernel
theorem dX6_comes_21 : decode cX6_comes 21 = .ok (.bipush 121, 2) := by decide +kernel
theorem dX6_comes_23 : decode cX6_comes 23 = .ok (.if_icmp .ge 30, 3) := by decide +kernel
theorem dX6_comes_26 : decode cX6_comes 26 = .ok (.aload_n 0, 1) := by decide +kernel
theorem dX6_comes_27 : decode cX6_comes 27 = .ok (.getfield 19, 3) := by decide +kernel
theorem dX6_comes_30 : decode cX6_comes 30 = .ok (.bipush 17, 2) := by decide +kernel
theorem dX6_comes_32 : decode cX6_comes 32 = .ok (.iaload, 1) := by decide +kernel
theorem dX6_comes_33 : decode cX6_comes 33 = .ok (.iload_n 1, 1) := by decide +kernel
theorem dX6_comes_34 : decode cX6_comes 34 = .ok (.if_icmp .lt 5, 3) := by decide +kernel
theorem dX6_comes_37 : decode cX6_comes 37 = .ok (.iload_n 2, 1) := by decide +kernel
theorem dX6_comes_38 : decode cX6_comes 38 = .ok (.ireturn, 1) := by decide +kernel
theorem dX6_comes_39 : decode cX6_comes 39 = .ok (.aload_n 0, 1) := by decide +kernel
theorem dX6_comes_40 : decode cX6_comes 40 = .ok (.aload_n 0, 1) := by decide +kernel
theorem dX6_comes_41 : decode cX6_comes 41 = .ok (.getfield 19, 3) := by decide +kernel
theorem dX6_comes_44 : decode cX6_comes 44 = .ok (.invokevirtual 183, 3) := by decide +kernel
theorem dX6_comes_47 : decode cX6_comes 47 = .ok (.iinc 2 1, 3) := by decide +kernel
theorem dX6_comes_50 : decode cX6_comes 50 = .ok (.goto (-30), 3) := by decide +kernel
theorem dX6_comes_53 : decode cX6_comes 53 = .ok (.bipush (-4), 2) := by decide +kernel
theorem dX6_comes_55 : decode cX6_comes 55 = .ok (.ireturn, 1) := by decide +kernel
theorem dX6_isSilent_0 : decode cX6_isSilent 0 = .ok (.aload_n 1, 1) := by decide +kernel
theorem dX6_isSilent_1 : decode cX6_isSilent 1 = .ok (.bipush 13, 2) := by decide +kernel
theorem dX6_isSilent_3 : decode cX6_isSilent 3 = .ok (.iaload, 1) := by decide +kernel
theorem dX6_isSilent_4 : decode cX6_isSilent 4 = .ok (.bipush (-4), 2) := by decide +kernel
theorem dX6_isSilent_6 : decode cX6_isSilent 6 = .ok (.if_icmp .ne 47, 3) := by decide +kernel
theorem dX6_isSilent_9 : decode cX6_isSilent 9 = .ok (.aload_n 0, 1) := by decide +kernel
theorem dX6_isSilent_10 : decode cX6_isSilent 10 = .ok (.aload_n 1, 1) := by decide +kernel
theorem dX6_isSilent_11 : decode cX6_isSilent 11 = .ok (.aload_n 1, 1) := by decide +kernel
theorem dX6_isSilent_12 : decode cX6_isSilent 12 = .ok (.bipush 10, 2) := by decide +kernel
theorem dX6_isSilent_14 : decode cX6_isSilent 14 = .ok (.iaload, 1) := by decide +kernel
theorem dX6_isSilent_15 : decode cX6_isSilent 15 = .ok (.aload_n 1, 1) := by decide +kernel
theorem dX6_isSilent_16 : decode cX6_isSilent 16 = .ok (.bipush 11, 2) := by decide +kernel
theorem dX6_isSilent_18 : decode cX6_isSilent 18 = .ok (.iaload, 1) := by decide +kernel
theorem dX6_isSilent_19 : decode cX6_isSilent 19 = .ok (.aload_n 1, 1) := by decide +kernel
theorem dX6_isSilent_20 : decode cX6_isSilent 20 = .ok (.bipush 15, 2) := by decide +kernel
theorem dX6_isSilent_22 : decode cX6_isSilent 22 = .ok (.iaload, 1) := by decide +kernel
theorem dX6_isSilent_23 : decode cX6_isSilent 23 = .ok (.invokevirtual 150, 3) := by decide +kernel
theorem dX6_isSilent_26 : decode cX6_isSilent 26 = .ok (.ifCond .ne 27, 3) := by decide +kernel
theorem dX6_isSilent_29 : decode cX6_isSilent 29 = .ok (.aload_n 0, 1) := by decide +kernel
theorem dX6_isSilent_30 : decode cX6_isSilent 30 = .ok (.aload_n 1, 1) := by decide +kernel
theorem dX6_isSilent_31 : decode cX6_isSilent 31 = .ok (.aload_n 1, 1) := by decide +kernel
theorem dX6_isSilent_32 : decode cX6_isSilent 32 = .ok (.bipush 11, 2) := by decide +kernel
theorem dX6_isSilent_34 : decode cX6_isSilent 34 = .ok (.iaload, 1) := by decide +kernel
theorem dX6_isSilent_35 : decode cX6_isSilent 35 = .ok (.aload_n 1, 1) := by decide +kernel
theorem dX6_isSilent_36 : decode cX6_isSilent 36 = .ok (.bipush 10, 2) := by decide +kernel
theorem dX6_isSilent_38 : decode cX6_isSilent 38 = .ok (.iaload, 1) := by decide +kernel
theorem dX6_isSilent_39 : decode cX6_isSilent 39 = .ok (.aload_n 1, 1) := by decide +kernel
theorem dX6_isSilent_40 : decode cX6_isSilent 40 = .ok (.bipush 15, 2) := by decide +kernel
theorem dX6_isSilent_42 : decode cX6_isSilent 42 = .ok (.iaload, 1) := by decide +kernel
theorem dX6_isSilent_43 : decode cX6_isSilent 43 = .ok (.invokevirtual 150, 3) := by decide +kernel
theorem dX6_isSilent_46 : decode cX6_isSilent 46 = .ok (.ifCond .ne 7, 3) := by decide +kernel
theorem dX6_isSilent_49 : decode cX6_isSilent 49 = .ok (.iconst 1, 1) := by decide +kernel
theorem dX6_isSilent_50 : decode cX6_isSilent 50 = .ok (.goto 4, 3) := by decide +kernel
theorem dX6_isSilent_53 : decode cX6_isSilent 53 = .ok (.iconst 0, 1) := by decide +kernel
theorem dX6_isSilent_54 : decode cX6_isSilent 54 = .ok (.ireturn, 1) := by decide +kernel
theorem dX6_quiet_0 : decode cX6_quiet 0 = .ok (.aload_n 0, 1) := by decide +kernel
theorem dX6_quiet_1 : decode cX6_quiet 1 = .ok (.getfield 16, 3) := by decide +kernel
theorem dX6_quiet_4 : decode cX6_quiet 4 = .ok (.bipush 10, 2) := by decide +kernel
theorem dX6_quiet_6 : decode cX6_quiet 6 = .ok (.iaload, 1) := by decide +kernel
theorem dX6_quiet_7 : decode cX6_quiet 7 = .ok (.bipush (-4), 2) := by decide +kernel
theorem dX6_quiet_9 : decode cX6_quiet 9 = .ok (.if_icmp .ne 6, 3) := by decide +kernel
theorem dX6_quiet_12 : decode cX6_quiet 12 = .ok (.bipush (-2), 2) := by decide +kernel
theorem dX6_quiet_14 : decode cX6_quiet 14 = .ok (.ireturn, 1) := by decide +kernel
theorem dX6_quiet_15 : decode cX6_quiet 15 = .ok (.aload_n 0, 1) := by decide +kernel
theorem dX6_quiet_16 : decode cX6_quiet 16 = .ok (.invokevirtual 192, 3) := by decide +kernel
theorem dX6_quiet_19 : decode cX6_quiet 19 = .ok (.iconst 0, 1) := by decide +kernel
theorem dX6_quiet_20 : decode cX6_quiet 20 = .ok (.istore_n 1, 1) := by decide +kernel
theorem dX6_quiet_21 : decode cX6_quiet 21 = .ok (.iload_n 1, 1) := by decide +kernel
theorem dX6_quiet_22 : decode cX6_quiet 22 = .ok (.bipush 121, 2) := by decide +kernel
theorem dX6_quiet_24 : decode cX6_quiet 24 = .ok (.if_icmp .ge 30, 3) := by decide +kernel
theorem dX6_quiet_27 : decode cX6_quiet 27 = .ok (.aload_n 0, 1) := by decide +kernel
theorem dX6_quiet_28 : decode cX6_quiet 28 = .ok (.aload_n 0, 1) := by decide +kernel
theorem dX6_quiet_29 : decode cX6_quiet 29 = .ok (.getfield 19, 3) := by decide +kernel
theorem dX6_quiet_32 : decode cX6_quiet 32 = .ok (.invokevirtual 195, 3) := by decide +kernel
theorem dX6_quiet_35 : decode cX6_quiet 35 = .ok (.ifCond .eq 5, 3) := by decide +kernel
theorem dX6_quiet_38 : decode cX6_quiet 38 = .ok (.iload_n 1, 1) := by decide +kernel
theorem dX6_quiet_39 : decode cX6_quiet 39 = .ok (.ireturn, 1) := by decide +kernel
theorem dX6_quiet_40 : decode cX6_quiet 40 = .ok (.aload_n 0, 1) := by decide +kernel
theorem dX6_quiet_41 : decode cX6_quiet 41 = .ok (.aload_n 0, 1) := by decide +kernel
theorem dX6_quiet_42 : decode cX6_quiet 42 = .ok (.getfield 19, 3) := by decide +kernel
theorem dX6_quiet_45 : decode cX6_quiet 45 = .ok (.invokevirtual 183, 3) := by decide +kernel
theorem dX6_quiet_48 : decode cX6_quiet 48 = .ok (.iinc 1 1, 3) := by decide +kernel
theorem dX6_quiet_51 : decode cX6_quiet 51 = .ok (.goto (-30), 3) := by decide +kernel
theorem dX6_quiet_54 : decode cX6_quiet 54 = .ok (.bipush (-4), 2) := by decide +kernel
theorem dX6_quiet_56 : decode cX6_quiet 56 = .ok (.ireturn, 1) := by decide +kernel
theorem dX6_bringsBy_0 : decode cX6_bringsBy 0 = .ok (.aload_n 0, 1) := by decide +kernel
theorem dX6_bringsBy_1 : decode cX6_bringsBy 1 = .ok (.invokevirtual 192, 3) := by decide +kernel
theorem dX6_bringsBy_4 : decode cX6_bringsBy 4 = .ok (.aload_n 0, 1) := by decide +kernel
theorem dX6_bringsBy_5 : decode cX6_bringsBy 5 = .ok (.aload_n 0, 1) := by decide +kernel
theorem dX6_bringsBy_6 : decode cX6_bringsBy 6 = .ok (.getfield 19, 3) := by decide +kernel
theorem dX6_bringsBy_9 : decode cX6_bringsBy 9 = .ok (.iload_n 1, 1) := by decide +kernel
theorem dX6_bringsBy_10 : decode cX6_bringsBy 10 = .ok (.iload_n 2, 1) := by decide +kernel
theorem dX6_bringsBy_11 : decode cX6_bringsBy 11 = .ok (.invokevirtual 174, 3) := by decide +kernel
theorem dX6_bringsBy_14 : decode cX6_bringsBy 14 = .ok (.aload_n 0, 1) := by decide +kernel
theorem dX6_bringsBy_15 : decode cX6_bringsBy 15 = .ok (.getfield 19, 3) := by decide +kernel
theorem dX6_bringsBy_18 : decode cX6_bringsBy 18 = .ok (.bipush 9, 2) := by decide +kernel
theorem dX6_bringsBy_20 : decode cX6_bringsBy 20 = .ok (.iload 4, 2) := by decide +kernel
theorem dX6_bringsBy_22 : decode cX6_bringsBy 22 = .ok (.iastore, 1) := by decide +kernel
theorem dX6_bringsBy_23 : decode cX6_bringsBy 23 = .ok (.aload_n 0, 1) := by decide +kernel
theorem dX6_bringsBy_24 : decode cX6_bringsBy 24 = .ok (.getfield 19, 3) := by decide +kernel
theorem dX6_bringsBy_27 : decode cX6_bringsBy 27 = .ok (.bipush 17, 2) := by decide +kernel
theorem dX6_bringsBy_29 : decode cX6_bringsBy 29 = .ok (.iconst 0, 1) := by decide +kernel
theorem dX6_bringsBy_30 : decode cX6_bringsBy 30 = .ok (.iastore, 1) := by decide +kernel
theorem dX6_bringsBy_31 : decode cX6_bringsBy 31 = .ok (.iconst 0, 1) := by decide +kernel
theorem dX6_bringsBy_32 : decode cX6_bringsBy 32 = .ok (.istore 5, 2) := by decide +kernel
theorem dX6_bringsBy_34 : decode cX6_bringsBy 34 = .ok (.iload 5, 2) := by decide +kernel
theorem dX6_bringsBy_36 : decode cX6_bringsBy 36 = .ok (.iload_n 3, 1) := by decide +kernel
theorem dX6_bringsBy_37 : decode cX6_bringsBy 37 = .ok (.if_icmp .ge 17, 3) := by decide +kernel
theorem dX6_bringsBy_40 : decode cX6_bringsBy 40 = .ok (.aload_n 0, 1) := by decide +kernel
theorem dX6_bringsBy_41 : decode cX6_bringsBy 41 = .ok (.aload_n 0, 1) := by decide +kernel
theorem dX6_bringsBy_42 : decode cX6_bringsBy 42 = .ok (.getfield 19, 3) := by decide +kernel
theorem dX6_bringsBy_45 : decode cX6_bringsBy 45 = .ok (.invokevirtual 183, 3) := by decide +kernel
theorem dX6_bringsBy_48 : decode cX6_bringsBy 48 = .ok (.iinc 5 1, 3) := by decide +kernel
theorem dX6_bringsBy_51 : decode cX6_bringsBy 51 = .ok (.goto (-17), 3) := by decide +kernel
theorem dX6_bringsBy_54 : decode cX6_bringsBy 54 = .ok (.aload_n 0, 1) := by decide +kernel
theorem dX6_bringsBy_55 : decode cX6_bringsBy 55 = .ok (.getfield 19, 3) := by decide +kernel
theorem dX6_bringsBy_58 : decode cX6_bringsBy 58 = .ok (.bipush 17, 2) := by decide +kernel
theorem dX6_bringsBy_60 : decode cX6_bringsBy 60 = .ok (.iaload, 1) := by decide +kernel
theorem dX6_bringsBy_61 : decode cX6_bringsBy 61 = .ok (.ireturn, 1) := by decide +kernel
theorem dX6_brings_0 : decode cX6_brings 0 = .ok (.aload_n 0, 1) := by decide +kernel
theorem dX6_brings_1 : decode cX6_brings 1 = .ok (.iload_n 1, 1) := by decide +kernel
theorem dX6_brings_2 : decode cX6_brings 2 = .ok (.iload_n 2, 1) := by decide +kernel
theorem dX6_brings_3 : decode cX6_brings 3 = .ok (.invokevirtual 165, 3) := by decide +kernel
theorem dX6_brings_6 : decode cX6_brings 6 = .ok (.ifCond .eq 15, 3) := by decide +kernel
theorem dX6_brings_9 : decode cX6_brings 9 = .ok (.iload_n 3, 1) := by decide +kernel
theorem dX6_brings_10 : decode cX6_brings 10 = .ok (.i2l, 1) := by decide +kernel
theorem dX6_brings_11 : decode cX6_brings 11 = .ok (.lconst 1, 1) := by decide +kernel
theorem dX6_brings_12 : decode cX6_brings 12 = .ok (.ldc2_w 181, 3) := by decide +kernel
theorem dX6_brings_15 : decode cX6_brings 15 = .ok (.invokestatic 73, 3) := by decide +kernel
theorem dX6_brings_18 : decode cX6_brings 18 = .ok (.ifCond .ne 5, 3) := by decide +kernel
theorem dX6_brings_21 : decode cX6_brings 21 = .ok (.iconst (-1), 1) := by decide +kernel
theorem dX6_brings_22 : decode cX6_brings 22 = .ok (.ireturn, 1) := by decide +kernel
theorem dX6_brings_23 : decode cX6_brings 23 = .ok (.aload_n 0, 1) := by decide +kernel
theorem dX6_brings_24 : decode cX6_brings 24 = .ok (.iload_n 1, 1) := by decide +kernel
theorem dX6_brings_25 : decode cX6_brings 25 = .ok (.iload_n 2, 1) := by decide +kernel
theorem dX6_brings_26 : decode cX6_brings 26 = .ok (.invokevirtual 168, 3) := by decide +kernel
theorem dX6_brings_29 : decode cX6_brings 29 = .ok (.ifCond .eq 20, 3) := by decide +kernel
theorem dX6_brings_32 : decode cX6_brings 32 = .ok (.aload_n 0, 1) := by decide +kernel
theorem dX6_brings_33 : decode cX6_brings 33 = .ok (.iload_n 1, 1) := by decide +kernel
theorem dX6_brings_34 : decode cX6_brings 34 = .ok (.iload_n 2, 1) := by decide +kernel
theorem dX6_brings_35 : decode cX6_brings 35 = .ok (.iload_n 3, 1) := by decide +kernel
theorem dX6_brings_36 : decode cX6_brings 36 = .ok (.aload_n 0, 1) := by decide +kernel
theorem dX6_brings_37 : decode cX6_brings 37 = .ok (.getfield 16, 3) := by decide +kernel
theorem dX6_brings_40 : decode cX6_brings 40 = .ok (.bipush 9, 2) := by decide +kernel
theorem dX6_brings_42 : decode cX6_brings 42 = .ok (.iaload, 1) := by decide +kernel
theorem dX6_brings_43 : decode cX6_brings 43 = .ok (.invokevirtual 198, 3) := by decide +kernel
theorem dX6_brings_46 : decode cX6_brings 46 = .ok (.goto 5, 3) := by decide +kernel
theorem dX6_brings_49 : decode cX6_brings 49 = .ok (.bipush (-2), 2) := by decide +kernel
theorem dX6_brings_51 : decode cX6_brings 51 = .ok (.ireturn, 1) := by decide +kernel
theorem dX6_finds_0 : decode cX6_finds 0 = .ok (.aload_n 0, 1) := by decide +kernel
theorem dX6_finds_1 : decode cX6_finds 1 = .ok (.bipush (-4), 2) := by decide +kernel
theorem dX6_finds_3 : decode cX6_finds 3 = .ok (.putfield 202, 3) := by decide +kernel
theorem dX6_finds_6 : decode cX6_finds 6 = .ok (.aload_n 0, 1) := by decide +kernel
theorem dX6_finds_7 : decode cX6_finds 7 = .ok (.bipush (-4), 2) := by decide +kernel
theorem dX6_finds_9 : decode cX6_finds 9 = .ok (.putfield 205, 3) := by decide +kernel
theorem dX6_finds_12 : decode cX6_finds 12 = .ok (.iconst 0, 1) := by decide +kernel
theorem dX6_finds_13 : decode cX6_finds 13 = .ok (.istore_n 3, 1) := by decide +kernel
theorem dX6_finds_14 : decode cX6_finds 14 = .ok (.iload_n 3, 1) := by decide +kernel
theorem dX6_finds_15 : decode cX6_finds 15 = .ok (.aload_n 0, 1) := by decide +kernel
theorem dX6_finds_16 : decode cX6_finds 16 = .ok (.getfield 7, 3) := by decide +kernel
theorem dX6_finds_19 : decode cX6_finds 19 = .ok (.iconst 0, 1) := by decide +kernel
theorem dX6_finds_20 : decode cX6_finds 20 = .ok (.iaload, 1) := by decide +kernel
theorem dX6_finds_21 : decode cX6_finds 21 = .ok (.if_icmp .ge 114, 3) := by decide +kernel
theorem dX6_finds_24 : decode cX6_finds 24 = .ok (.iconst 0, 1) := by decide +kernel
theorem dX6_finds_25 : decode cX6_finds 25 = .ok (.istore 4, 2) := by decide +kernel
theorem dX6_finds_27 : decode cX6_finds 27 = .ok (.iload 4, 2) := by decide +kernel
theorem dX6_finds_29 : decode cX6_finds 29 = .ok (.aload_n 0, 1) := by decide +kernel
theorem dX6_finds_30 : decode cX6_finds 30 = .ok (.getfield 7, 3) := by decide +kernel
theorem dX6_finds_33 : decode cX6_finds 33 = .ok (.iconst 0, 1) := by decide +kernel
theorem dX6_finds_34 : decode cX6_finds 34 = .ok (.iaload, 1) := by decide +kernel
theorem dX6_finds_35 : decode cX6_finds 35 = .ok (.if_icmp .ge 94, 3) := by decide +kernel
theorem dX6_finds_38 : decode cX6_finds 38 = .ok (.iload_n 3, 1) := by decide +kernel
theorem dX6_finds_39 : decode cX6_finds 39 = .ok (.iload 4, 2) := by decide +kernel
theorem dX6_finds_41 : decode cX6_finds 41 = .ok (.if_icmp .eq 82, 3) := by decide +kernel
theorem dX6_finds_44 : decode cX6_finds 44 = .ok (.aload_n 0, 1) := by decide +kernel
theorem dX6_finds_45 : decode cX6_finds 45 = .ok (.iload_n 3, 1) := by decide +kernel
theorem dX6_finds_46 : decode cX6_finds 46 = .ok (.iload 4, 2) := by decide +kernel
theorem dX6_finds_48 : decode cX6_finds 48 = .ok (.invokevirtual 168, 3) := by decide +kernel
theorem dX6_finds_51 : decode cX6_finds 51 = .ok (.ifCond .eq 72, 3) := by decide +kernel
theorem dX6_finds_54 : decode cX6_finds 54 = .ok (.aload_n 0, 1) := by decide +kernel
theorem dX6_finds_55 : decode cX6_finds 55 = .ok (.iload_n 3, 1) := by decide +kernel
theorem dX6_finds_56 : decode cX6_finds 56 = .ok (.iload 4, 2) := by decide +kernel
theorem dX6_finds_58 : decode cX6_finds 58 = .ok (.iload_n 1, 1) := by decide +kernel
theorem dX6_finds_59 : decode cX6_finds 59 = .ok (.iload_n 2, 1) := by decide +kernel
theorem dX6_finds_60 : decode cX6_finds 60 = .ok (.invokevirtual 198, 3) := by decide +kernel
theorem dX6_finds_63 : decode cX6_finds 63 = .ok (.istore 5, 2) := by decide +kernel
theorem dX6_finds_65 : decode cX6_finds 65 = .ok (.aload_n 0, 1) := by decide +kernel
theorem dX6_finds_66 : decode cX6_finds 66 = .ok (.aload_n 0, 1) := by decide +kernel
theorem dX6_finds_67 : decode cX6_finds 67 = .ok (.getfield 202, 3) := by decide +kernel
theorem dX6_finds_70 : decode cX6_finds 70 = .ok (.bipush (-4), 2) := by decide +kernel
theorem dX6_finds_72 : decode cX6_finds 72 = .ok (.if_icmp .eq 12, 3) := by decide +kernel
theorem dX6_finds_75 : decode cX6_finds 75 = .ok (.iload 5, 2) := by decide +kernel
theorem dX6_finds_77 : decode cX6_finds 77 = .ok (.aload_n 0, 1) := by decide +kernel
theorem dX6_finds_78 : decode cX6_finds 78 = .ok (.getfield 205, 3) := by decide +kernel
theorem dX6_finds_81 : decode cX6_finds 81 = .ok (.if_icmp .le 13, 3) := by decide +kernel
theorem dX6_finds_84 : decode cX6_finds 84 = .ok (.bipush 10, 2) := by decide +kernel
theorem dX6_finds_86 : decode cX6_finds 86 = .ok (.iload_n 3, 1) := by decide +kernel
theorem dX6_finds_87 : decode cX6_finds 87 = .ok (.imul, 1) := by decide +kernel
theorem dX6_finds_88 : decode cX6_finds 88 = .ok (.iload 4, 2) := by decide +kernel
theorem dX6_finds_90 : decode cX6_finds 90 = .ok (.iadd, 1) := by decide +kernel
theorem dX6_finds_91 : decode cX6_finds 91 = .ok (.goto 7, 3) := by decide +kernel
theorem dX6_finds_94 : decode cX6_finds 94 = .ok (.aload_n 0, 1) := by decide +kernel
theorem dX6_finds_95 : decode cX6_finds 95 = .ok (.getfield 202, 3) := by decide +kernel
theorem dX6_finds_98 : decode cX6_finds 98 = .ok (.putfield 202, 3) := by decide +kernel
theorem dX6_finds_101 : decode cX6_finds 101 = .ok (.aload_n 0, 1) := by decide +kernel
theorem dX6_finds_102 : decode cX6_finds 102 = .ok (.iload 5, 2) := by decide +kernel
theorem dX6_finds_104 : decode cX6_finds 104 = .ok (.aload_n 0, 1) := by decide +kernel
theorem dX6_finds_105 : decode cX6_finds 105 = .ok (.getfield 205, 3) := by decide +kernel
theorem dX6_finds_108 : decode cX6_finds 108 = .ok (.if_icmp .le 8, 3) := by decide +kernel
theorem dX6_finds_111 : decode cX6_finds 111 = .ok (.iload 5, 2) := by decide +kernel
theorem dX6_finds_113 : decode cX6_finds 113 = .ok (.goto 7, 3) := by decide +kernel
theorem dX6_finds_116 : decode cX6_finds 116 = .ok (.aload_n 0, 1) := by decide +kernel
theorem dX6_finds_117 : decode cX6_finds 117 = .ok (.getfield 205, 3) := by decide +kernel
theorem dX6_finds_120 : decode cX6_finds 120 = .ok (.putfield 205, 3) := by decide +kernel
theorem dX6_finds_123 : decode cX6_finds 123 = .ok (.iinc 4 1, 3) := by decide +kernel
theorem dX6_finds_126 : decode cX6_finds 126 = .ok (.goto (-99), 3) := by decide +kernel
theorem dX6_finds_129 : decode cX6_finds 129 = .ok (.iinc 3 1, 3) := by decide +kernel
theorem dX6_finds_132 : decode cX6_finds 132 = .ok (.goto (-118), 3) := by decide +kernel
theorem dX6_finds_135 : decode cX6_finds 135 = .ok (.return_, 1) := by decide +kernel
theorem dX6_best_0 : decode cX6_best 0 = .ok (.iload_n 1, 1) := by decide +kernel
theorem dX6_best_1 : decode cX6_best 1 = .ok (.i2l, 1) := by decide +kernel
theorem dX6_best_2 : decode cX6_best 2 = .ok (.lconst 1, 1) := by decide +kernel
theorem dX6_best_3 : decode cX6_best 3 = .ok (.ldc2_w 181, 3) := by decide +kernel
theorem dX6_best_6 : decode cX6_best 6 = .ok (.invokestatic 73, 3) := by decide +kernel
theorem dX6_best_9 : decode cX6_best 9 = .ok (.ifCond .eq 13, 3) := by decide +kernel
theorem dX6_best_12 : decode cX6_best 12 = .ok (.iload_n 2, 1) := by decide +kernel
theorem dX6_best_13 : decode cX6_best 13 = .ok (.i2l, 1) := by decide +kernel
theorem dX6_best_14 : decode cX6_best 14 = .ok (.lconst 0, 1) := by decide +kernel
theorem dX6_best_15 : decode cX6_best 15 = .ok (.lconst 1, 1) := by decide +kernel
theorem dX6_best_16 : decode cX6_best 16 = .ok (.invokestatic 73, 3) := by decide +kernel
theorem dX6_best_19 : decode cX6_best 19 = .ok (.ifCond .ne 5, 3) := by decide +kernel
theorem dX6_best_22 : decode cX6_best 22 = .ok (.iconst (-1), 1) := by decide +kernel
theorem dX6_best_23 : decode cX6_best 23 = .ok (.ireturn, 1) := by decide +kernel
theorem dX6_best_24 : decode cX6_best 24 = .ok (.aload_n 0, 1) := by decide +kernel
theorem dX6_best_25 : decode cX6_best 25 = .ok (.iload_n 1, 1) := by decide +kernel
theorem dX6_best_26 : decode cX6_best 26 = .ok (.aload_n 0, 1) := by decide +kernel
theorem dX6_best_27 : decode cX6_best 27 = .ok (.getfield 16, 3) := by decide +kernel
theorem dX6_best_30 : decode cX6_best 30 = .ok (.bipush 9, 2) := by decide +kernel
theorem dX6_best_32 : decode cX6_best 32 = .ok (.iaload, 1) := by decide +kernel
theorem dX6_best_33 : decode cX6_best 33 = .ok (.invokevirtual 208, 3) := by decide +kernel
theorem dX6_best_36 : decode cX6_best 36 = .ok (.iload_n 2, 1) := by decide +kernel
theorem dX6_best_37 : decode cX6_best 37 = .ok (.ifCond .ne 10, 3) := by decide +kernel
theorem dX6_best_40 : decode cX6_best 40 = .ok (.aload_n 0, 1) := by decide +kernel
theorem dX6_best_41 : decode cX6_best 41 = .ok (.getfield 202, 3) := by decide +kernel
theorem dX6_best_44 : decode cX6_best 44 = .ok (.goto 7, 3) := by decide +kernel
theorem dX6_best_47 : decode cX6_best 47 = .ok (.aload_n 0, 1) := by decide +kernel
theorem dX6_best_48 : decode cX6_best 48 = .ok (.getfield 205, 3) := by decide +kernel
theorem dX6_best_51 : decode cX6_best 51 = .ok (.ireturn, 1) := by decide +kernel
theorem dX6_lays_0 : decode cX6_lays 0 = .ok (.iconst 0, 1) := by decide +kernel
theorem dX6_lays_1 : decode cX6_lays 1 = .ok (.istore_n 2, 1) := by decide +kernel
theorem dX6_lays_2 : decode cX6_lays 2 = .ok (.iload_n 2, 1) := by decide +kernel
theorem dX6_lays_3 : decode cX6_lays 3 = .ok (.aload_n 0, 1) := by decide +kernel
theorem dX6_lays_4 : decode cX6_lays 4 = .ok (.getfield 7, 3) := by decide +kernel
theorem dX6_lays_7 : decode cX6_lays 7 = .ok (.iconst 0, 1) := by decide +kernel
theorem dX6_lays_8 : decode cX6_lays 8 = .ok (.iaload, 1) := by decide +kernel
theorem dX6_lays_9 : decode cX6_lays 9 = .ok (.if_icmp .ge 68, 3) := by decide +kernel
theorem dX6_lays_12 : decode cX6_lays 12 = .ok (.iload_n 2, 1) := by decide +kernel
theorem dX6_lays_13 : decode cX6_lays 13 = .ok (.iconst 1, 1) := by decide +kernel
theorem dX6_lays_14 : decode cX6_lays 14 = .ok (.iadd, 1) := by decide +kernel
theorem dX6_lays_15 : decode cX6_lays 15 = .ok (.istore_n 3, 1) := by decide +kernel
theorem dX6_lays_16 : decode cX6_lays 16 = .ok (.iload_n 3, 1) := by decide +kernel
theorem dX6_lays_17 : decode cX6_lays 17 = .ok (.aload_n 0, 1) := by decide +kernel
theorem dX6_lays_18 : decode cX6_lays 18 = .ok (.getfield 7, 3) := by decide +kernel
theorem dX6_lays_21 : decode cX6_lays 21 = .ok (.iconst 0, 1) := by decide +kernel
theorem dX6_lays_22 : decode cX6_lays 22 = .ok (.iaload, 1) := by decide +kernel
theorem dX6_lays_23 : decode cX6_lays 23 = .ok (.if_icmp .ge 48, 3) := by decide +kernel
theorem dX6_lays_26 : decode cX6_lays 26 = .ok (.aload_n 0, 1) := by decide +kernel
theorem dX6_lays_27 : decode cX6_lays 27 = .ok (.getfield 31, 3) := by decide +kernel
theorem dX6_lays_30 : decode cX6_lays 30 = .ok (.bipush 6, 2) := by decide +kernel
theorem dX6_lays_32 : decode cX6_lays 32 = .ok (.iload_n 2, 1) := by decide +kernel
theorem dX6_lays_33 : decode cX6_lays 33 = .ok (.imul, 1) := by decide +kernel
theorem dX6_lays_34 : decode cX6_lays 34 = .ok (.iload_n 3, 1) := by decide +kernel
theorem dX6_lays_35 : decode cX6_lays 35 = .ok (.iadd, 1) := by decide +kernel
theorem dX6_lays_36 : decode cX6_lays 36 = .ok (.aload_n 0, 1) := by decide +kernel
theorem dX6_lays_37 : decode cX6_lays 37 = .ok (.iload_n 2, 1) := by decide +kernel
theorem dX6_lays_38 : decode cX6_lays 38 = .ok (.iload_n 3, 1) := by decide +kernel
theorem dX6_lays_39 : decode cX6_lays 39 = .ok (.invokevirtual 168, 3) := by decide +kernel
theorem dX6_lays_42 : decode cX6_lays 42 = .ok (.ifCond .eq 20, 3) := by decide +kernel
theorem dX6_lays_45 : decode cX6_lays 45 = .ok (.aload_n 0, 1) := by decide +kernel
theorem dX6_lays_46 : decode cX6_lays 46 = .ok (.iload_n 2, 1) := by decide +kernel
theorem dX6_lays_47 : decode cX6_lays 47 = .ok (.iload_n 3, 1) := by decide +kernel
theorem dX6_lays_48 : decode cX6_lays 48 = .ok (.iload_n 1, 1) := by decide +kernel
theorem dX6_lays_49 : decode cX6_lays 49 = .ok (.aload_n 0, 1) := by decide +kernel
theorem dX6_lays_50 : decode cX6_lays 50 = .ok (.getfield 16, 3) := by decide +kernel
theorem dX6_lays_53 : decode cX6_lays 53 = .ok (.bipush 9, 2) := by decide +kernel
theorem dX6_lays_55 : decode cX6_lays 55 = .ok (.iaload, 1) := by decide +kernel
theorem dX6_lays_56 : decode cX6_lays 56 = .ok (.invokevirtual 198, 3) := by decide +kernel
theorem dX6_lays_59 : decode cX6_lays 59 = .ok (.goto 5, 3) := by decide +kernel
theorem dX6_lays_62 : decode cX6_lays 62 = .ok (.bipush (-4), 2) := by decide +kernel
theorem dX6_lays_64 : decode cX6_lays 64 = .ok (.iastore, 1) := by decide +kernel
theorem dX6_lays_65 : decode cX6_lays 65 = .ok (.iinc 3 1, 3) := by decide +kernel
theorem dX6_lays_68 : decode cX6_lays 68 = .ok (.goto (-52), 3) := by decide +kernel
theorem dX6_lays_71 : decode cX6_lays 71 = .ok (.iinc 2 1, 3) := by decide +kernel
theorem dX6_lays_74 : decode cX6_lays 74 = .ok (.goto (-72), 3) := by decide +kernel
theorem dX6_lays_77 : decode cX6_lays 77 = .ok (.return_, 1) := by decide +kernel
theorem dX6_lower_0 : decode cX6_lower 0 = .ok (.iload_n 0, 1) := by decide +kernel
theorem dX6_lower_1 : decode cX6_lower 1 = .ok (.iload_n 1, 1) := by decide +kernel
theorem dX6_lower_2 : decode cX6_lower 2 = .ok (.if_icmp .ge 7, 3) := by decide +kernel
theorem dX6_lower_5 : decode cX6_lower 5 = .ok (.iload_n 0, 1) := by decide +kernel
theorem dX6_lower_6 : decode cX6_lower 6 = .ok (.goto 4, 3) := by decide +kernel
theorem dX6_lower_9 : decode cX6_lower 9 = .ok (.iload_n 1, 1) := by decide +kernel
theorem dX6_lower_10 : decode cX6_lower 10 = .ok (.ireturn, 1) := by decide +kernel
theorem dX6_bringOf_0 : decode cX6_bringOf 0 = .ok (.aload_n 0, 1) := by decide +kernel
theorem dX6_bringOf_1 : decode cX6_bringOf 1 = .ok (.getfield 31, 3) := by decide +kernel
theorem dX6_bringOf_4 : decode cX6_bringOf 4 = .ok (.bipush 6, 2) := by decide +kernel
theorem dX6_bringOf_6 : decode cX6_bringOf 6 = .ok (.iload_n 1, 1) := by decide +kernel
theorem dX6_bringOf_7 : decode cX6_bringOf 7 = .ok (.iload_n 2, 1) := by decide +kernel
theorem dX6_bringOf_8 : decode cX6_bringOf 8 = .ok (.invokestatic 211, 3) := by decide +kernel
theorem dX6_bringOf_11 : decode cX6_bringOf 11 = .ok (.imul, 1) := by decide +kernel
theorem dX6_bringOf_12 : decode cX6_bringOf 12 = .ok (.iload_n 1, 1) := by decide +kernel
theorem dX6_bringOf_13 : decode cX6_bringOf 13 = .ok (.iadd, 1) := by decide +kernel
theorem dX6_bringOf_14 : decode cX6_bringOf 14 = .ok (.iload_n 2, 1) := by decide +kernel
theorem dX6_bringOf_15 : decode cX6_bringOf 15 = .ok (.iadd, 1) := by decide +kernel
theorem dX6_bringOf_16 : decode cX6_bringOf 16 = .ok (.iload_n 1, 1) := by decide +kernel
theorem dX6_bringOf_17 : decode cX6_bringOf 17 = .ok (.iload_n 2, 1) := by decide +kernel
theorem dX6_bringOf_18 : decode cX6_bringOf 18 = .ok (.invokestatic 211, 3) := by decide +kernel
theorem dX6_bringOf_21 : decode cX6_bringOf 21 = .ok (.isub, 1) := by decide +kernel
theorem dX6_bringOf_22 : decode cX6_bringOf 22 = .ok (.iaload, 1) := by decide +kernel
theorem dX6_bringOf_23 : decode cX6_bringOf 23 = .ok (.ireturn, 1) := by decide +kernel
theorem dX6_worth_0 : decode cX6_worth 0 = .ok (.aload_n 0, 1) := by decide +kernel
theorem dX6_worth_1 : decode cX6_worth 1 = .ok (.getfield 7, 3) := by decide +kernel
theorem dX6_worth_4 : decode cX6_worth 4 = .ok (.iconst 0, 1) := by decide +kernel
theorem dX6_worth_5 : decode cX6_worth 5 = .ok (.iaload, 1) := by decide +kernel
theorem dX6_worth_6 : decode cX6_worth 6 = .ok (.istore_n 2, 1) := by decide +kernel
theorem dX6_worth_7 : decode cX6_worth 7 = .ok (.iload_n 1, 1) := by decide +kernel
theorem dX6_worth_8 : decode cX6_worth 8 = .ok (.istore_n 3, 1) := by decide +kernel
theorem dX6_worth_9 : decode cX6_worth 9 = .ok (.iload_n 2, 1) := by decide +kernel
theorem dX6_worth_10 : decode cX6_worth 10 = .ok (.iconst 1, 1) := by decide +kernel
theorem dX6_worth_11 : decode cX6_worth 11 = .ok (.isub, 1) := by decide +kernel
theorem dX6_worth_12 : decode cX6_worth 12 = .ok (.istore 4, 2) := by decide +kernel
theorem dX6_worth_14 : decode cX6_worth 14 = .ok (.iload 4, 2) := by decide +kernel
theorem dX6_worth_16 : decode cX6_worth 16 = .ok (.ifCond .lt 27, 3) := by decide +kernel
theorem dX6_worth_19 : decode cX6_worth 19 = .ok (.aload_n 0, 1) := by decide +kernel
theorem dX6_worth_20 : decode cX6_worth 20 = .ok (.getfield 34, 3) := by decide +kernel
theorem dX6_worth_23 : decode cX6_worth 23 = .ok (.iload 4, 2) := by decide +kernel
theorem dX6_worth_25 : decode cX6_worth 25 = .ok (.iload_n 3, 1) := by decide +kernel
theorem dX6_worth_26 : decode cX6_worth 26 = .ok (.iload_n 2, 1) := by decide +kernel
theorem dX6_worth_27 : decode cX6_worth 27 = .ok (.iconst 1, 1) := by decide +kernel
theorem dX6_worth_28 : decode cX6_worth 28 = .ok (.iadd, 1) := by decide +kernel
theorem dX6_worth_29 : decode cX6_worth 29 = .ok (.irem, 1) := by decide +kernel
theorem dX6_worth_30 : decode cX6_worth 30 = .ok (.iastore, 1) := by decide +kernel
theorem dX6_worth_31 : decode cX6_worth 31 = .ok (.iload_n 3, 1) := by decide +kernel
theorem dX6_worth_32 : decode cX6_worth 32 = .ok (.iload_n 2, 1) := by decide +kernel
theorem dX6_worth_33 : decode cX6_worth 33 = .ok (.iconst 1, 1) := by decide +kernel
theorem dX6_worth_34 : decode cX6_worth 34 = .ok (.iadd, 1) := by decide +kernel
theorem dX6_worth_35 : decode cX6_worth 35 = .ok (.idiv, 1) := by decide +kernel
theorem dX6_worth_36 : decode cX6_worth 36 = .ok (.istore_n 3, 1) := by decide +kernel
theorem dX6_worth_37 : decode cX6_worth 37 = .ok (.iinc 4 (-1), 3) := by decide +kernel
theorem dX6_worth_40 : decode cX6_worth 40 = .ok (.goto (-26), 3) := by decide +kernel
theorem dX6_worth_43 : decode cX6_worth 43 = .ok (.iconst 0, 1) := by decide +kernel
theorem dX6_worth_44 : decode cX6_worth 44 = .ok (.istore 4, 2) := by decide +kernel
theorem dX6_worth_46 : decode cX6_worth 46 = .ok (.iconst 0, 1) := by decide +kernel
theorem dX6_worth_47 : decode cX6_worth 47 = .ok (.istore 5, 2) := by decide +kernel
theorem dX6_worth_49 : decode cX6_worth 49 = .ok (.iload 5, 2) := by decide +kernel
theorem dX6_worth_51 : decode cX6_worth 51 = .ok (.iload_n 2, 1) := by decide +kernel
theorem dX6_worth_52 : decode cX6_worth 52 = .ok (.if_icmp .ge 81, 3) := by decide +kernel
theorem dX6_worth_55 : decode cX6_worth 55 = .ok (.aload_n 0, 1) := by decide +kernel
theorem dX6_worth_56 : decode cX6_worth 56 = .ok (.getfield 34, 3) := by decide +kernel
theorem dX6_worth_59 : decode cX6_worth 59 = .ok (.iload 5, 2) := by decide +kernel
theorem dX6_worth_61 : decode cX6_worth 61 = .ok (.iaload, 1) := by decide +kernel
theorem dX6_worth_62 : decode cX6_worth 62 = .ok (.istore 6, 2) := by decide +kernel
theorem dX6_worth_64 : decode cX6_worth 64 = .ok (.iload 6, 2) := by decide +kernel
theorem dX6_worth_66 : decode cX6_worth 66 = .ok (.iload_n 2, 1) := by decide +kernel
theorem dX6_worth_67 : decode cX6_worth 67 = .ok (.if_icmp .ge 60, 3) := by decide +kernel
theorem dX6_worth_70 : decode cX6_worth 70 = .ok (.iload 6, 2) := by decide +kernel
theorem dX6_worth_72 : decode cX6_worth 72 = .ok (.iload 5, 2) := by decide +kernel
theorem dX6_worth_74 : decode cX6_worth 74 = .ok (.if_icmp .eq 26, 3) := by decide +kernel
theorem dX6_worth_77 : decode cX6_worth 77 = .ok (.aload_n 0, 1) := by decide +kernel
theorem dX6_worth_78 : decode cX6_worth 78 = .ok (.getfield 34, 3) := by decide +kernel
theorem dX6_worth_81 : decode cX6_worth 81 = .ok (.iload 6, 2) := by decide +kernel
theorem dX6_worth_83 : decode cX6_worth 83 = .ok (.iaload, 1) := by decide +kernel
theorem dX6_worth_84 : decode cX6_worth 84 = .ok (.iload 5, 2) := by decide +kernel
theorem dX6_worth_86 : decode cX6_worth 86 = .ok (.if_icmp .ne 14, 3) := by decide +kernel
theorem dX6_worth_89 : decode cX6_worth 89 = .ok (.aload_n 0, 1) := by decide +kernel
theorem dX6_worth_90 : decode cX6_worth 90 = .ok (.iload 5, 2) := by decide +kernel
theorem dX6_worth_92 : decode cX6_worth 92 = .ok (.iload 6, 2) := by decide +kernel
theorem dX6_worth_94 : decode cX6_worth 94 = .ok (.invokevirtual 168, 3) := by decide +kernel
theorem dX6_worth_97 : decode cX6_worth 97 = .ok (.ifCond .ne 6, 3) := by decide +kernel
theorem dX6_worth_100 : decode cX6_worth 100 = .ok (.bipush (-4), 2) := by decide +kernel
theorem dX6_worth_102 : decode cX6_worth 102 = .ok (.ireturn, 1) := by decide +kernel
theorem dX6_worth_103 : decode cX6_worth 103 = .ok (.iload 4, 2) := by decide +kernel
theorem dX6_worth_105 : decode cX6_worth 105 = .ok (.iload 6, 2) := by decide +kernel
theorem dX6_worth_107 : decode cX6_worth 107 = .ok (.iload 5, 2) := by decide +kernel
theorem dX6_worth_109 : decode cX6_worth 109 = .ok (.if_icmp .le 14, 3) := by decide +kernel
theorem dX6_worth_112 : decode cX6_worth 112 = .ok (.aload_n 0, 1) := by decide +kernel
theorem dX6_worth_113 : decode cX6_worth 113 = .ok (.iload 5, 2) := by decide +kernel
theorem dX6_worth_115 : decode cX6_worth 115 = .ok (.iload 6, 2) := by decide +kernel
theorem dX6_worth_117 : decode cX6_worth 117 = .ok (.invokevirtual 215, 3) := by decide +kernel
theorem dX6_worth_120 : decode cX6_worth 120 = .ok (.goto 4, 3) := by decide +kernel
theorem dX6_worth_123 : decode cX6_worth 123 = .ok (.iconst 0, 1) := by decide +kernel
theorem dX6_worth_124 : decode cX6_worth 124 = .ok (.iadd, 1) := by decide +kernel
theorem dX6_worth_125 : decode cX6_worth 125 = .ok (.istore 4, 2) := by decide +kernel
theorem dX6_worth_127 : decode cX6_worth 127 = .ok (.iinc 5 1, 3) := by decide +kernel
theorem dX6_worth_130 : decode cX6_worth 130 = .ok (.goto (-81), 3) := by decide +kernel
theorem dX6_worth_133 : decode cX6_worth 133 = .ok (.iload 4, 2) := by decide +kernel
theorem dX6_worth_135 : decode cX6_worth 135 = .ok (.ireturn, 1) := by decide +kernel
theorem dX6_findsTwos_0 : decode cX6_findsTwos 0 = .ok (.aload_n 0, 1) := by decide +kernel
theorem dX6_findsTwos_1 : decode cX6_findsTwos 1 = .ok (.iload_n 1, 1) := by decide +kernel
theorem dX6_findsTwos_2 : decode cX6_findsTwos 2 = .ok (.invokevirtual 218, 3) := by decide +kernel
theorem dX6_findsTwos_5 : decode cX6_findsTwos 5 = .ok (.iconst 1, 1) := by decide +kernel
theorem dX6_findsTwos_6 : decode cX6_findsTwos 6 = .ok (.istore_n 2, 1) := by decide +kernel
theorem dX6_findsTwos_7 : decode cX6_findsTwos 7 = .ok (.iconst 0, 1) := by decide +kernel
theorem dX6_findsTwos_8 : decode cX6_findsTwos 8 = .ok (.istore_n 3, 1) := by decide +kernel
theorem dX6_findsTwos_9 : decode cX6_findsTwos 9 = .ok (.iload_n 3, 1) := by decide +kernel
theorem dX6_findsTwos_10 : decode cX6_findsTwos 10 = .ok (.aload_n 0, 1) := by decide +kernel
theorem dX6_findsTwos_11 : decode cX6_findsTwos 11 = .ok (.getfield 7, 3) := by decide +kernel
theorem dX6_findsTwos_14 : decode cX6_findsTwos 14 = .ok (.iconst 0, 1) := by decide +kernel
theorem dX6_findsTwos_15 : decode cX6_findsTwos 15 = .ok (.iaload, 1) := by decide +kernel
theorem dX6_findsTwos_16 : decode cX6_findsTwos 16 = .ok (.if_icmp .ge 20, 3) := by decide +kernel
theorem dX6_findsTwos_19 : decode cX6_findsTwos 19 = .ok (.iload_n 2, 1) := by decide +kernel
theorem dX6_findsTwos_20 : decode cX6_findsTwos 20 = .ok (.aload_n 0, 1) := by decide +kernel
theorem dX6_findsTwos_21 : decode cX6_findsTwos 21 = .ok (.getfield 7, 3) := by decide +kernel
theorem dX6_findsTwos_24 : decode cX6_findsTwos 24 = .ok (.iconst 0, 1) := by decide +kernel
theorem dX6_findsTwos_25 : decode cX6_findsTwos 25 = .ok (.iaload, 1) := by decide +kernel
theorem dX6_findsTwos_26 : decode cX6_findsTwos 26 = .ok (.iconst 1, 1) := by decide +kernel
theorem dX6_findsTwos_27 : decode cX6_findsTwos 27 = .ok (.iadd, 1) := by decide +kernel
theorem dX6_findsTwos_28 : decode cX6_findsTwos 28 = .ok (.imul, 1) := by decide +kernel
theorem dX6_findsTwos_29 : decode cX6_findsTwos 29 = .ok (.istore_n 2, 1) := by decide +kernel
theorem dX6_findsTwos_30 : decode cX6_findsTwos 30 = .ok (.iinc 3 1, 3) := by decide +kernel
theorem dX6_findsTwos_33 : decode cX6_findsTwos 33 = .ok (.goto (-24), 3) := by decide +kernel
theorem dX6_findsTwos_36 : decode cX6_findsTwos 36 = .ok (.iconst (-1), 1) := by decide +kernel
theorem dX6_findsTwos_37 : decode cX6_findsTwos 37 = .ok (.istore_n 3, 1) := by decide +kernel
theorem dX6_findsTwos_38 : decode cX6_findsTwos 38 = .ok (.iconst 0, 1) := by decide +kernel
theorem dX6_findsTwos_39 : decode cX6_findsTwos 39 = .ok (.istore 4, 2) := by decide +kernel
theorem dX6_findsTwos_41 : decode cX6_findsTwos 41 = .ok (.iload 4, 2) := by decide +kernel
theorem dX6_findsTwos_43 : decode cX6_findsTwos 43 = .ok (.iload_n 2, 1) := by decide +kernel
theorem dX6_findsTwos_44 : decode cX6_findsTwos 44 = .ok (.if_icmp .ge 41, 3) := by decide +kernel
theorem dX6_findsTwos_47 : decode cX6_findsTwos 47 = .ok (.aload_n 0, 1) := by decide +kernel
theorem dX6_findsTwos_48 : decode cX6_findsTwos 48 = .ok (.iload 4, 2) := by decide +kernel
theorem dX6_findsTwos_50 : decode cX6_findsTwos 50 = .ok (.invokevirtual 221, 3) := by decide +kernel
theorem dX6_findsTwos_53 : decode cX6_findsTwos 53 = .ok (.istore 5, 2) := by decide +kernel
theorem dX6_findsTwos_55 : decode cX6_findsTwos 55 = .ok (.iload 5, 2) := by decide +kernel
theorem dX6_findsTwos_57 : decode cX6_findsTwos 57 = .ok (.iload_n 3, 1) := by decide +kernel
theorem dX6_findsTwos_58 : decode cX6_findsTwos 58 = .ok (.if_icmp .le 21, 3) := by decide +kernel
theorem dX6_findsTwos_61 : decode cX6_findsTwos 61 = .ok (.iload 5, 2) := by decide +kernel
theorem dX6_findsTwos_63 : decode cX6_findsTwos 63 = .ok (.istore_n 3, 1) := by decide +kernel
theorem dX6_findsTwos_64 : decode cX6_findsTwos 64 = .ok (.aload_n 0, 1) := by decide +kernel
theorem dX6_findsTwos_65 : decode cX6_findsTwos 65 = .ok (.getfield 34, 3) := by decide +kernel
theorem dX6_findsTwos_68 : decode cX6_findsTwos 68 = .ok (.iconst 0, 1) := by decide +kernel
theorem dX6_findsTwos_69 : decode cX6_findsTwos 69 = .ok (.aload_n 0, 1) := by decide +kernel
theorem dX6_findsTwos_70 : decode cX6_findsTwos 70 = .ok (.getfield 37, 3) := by decide +kernel
theorem dX6_findsTwos_73 : decode cX6_findsTwos 73 = .ok (.iconst 0, 1) := by decide +kernel
theorem dX6_findsTwos_74 : decode cX6_findsTwos 74 = .ok (.bipush 6, 2) := by decide +kernel
theorem dX6_findsTwos_76 : decode cX6_findsTwos 76 = .ok (.invokestatic 58, 3) := by decide +kernel
theorem dX6_findsTwos_79 : decode cX6_findsTwos 79 = .ok (.iinc 4 1, 3) := by decide +kernel
theorem dX6_findsTwos_82 : decode cX6_findsTwos 82 = .ok (.goto (-41), 3) := by decide +kernel
theorem dX6_findsTwos_85 : decode cX6_findsTwos 85 = .ok (.iload_n 3, 1) := by decide +kernel
theorem dX6_findsTwos_86 : decode cX6_findsTwos 86 = .ok (.ireturn, 1) := by decide +kernel
theorem dX6_twos_0 : decode cX6_twos 0 = .ok (.iload_n 1, 1) := by decide +kernel
theorem dX6_twos_1 : decode cX6_twos 1 = .ok (.i2l, 1) := by decide +kernel
theorem dX6_twos_2 : decode cX6_twos 2 = .ok (.lconst 1, 1) := by decide +kernel
theorem dX6_twos_3 : decode cX6_twos 3 = .ok (.ldc2_w 181, 3) := by decide +kernel
theorem dX6_twos_6 : decode cX6_twos 6 = .ok (.invokestatic 73, 3) := by decide +kernel
theorem dX6_twos_9 : decode cX6_twos 9 = .ok (.ifCond .eq 16, 3) := by decide +kernel
theorem dX6_twos_12 : decode cX6_twos 12 = .ok (.iload_n 2, 1) := by decide +kernel
theorem dX6_twos_13 : decode cX6_twos 13 = .ok (.iconst (-1), 1) := by decide +kernel
theorem dX6_twos_14 : decode cX6_twos 14 = .ok (.if_icmp .eq 13, 3) := by decide +kernel
theorem dX6_twos_17 : decode cX6_twos 17 = .ok (.aload_n 0, 1) := by decide +kernel
theorem dX6_twos_18 : decode cX6_twos 18 = .ok (.iload_n 2, 1) := by decide +kernel
theorem dX6_twos_19 : decode cX6_twos 19 = .ok (.invokevirtual 128, 3) := by decide +kernel
theorem dX6_twos_22 : decode cX6_twos 22 = .ok (.ifCond .ne 5, 3) := by decide +kernel
theorem dX6_twos_25 : decode cX6_twos 25 = .ok (.iconst (-1), 1) := by decide +kernel
theorem dX6_twos_26 : decode cX6_twos 26 = .ok (.ireturn, 1) := by decide +kernel
theorem dX6_twos_27 : decode cX6_twos 27 = .ok (.aload_n 0, 1) := by decide +kernel
theorem dX6_twos_28 : decode cX6_twos 28 = .ok (.iload_n 1, 1) := by decide +kernel
theorem dX6_twos_29 : decode cX6_twos 29 = .ok (.invokevirtual 224, 3) := by decide +kernel
theorem dX6_twos_32 : decode cX6_twos 32 = .ok (.istore_n 3, 1) := by decide +kernel
theorem dX6_twos_33 : decode cX6_twos 33 = .ok (.iload_n 2, 1) := by decide +kernel
theorem dX6_twos_34 : decode cX6_twos 34 = .ok (.iconst (-1), 1) := by decide +kernel
theorem dX6_twos_35 : decode cX6_twos 35 = .ok (.if_icmp .ne 5, 3) := by decide +kernel
theorem dX6_twos_38 : decode cX6_twos 38 = .ok (.iload_n 3, 1) := by decide +kernel
theorem dX6_twos_39 : decode cX6_twos 39 = .ok (.ireturn, 1) := by decide +kernel
theorem dX6_twos_40 : decode cX6_twos 40 = .ok (.aload_n 0, 1) := by decide +kernel
theorem dX6_twos_41 : decode cX6_twos 41 = .ok (.getfield 37, 3) := by decide +kernel
theorem dX6_twos_44 : decode cX6_twos 44 = .ok (.iload_n 2, 1) := by decide +kernel
theorem dX6_twos_45 : decode cX6_twos 45 = .ok (.iaload, 1) := by decide +kernel
theorem dX6_twos_46 : decode cX6_twos 46 = .ok (.aload_n 0, 1) := by decide +kernel
theorem dX6_twos_47 : decode cX6_twos 47 = .ok (.getfield 7, 3) := by decide +kernel
theorem dX6_twos_50 : decode cX6_twos 50 = .ok (.iconst 0, 1) := by decide +kernel
theorem dX6_twos_51 : decode cX6_twos 51 = .ok (.iaload, 1) := by decide +kernel
theorem dX6_twos_52 : decode cX6_twos 52 = .ok (.if_icmp .ge 12, 3) := by decide +kernel
theorem dX6_twos_55 : decode cX6_twos 55 = .ok (.aload_n 0, 1) := by decide +kernel
theorem dX6_twos_56 : decode cX6_twos 56 = .ok (.getfield 37, 3) := by decide +kernel
theorem dX6_twos_59 : decode cX6_twos 59 = .ok (.iload_n 2, 1) := by decide +kernel
theorem dX6_twos_60 : decode cX6_twos 60 = .ok (.iaload, 1) := by decide +kernel
theorem dX6_twos_61 : decode cX6_twos 61 = .ok (.goto 5, 3) := by decide +kernel
theorem dX6_twos_64 : decode cX6_twos 64 = .ok (.bipush (-4), 2) := by decide +kernel
theorem dX6_twos_66 : decode cX6_twos 66 = .ok (.ireturn, 1) := by decide +kernel
theorem dX6_hasBy_0 : decode cX6_hasBy 0 = .ok (.aload_n 0, 1) := by decide +kernel
theorem dX6_hasBy_1 : decode cX6_hasBy 1 = .ok (.getfield 37, 3) := by decide +kernel
theorem dX6_hasBy_4 : decode cX6_hasBy 4 = .ok (.iload_n 1, 1) := by decide +kernel
theorem dX6_hasBy_5 : decode cX6_hasBy 5 = .ok (.iaload, 1) := by decide +kernel
theorem dX6_hasBy_6 : decode cX6_hasBy 6 = .ok (.aload_n 0, 1) := by decide +kernel
theorem dX6_hasBy_7 : decode cX6_hasBy 7 = .ok (.getfield 7, 3) := by decide +kernel
theorem dX6_hasBy_10 : decode cX6_hasBy 10 = .ok (.iconst 0, 1) := by decide +kernel
theorem dX6_hasBy_11 : decode cX6_hasBy 11 = .ok (.iaload, 1) := by decide +kernel
theorem dX6_hasBy_12 : decode cX6_hasBy 12 = .ok (.if_icmp .ge 17, 3) := by decide +kernel
theorem dX6_hasBy_15 : decode cX6_hasBy 15 = .ok (.aload_n 0, 1) := by decide +kernel
theorem dX6_hasBy_16 : decode cX6_hasBy 16 = .ok (.iload_n 1, 1) := by decide +kernel
theorem dX6_hasBy_17 : decode cX6_hasBy 17 = .ok (.aload_n 0, 1) := by decide +kernel
theorem dX6_hasBy_18 : decode cX6_hasBy 18 = .ok (.getfield 37, 3) := by decide +kernel
theorem dX6_hasBy_21 : decode cX6_hasBy 21 = .ok (.iload_n 1, 1) := by decide +kernel
theorem dX6_hasBy_22 : decode cX6_hasBy 22 = .ok (.iaload, 1) := by decide +kernel
theorem dX6_hasBy_23 : decode cX6_hasBy 23 = .ok (.invokevirtual 215, 3) := by decide +kernel
theorem dX6_hasBy_26 : decode cX6_hasBy 26 = .ok (.goto 4, 3) := by decide +kernel
theorem dX6_hasBy_29 : decode cX6_hasBy 29 = .ok (.iconst 0, 1) := by decide +kernel
theorem dX6_hasBy_30 : decode cX6_hasBy 30 = .ok (.ireturn, 1) := by decide +kernel
theorem dX6_leave_0 : decode cX6_leave 0 = .ok (.iload_n 1, 1) := by decide +kernel
theorem dX6_leave_1 : decode cX6_leave 1 = .ok (.i2l, 1) := by decide +kernel
theorem dX6_leave_2 : decode cX6_leave 2 = .ok (.lconst 1, 1) := by decide +kernel
theorem dX6_leave_3 : decode cX6_leave 3 = .ok (.ldc2_w 181, 3) := by decide +kernel
theorem dX6_leave_6 : decode cX6_leave 6 = .ok (.invokestatic 73, 3) := by decide +kernel
theorem dX6_leave_9 : decode cX6_leave 9 = .ok (.ifCond .ne 5, 3) := by decide +kernel
theorem dX6_leave_12 : decode cX6_leave 12 = .ok (.iconst (-1), 1) := by decide +kernel
theorem dX6_leave_13 : decode cX6_leave 13 = .ok (.ireturn, 1) := by decide +kernel
theorem dX6_leave_14 : decode cX6_leave 14 = .ok (.aload_n 0, 1) := by decide +kernel
theorem dX6_leave_15 : decode cX6_leave 15 = .ok (.iload_n 1, 1) := by decide +kernel
theorem dX6_leave_16 : decode cX6_leave 16 = .ok (.invokevirtual 224, 3) := by decide +kernel
theorem dX6_leave_19 : decode cX6_leave 19 = .ok (.istore_n 2, 1) := by decide +kernel
theorem dX6_leave_20 : decode cX6_leave 20 = .ok (.iconst 0, 1) := by decide +kernel
theorem dX6_leave_21 : decode cX6_leave 21 = .ok (.istore_n 3, 1) := by decide +kernel
theorem dX6_leave_22 : decode cX6_leave 22 = .ok (.iload_n 3, 1) := by decide +kernel
theorem dX6_leave_23 : decode cX6_leave 23 = .ok (.aload_n 0, 1) := by decide +kernel
theorem dX6_leave_24 : decode cX6_leave 24 = .ok (.getfield 7, 3) := by decide +kernel
theorem dX6_leave_27 : decode cX6_leave 27 = .ok (.iconst 0, 1) := by decide +kernel
theorem dX6_leave_28 : decode cX6_leave 28 = .ok (.iaload, 1) := by decide +kernel
theorem dX6_leave_29 : decode cX6_leave 29 = .ok (.if_icmp .ge 91, 3) := by decide +kernel
theorem dX6_leave_32 : decode cX6_leave 32 = .ok (.iload_n 3, 1) := by decide +kernel
theorem dX6_leave_33 : decode cX6_leave 33 = .ok (.iconst 1, 1) := by decide +kernel
theorem dX6_leave_34 : decode cX6_leave 34 = .ok (.iadd, 1) := by decide +kernel
theorem dX6_leave_35 : decode cX6_leave 35 = .ok (.istore 4, 2) := by decide +kernel
theorem dX6_leave_37 : decode cX6_leave 37 = .ok (.iload 4, 2) := by decide +kernel
theorem dX6_leave_39 : decode cX6_leave 39 = .ok (.aload_n 0, 1) := by decide +kernel
theorem dX6_leave_40 : decode cX6_leave 40 = .ok (.getfield 7, 3) := by decide +kernel
theorem dX6_leave_43 : decode cX6_leave 43 = .ok (.iconst 0, 1) := by decide +kernel
theorem dX6_leave_44 : decode cX6_leave 44 = .ok (.iaload, 1) := by decide +kernel
theorem dX6_leave_45 : decode cX6_leave 45 = .ok (.if_icmp .ge 69, 3) := by decide +kernel
theorem dX6_leave_48 : decode cX6_leave 48 = .ok (.aload_n 0, 1) := by decide +kernel
theorem dX6_leave_49 : decode cX6_leave 49 = .ok (.iload_n 3, 1) := by decide +kernel
theorem dX6_leave_50 : decode cX6_leave 50 = .ok (.iload 4, 2) := by decide +kernel
theorem dX6_leave_52 : decode cX6_leave 52 = .ok (.invokevirtual 168, 3) := by decide +kernel
theorem dX6_leave_55 : decode cX6_leave 55 = .ok (.ifCond .eq 53, 3) := by decide +kernel
theorem dX6_leave_58 : decode cX6_leave 58 = .ok (.aload_n 0, 1) := by decide +kernel
theorem dX6_leave_59 : decode cX6_leave 59 = .ok (.getfield 37, 3) := by decide +kernel
theorem dX6_leave_62 : decode cX6_leave 62 = .ok (.iload_n 3, 1) := by decide +kernel
theorem dX6_leave_63 : decode cX6_leave 63 = .ok (.iaload, 1) := by decide +kernel
theorem dX6_leave_64 : decode cX6_leave 64 = .ok (.iload 4, 2) := by decide +kernel
theorem dX6_leave_66 : decode cX6_leave 66 = .ok (.if_icmp .eq 42, 3) := by decide +kernel
theorem dX6_leave_69 : decode cX6_leave 69 = .ok (.aload_n 0, 1) := by decide +kernel
theorem dX6_leave_70 : decode cX6_leave 70 = .ok (.iload_n 3, 1) := by decide +kernel
theorem dX6_leave_71 : decode cX6_leave 71 = .ok (.iload 4, 2) := by decide +kernel
theorem dX6_leave_73 : decode cX6_leave 73 = .ok (.invokevirtual 215, 3) := by decide +kernel
theorem dX6_leave_76 : decode cX6_leave 76 = .ok (.aload_n 0, 1) := by decide +kernel
theorem dX6_leave_77 : decode cX6_leave 77 = .ok (.iload_n 3, 1) := by decide +kernel
theorem dX6_leave_78 : decode cX6_leave 78 = .ok (.invokevirtual 227, 3) := by decide +kernel
theorem dX6_leave_81 : decode cX6_leave 81 = .ok (.if_icmp .le 27, 3) := by decide +kernel
theorem dX6_leave_84 : decode cX6_leave 84 = .ok (.aload_n 0, 1) := by decide +kernel
theorem dX6_leave_85 : decode cX6_leave 85 = .ok (.iload_n 3, 1) := by decide +kernel
theorem dX6_leave_86 : decode cX6_leave 86 = .ok (.iload 4, 2) := by decide +kernel
theorem dX6_leave_88 : decode cX6_leave 88 = .ok (.invokevirtual 215, 3) := by decide +kernel
theorem dX6_leave_91 : decode cX6_leave 91 = .ok (.aload_n 0, 1) := by decide +kernel
theorem dX6_leave_92 : decode cX6_leave 92 = .ok (.iload 4, 2) := by decide +kernel
theorem dX6_leave_94 : decode cX6_leave 94 = .ok (.invokevirtual 227, 3) := by decide +kernel
theorem dX6_leave_97 : decode cX6_leave 97 = .ok (.if_icmp .le 11, 3) := by decide +kernel
theorem dX6_leave_100 : decode cX6_leave 100 = .ok (.bipush 10, 2) := by decide +kernel
theorem dX6_leave_102 : decode cX6_leave 102 = .ok (.iload_n 3, 1) := by decide +kernel
theorem dX6_leave_103 : decode cX6_leave 103 = .ok (.imul, 1) := by decide +kernel
theorem dX6_leave_104 : decode cX6_leave 104 = .ok (.iload 4, 2) := by decide +kernel
theorem dX6_leave_106 : decode cX6_leave 106 = .ok (.iadd, 1) := by decide +kernel
theorem dX6_leave_107 : decode cX6_leave 107 = .ok (.ireturn, 1) := by decide +kernel
theorem dX6_leave_108 : decode cX6_leave 108 = .ok (.iinc 4 1, 3) := by decide +kernel
theorem dX6_leave_111 : decode cX6_leave 111 = .ok (.goto (-74), 3) := by decide +kernel
theorem dX6_leave_114 : decode cX6_leave 114 = .ok (.iinc 3 1, 3) := by decide +kernel
theorem dX6_leave_117 : decode cX6_leave 117 = .ok (.goto (-95), 3) := by decide +kernel
theorem dX6_leave_120 : decode cX6_leave 120 = .ok (.bipush (-4), 2) := by decide +kernel
theorem dX6_leave_122 : decode cX6_leave 122 = .ok (.ireturn, 1) := by decide +kernel
theorem dX6_hears_0 : decode cX6_hears 0 = .ok (.aload_n 0, 1) := by decide +kernel
theorem dX6_hears_1 : decode cX6_hears 1 = .ok (.iload_n 1, 1) := by decide +kernel
theorem dX6_hears_2 : decode cX6_hears 2 = .ok (.invokevirtual 137, 3) := by decide +kernel
theorem dX6_hears_5 : decode cX6_hears 5 = .ok (.ifCond .eq 11, 3) := by decide +kernel
theorem dX6_hears_8 : decode cX6_hears 8 = .ok (.aload_n 0, 1) := by decide +kernel
theorem dX6_hears_9 : decode cX6_hears 9 = .ok (.iload_n 2, 1) := by decide +kernel
theorem dX6_hears_10 : decode cX6_hears 10 = .ok (.invokevirtual 128, 3) := by decide +kernel
theorem dX6_hears_13 : decode cX6_hears 13 = .ok (.ifCond .ne 5, 3) := by decide +kernel
theorem dX6_hears_16 : decode cX6_hears 16 = .ok (.iconst (-1), 1) := by decide +kernel
theorem dX6_hears_17 : decode cX6_hears 17 = .ok (.ireturn, 1) := by decide +kernel
theorem dX6_hears_18 : decode cX6_hears 18 = .ok (.aload_n 0, 1) := by decide +kernel
theorem dX6_hears_19 : decode cX6_hears 19 = .ok (.getfield 16, 3) := by decide +kernel
theorem dX6_hears_22 : decode cX6_hears 22 = .ok (.iconst 0, 1) := by decide +kernel
theorem dX6_hears_23 : decode cX6_hears 23 = .ok (.iload_n 1, 1) := by decide +kernel
theorem dX6_hears_24 : decode cX6_hears 24 = .ok (.iadd, 1) := by decide +kernel
theorem dX6_hears_25 : decode cX6_hears 25 = .ok (.iaload, 1) := by decide +kernel
theorem dX6_hears_26 : decode cX6_hears 26 = .ok (.istore_n 3, 1) := by decide +kernel
theorem dX6_hears_27 : decode cX6_hears 27 = .ok (.iconst 0, 1) := by decide +kernel
theorem dX6_hears_28 : decode cX6_hears 28 = .ok (.istore 4, 2) := by decide +kernel
theorem dX6_hears_30 : decode cX6_hears 30 = .ok (.iload 4, 2) := by decide +kernel
theorem dX6_hears_32 : decode cX6_hears 32 = .ok (.bipush 7, 2) := by decide +kernel
theorem dX6_hears_34 : decode cX6_hears 34 = .ok (.if_icmp .ge 123, 3) := by decide +kernel
theorem dX6_hears_37 : decode cX6_hears 37 = .ok (.iload_n 3, 1) := by decide +kernel
theorem dX6_hears_38 : decode cX6_hears 38 = .ok (.iload_n 2, 1) := by decide +kernel
theorem dX6_hears_39 : decode cX6_hears 39 = .ok (.invokestatic 105, 3) := by decide +kernel
theorem dX6_hears_42 : decode cX6_hears 42 = .ok (.ifCond .eq 6, 3) := by decide +kernel
theorem dX6_hears_45 : decode cX6_hears 45 = .ok (.iload 4, 2) := by decide +kernel
theorem dX6_hears_47 : decode cX6_hears 47 = .ok (.ireturn, 1) := by decide +kernel
theorem dX6_hears_48 : decode cX6_hears 48 = .ok (.iload_n 3, 1) := by decide +kernel
theorem dX6_hears_49 : decode cX6_hears 49 = .ok (.istore 5, 2) := by decide +kernel
theorem dX6_hears_51 : decode cX6_hears 51 = .ok (.iconst 0, 1) := by decide +kernel
theorem dX6_hears_52 : decode cX6_hears 52 = .ok (.istore 6, 2) := by decide +kernel
theorem dX6_hears_54 : decode cX6_hears 54 = .ok (.iload 6, 2) := by decide +kernel
theorem dX6_hears_56 : decode cX6_hears 56 = .ok (.aload_n 0, 1) := by decide +kernel
theorem dX6_hears_57 : decode cX6_hears 57 = .ok (.getfield 7, 3) := by decide +kernel
theorem dX6_hears_60 : decode cX6_hears 60 = .ok (.iconst 0, 1) := by decide +kernel
theorem dX6_hears_61 : decode cX6_hears 61 = .ok (.iaload, 1) := by decide +kernel
theorem dX6_hears_62 : decode cX6_hears 62 = .ok (.if_icmp .ge 89, 3) := by decide +kernel
theorem dX6_hears_65 : decode cX6_hears 65 = .ok (.iload 5, 2) := by decide +kernel
theorem dX6_hears_67 : decode cX6_hears 67 = .ok (.iload 6, 2) := by decide +kernel
theorem dX6_hears_69 : decode cX6_hears 69 = .ok (.invokestatic 105, 3) := by decide +kernel
theorem dX6_hears_72 : decode cX6_hears 72 = .ok (.ifCond .eq 34, 3) := by decide +kernel
theorem dX6_hears_75 : decode cX6_hears 75 = .ok (.aload_n 0, 1) := by decide +kernel
theorem dX6_hears_76 : decode cX6_hears 76 = .ok (.getfield 7, 3) := by decide +kernel
theorem dX6_hears_79 : decode cX6_hears 79 = .ok (.iconst 2, 1) := by decide +kernel
theorem dX6_hears_80 : decode cX6_hears 80 = .ok (.iload 6, 2) := by decide +kernel
theorem dX6_hears_82 : decode cX6_hears 82 = .ok (.iadd, 1) := by decide +kernel
theorem dX6_hears_83 : decode cX6_hears 83 = .ok (.iaload, 1) := by decide +kernel
theorem dX6_hears_84 : decode cX6_hears 84 = .ok (.iconst 1, 1) := by decide +kernel
theorem dX6_hears_85 : decode cX6_hears 85 = .ok (.if_icmp .eq 21, 3) := by decide +kernel
theorem dX6_hears_88 : decode cX6_hears 88 = .ok (.aload_n 0, 1) := by decide +kernel
theorem dX6_hears_89 : decode cX6_hears 89 = .ok (.getfield 16, 3) := by decide +kernel
theorem dX6_hears_92 : decode cX6_hears 92 = .ok (.bipush 9, 2) := by decide +kernel
theorem dX6_hears_94 : decode cX6_hears 94 = .ok (.iaload, 1) := by decide +kernel
theorem dX6_hears_95 : decode cX6_hears 95 = .ok (.iload_n 1, 1) := by decide +kernel
theorem dX6_hears_96 : decode cX6_hears 96 = .ok (.invokestatic 105, 3) := by decide +kernel
theorem dX6_hears_99 : decode cX6_hears 99 = .ok (.ifCond .ne 7, 3) := by decide +kernel
theorem dX6_hears_102 : decode cX6_hears 102 = .ok (.iconst 1, 1) := by decide +kernel
theorem dX6_hears_103 : decode cX6_hears 103 = .ok (.goto 4, 3) := by decide +kernel
theorem dX6_hears_106 : decode cX6_hears 106 = .ok (.iconst 0, 1) := by decide +kernel
theorem dX6_hears_107 : decode cX6_hears 107 = .ok (.istore 7, 2) := by decide +kernel
theorem dX6_hears_109 : decode cX6_hears 109 = .ok (.iload_n 3, 1) := by decide +kernel
theorem dX6_hears_110 : decode cX6_hears 110 = .ok (.iload 7, 2) := by decide +kernel
theorem dX6_hears_112 : decode cX6_hears 112 = .ok (.ifCond .eq 30, 3) := by decide +kernel
theorem dX6_hears_115 : decode cX6_hears 115 = .ok (.aload_n 0, 1) := by decide +kernel
theorem dX6_hears_116 : decode cX6_hears 116 = .ok (.getfield 7, 3) := by decide +kernel
theorem dX6_hears_119 : decode cX6_hears 119 = .ok (.bipush 8, 2) := by decide +kernel
theorem dX6_hears_121 : decode cX6_hears 121 = .ok (.iload 6, 2) := by decide +kernel
theorem dX6_hears_123 : decode cX6_hears 123 = .ok (.iadd, 1) := by decide +kernel
theorem dX6_hears_124 : decode cX6_hears 124 = .ok (.iaload, 1) := by decide +kernel
theorem dX6_hears_125 : decode cX6_hears 125 = .ok (.iconst 1, 1) := by decide +kernel
theorem dX6_hears_126 : decode cX6_hears 126 = .ok (.aload_n 0, 1) := by decide +kernel
theorem dX6_hears_127 : decode cX6_hears 127 = .ok (.getfield 7, 3) := by decide +kernel
theorem dX6_hears_130 : decode cX6_hears 130 = .ok (.bipush 14, 2) := by decide +kernel
theorem dX6_hears_132 : decode cX6_hears 132 = .ok (.iload_n 1, 1) := by decide +kernel
theorem dX6_hears_133 : decode cX6_hears 133 = .ok (.iadd, 1) := by decide +kernel
theorem dX6_hears_134 : decode cX6_hears 134 = .ok (.iaload, 1) := by decide +kernel
theorem dX6_hears_135 : decode cX6_hears 135 = .ok (.ishl, 1) := by decide +kernel
theorem dX6_hears_136 : decode cX6_hears 136 = .ok (.iconst (-1), 1) := by decide +kernel
theorem dX6_hears_137 : decode cX6_hears 137 = .ok (.ixor, 1) := by decide +kernel
theorem dX6_hears_138 : decode cX6_hears 138 = .ok (.iand, 1) := by decide +kernel
theorem dX6_hears_139 : decode cX6_hears 139 = .ok (.goto 4, 3) := by decide +kernel
theorem dX6_hears_142 : decode cX6_hears 142 = .ok (.iconst 0, 1) := by decide +kernel
theorem dX6_hears_143 : decode cX6_hears 143 = .ok (.ior, 1) := by decide +kernel
theorem dX6_hears_144 : decode cX6_hears 144 = .ok (.istore_n 3, 1) := by decide +kernel
theorem dX6_hears_145 : decode cX6_hears 145 = .ok (.iinc 6 1, 3) := by decide +kernel
theorem dX6_hears_148 : decode cX6_hears 148 = .ok (.goto (-94), 3) := by decide +kernel
theorem dX6_hears_151 : decode cX6_hears 151 = .ok (.iinc 4 1, 3) := by decide +kernel
theorem dX6_hears_154 : decode cX6_hears 154 = .ok (.goto (-124), 3) := by decide +kernel
theorem dX6_hears_157 : decode cX6_hears 157 = .ok (.bipush (-4), 2) := by decide +kernel
theorem dX6_hears_159 : decode cX6_hears 159 = .ok (.ireturn, 1) := by decide +kernel
theorem dX6_cost_0 : decode cX6_cost 0 = .ok (.iload_n 1, 1) := by decide +kernel
theorem dX6_cost_1 : decode cX6_cost 1 = .ok (.i2l, 1) := by decide +kernel
theorem dX6_cost_2 : decode cX6_cost 2 = .ok (.lconst 1, 1) := by decide +kernel
theorem dX6_cost_3 : decode cX6_cost 3 = .ok (.ldc2_w 181, 3) := by decide +kernel
theorem dX6_cost_6 : decode cX6_cost 6 = .ok (.invokestatic 73, 3) := by decide +kernel
theorem dX6_cost_9 : decode cX6_cost 9 = .ok (.ifCond .eq 13, 3) := by decide +kernel
theorem dX6_cost_12 : decode cX6_cost 12 = .ok (.iload_n 2, 1) := by decide +kernel
theorem dX6_cost_13 : decode cX6_cost 13 = .ok (.i2l, 1) := by decide +kernel
theorem dX6_cost_14 : decode cX6_cost 14 = .ok (.lconst 0, 1) := by decide +kernel
theorem dX6_cost_15 : decode cX6_cost 15 = .ok (.lconst 1, 1) := by decide +kernel
theorem dX6_cost_16 : decode cX6_cost 16 = .ok (.invokestatic 73, 3) := by decide +kernel
theorem dX6_cost_19 : decode cX6_cost 19 = .ok (.ifCond .ne 5, 3) := by decide +kernel
theorem dX6_cost_22 : decode cX6_cost 22 = .ok (.iconst (-1), 1) := by decide +kernel
theorem dX6_cost_23 : decode cX6_cost 23 = .ok (.ireturn, 1) := by decide +kernel
theorem dX6_cost_24 : decode cX6_cost 24 = .ok (.bipush (-4), 2) := by decide +kernel
theorem dX6_cost_26 : decode cX6_cost 26 = .ok (.istore_n 3, 1) := by decide +kernel
theorem dX6_cost_27 : decode cX6_cost 27 = .ok (.bipush (-4), 2) := by decide +kernel
theorem dX6_cost_29 : decode cX6_cost 29 = .ok (.istore 4, 2) := by decide +kernel
theorem dX6_cost_31 : decode cX6_cost 31 = .ok (.iconst 0, 1) := by decide +kernel
theorem dX6_cost_32 : decode cX6_cost 32 = .ok (.istore 5, 2) := by decide +kernel
theorem dX6_cost_34 : decode cX6_cost 34 = .ok (.iload 5, 2) := by decide +kernel
theorem dX6_cost_36 : decode cX6_cost 36 = .ok (.aload_n 0, 1) := by decide +kernel
theorem dX6_cost_37 : decode cX6_cost 37 = .ok (.getfield 7, 3) := by decide +kernel
theorem dX6_cost_40 : decode cX6_cost 40 = .ok (.iconst 1, 1) := by decide +kernel
theorem dX6_cost_41 : decode cX6_cost 41 = .ok (.iaload, 1) := by decide +kernel
theorem dX6_cost_42 : decode cX6_cost 42 = .ok (.if_icmp .ge 90, 3) := by decide +kernel
theorem dX6_cost_45 : decode cX6_cost 45 = .ok (.aload_n 0, 1) := by decide +kernel
theorem dX6_cost_46 : decode cX6_cost 46 = .ok (.getfield 16, 3) := by decide +kernel
theorem dX6_cost_49 : decode cX6_cost 49 = .ok (.bipush 9, 2) := by decide +kernel
theorem dX6_cost_51 : decode cX6_cost 51 = .ok (.iaload, 1) := by decide +kernel
theorem dX6_cost_52 : decode cX6_cost 52 = .ok (.iload 5, 2) := by decide +kernel
theorem dX6_cost_54 : decode cX6_cost 54 = .ok (.invokestatic 105, 3) := by decide +kernel
theorem dX6_cost_57 : decode cX6_cost 57 = .ok (.ifCond .ne 69, 3) := by decide +kernel
theorem dX6_cost_60 : decode cX6_cost 60 = .ok (.aload_n 0, 1) := by decide +kernel
theorem dX6_cost_61 : decode cX6_cost 61 = .ok (.iload_n 1, 1) := by decide +kernel
theorem dX6_cost_62 : decode cX6_cost 62 = .ok (.aload_n 0, 1) := by decide +kernel
theorem dX6_cost_63 : decode cX6_cost 63 = .ok (.getfield 16, 3) := by decide +kernel
theorem dX6_cost_66 : decode cX6_cost 66 = .ok (.bipush 9, 2) := by decide +kernel
theorem dX6_cost_68 : decode cX6_cost 68 = .ok (.iaload, 1) := by decide +kernel
theorem dX6_cost_69 : decode cX6_cost 69 = .ok (.iconst 1, 1) := by decide +kernel
theorem dX6_cost_70 : decode cX6_cost 70 = .ok (.iload 5, 2) := by decide +kernel
theorem dX6_cost_72 : decode cX6_cost 72 = .ok (.ishl, 1) := by decide +kernel
theorem dX6_cost_73 : decode cX6_cost 73 = .ok (.ior, 1) := by decide +kernel
theorem dX6_cost_74 : decode cX6_cost 74 = .ok (.invokevirtual 208, 3) := by decide +kernel
theorem dX6_cost_77 : decode cX6_cost 77 = .ok (.aload_n 0, 1) := by decide +kernel
theorem dX6_cost_78 : decode cX6_cost 78 = .ok (.getfield 205, 3) := by decide +kernel
theorem dX6_cost_81 : decode cX6_cost 81 = .ok (.bipush (-4), 2) := by decide +kernel
theorem dX6_cost_83 : decode cX6_cost 83 = .ok (.if_icmp .ne 7, 3) := by decide +kernel
theorem dX6_cost_86 : decode cX6_cost 86 = .ok (.iconst 0, 1) := by decide +kernel
theorem dX6_cost_87 : decode cX6_cost 87 = .ok (.goto 7, 3) := by decide +kernel
theorem dX6_cost_90 : decode cX6_cost 90 = .ok (.aload_n 0, 1) := by decide +kernel
theorem dX6_cost_91 : decode cX6_cost 91 = .ok (.getfield 205, 3) := by decide +kernel
theorem dX6_cost_94 : decode cX6_cost 94 = .ok (.istore 6, 2) := by decide +kernel
theorem dX6_cost_96 : decode cX6_cost 96 = .ok (.iload 6, 2) := by decide +kernel
theorem dX6_cost_98 : decode cX6_cost 98 = .ok (.iload 4, 2) := by decide +kernel
theorem dX6_cost_100 : decode cX6_cost 100 = .ok (.if_icmp .le 8, 3) := by decide +kernel
theorem dX6_cost_103 : decode cX6_cost 103 = .ok (.iload 5, 2) := by decide +kernel
theorem dX6_cost_105 : decode cX6_cost 105 = .ok (.goto 4, 3) := by decide +kernel
theorem dX6_cost_108 : decode cX6_cost 108 = .ok (.iload_n 3, 1) := by decide +kernel
theorem dX6_cost_109 : decode cX6_cost 109 = .ok (.istore_n 3, 1) := by decide +kernel
theorem dX6_cost_110 : decode cX6_cost 110 = .ok (.iload 6, 2) := by decide +kernel
theorem dX6_cost_112 : decode cX6_cost 112 = .ok (.iload 4, 2) := by decide +kernel
theorem dX6_cost_114 : decode cX6_cost 114 = .ok (.if_icmp .le 8, 3) := by decide +kernel
theorem dX6_cost_117 : decode cX6_cost 117 = .ok (.iload 6, 2) := by decide +kernel
theorem dX6_cost_119 : decode cX6_cost 119 = .ok (.goto 5, 3) := by decide +kernel
theorem dX6_cost_122 : decode cX6_cost 122 = .ok (.iload 4, 2) := by decide +kernel
theorem dX6_cost_124 : decode cX6_cost 124 = .ok (.istore 4, 2) := by decide +kernel
theorem dX6_cost_126 : decode cX6_cost 126 = .ok (.iinc 5 1, 3) := by decide +kernel
theorem dX6_cost_129 : decode cX6_cost 129 = .ok (.goto (-95), 3) := by decide +kernel
theorem dX6_cost_132 : decode cX6_cost 132 = .ok (.iload_n 2, 1) := by decide +kernel
theorem dX6_cost_133 : decode cX6_cost 133 = .ok (.ifCond .ne 7, 3) := by decide +kernel
theorem dX6_cost_136 : decode cX6_cost 136 = .ok (.iload_n 3, 1) := by decide +kernel
theorem dX6_cost_137 : decode cX6_cost 137 = .ok (.goto 5, 3) := by decide +kernel
theorem dX6_cost_140 : decode cX6_cost 140 = .ok (.iload 4, 2) := by decide +kernel
theorem dX6_cost_142 : decode cX6_cost 142 = .ok (.ireturn, 1) := by decide +kernel
theorem dX6_said_0 : decode cX6_said 0 = .ok (.aload_n 0, 1) := by decide +kernel
theorem dX6_said_1 : decode cX6_said 1 = .ok (.iload_n 1, 1) := by decide +kernel
theorem dX6_said_2 : decode cX6_said 2 = .ok (.iload_n 2, 1) := by decide +kernel
theorem dX6_said_3 : decode cX6_said 3 = .ok (.invokevirtual 165, 3) := by decide +kernel
theorem dX6_said_6 : decode cX6_said 6 = .ok (.ifCond .eq 26, 3) := by decide +kernel
theorem dX6_said_9 : decode cX6_said 9 = .ok (.iload_n 3, 1) := by decide +kernel
theorem dX6_said_10 : decode cX6_said 10 = .ok (.i2l, 1) := by decide +kernel
theorem dX6_said_11 : decode cX6_said 11 = .ok (.lconst 0, 1) := by decide +kernel
theorem dX6_said_12 : decode cX6_said 12 = .ok (.ldc2_w 230, 3) := by decide +kernel
theorem dX6_said_15 : decode cX6_said 15 = .ok (.invokestatic 73, 3) := by decide +kernel
theorem dX6_said_18 : decode cX6_said 18 = .ok (.ifCond .eq 14, 3) := by decide +kernel
theorem dX6_said_21 : decode cX6_said 21 = .ok (.iload 4, 2) := by decide +kernel
theorem dX6_said_23 : decode cX6_said 23 = .ok (.i2l, 1) := by decide +kernel
theorem dX6_said_24 : decode cX6_said 24 = .ok (.lconst 0, 1) := by decide +kernel
theorem dX6_said_25 : decode cX6_said 25 = .ok (.lconst 1, 1) := by decide +kernel
theorem dX6_said_26 : decode cX6_said 26 = .ok (.invokestatic 73, 3) := by decide +kernel
theorem dX6_said_29 : decode cX6_said 29 = .ok (.ifCond .ne 5, 3) := by decide +kernel
theorem dX6_said_32 : decode cX6_said 32 = .ok (.iconst (-1), 1) := by decide +kernel
theorem dX6_said_33 : decode cX6_said 33 = .ok (.ireturn, 1) := by decide +kernel
theorem dX6_said_34 : decode cX6_said 34 = .ok (.aload_n 0, 1) := by decide +kernel
theorem dX6_said_35 : decode cX6_said 35 = .ok (.aload_n 0, 1) := by decide +kernel
theorem dX6_said_36 : decode cX6_said 36 = .ok (.getfield 16, 3) := by decide +kernel
theorem dX6_said_39 : decode cX6_said 39 = .ok (.iload_n 1, 1) := by decide +kernel
theorem dX6_said_40 : decode cX6_said 40 = .ok (.iload_n 2, 1) := by decide +kernel
theorem dX6_said_41 : decode cX6_said 41 = .ok (.iconst 0, 1) := by decide +kernel
theorem dX6_said_42 : decode cX6_said 42 = .ok (.invokevirtual 150, 3) := by decide +kernel
theorem dX6_said_45 : decode cX6_said 45 = .ok (.istore 5, 2) := by decide +kernel
theorem dX6_said_47 : decode cX6_said 47 = .ok (.iconst 0, 1) := by decide +kernel
theorem dX6_said_48 : decode cX6_said 48 = .ok (.istore 6, 2) := by decide +kernel
theorem dX6_said_50 : decode cX6_said 50 = .ok (.bipush (-4), 2) := by decide +kernel
theorem dX6_said_52 : decode cX6_said 52 = .ok (.istore 7, 2) := by decide +kernel
theorem dX6_said_54 : decode cX6_said 54 = .ok (.iconst 0, 1) := by decide +kernel
theorem dX6_said_55 : decode cX6_said 55 = .ok (.istore 8, 2) := by decide +kernel
theorem dX6_said_57 : decode cX6_said 57 = .ok (.iload 8, 2) := by decide +kernel
theorem dX6_said_59 : decode cX6_said 59 = .ok (.iconst 1, 1) := by decide +kernel
theorem dX6_said_60 : decode cX6_said 60 = .ok (.aload_n 0, 1) := by decide +kernel
theorem dX6_said_61 : decode cX6_said 61 = .ok (.getfield 7, 3) := by decide +kernel
theorem dX6_said_64 : decode cX6_said 64 = .ok (.iconst 1, 1) := by decide +kernel
theorem dX6_said_65 : decode cX6_said 65 = .ok (.iaload, 1) := by decide +kernel
theorem dX6_said_66 : decode cX6_said 66 = .ok (.ishl, 1) := by decide +kernel
theorem dX6_said_67 : decode cX6_said 67 = .ok (.if_icmp .ge 109, 3) := by decide +kernel
theorem dX6_said_70 : decode cX6_said 70 = .ok (.iload 8, 2) := by decide +kernel
theorem dX6_said_72 : decode cX6_said 72 = .ok (.iload 5, 2) := by decide +kernel
theorem dX6_said_74 : decode cX6_said 74 = .ok (.iconst (-1), 1) := by decide +kernel
theorem dX6_said_75 : decode cX6_said 75 = .ok (.ixor, 1) := by decide +kernel
theorem dX6_said_76 : decode cX6_said 76 = .ok (.iand, 1) := by decide +kernel
theorem dX6_said_77 : decode cX6_said 77 = .ok (.ifCond .ne 93, 3) := by decide +kernel
theorem dX6_said_80 : decode cX6_said 80 = .ok (.iconst 0, 1) := by decide +kernel
theorem dX6_said_81 : decode cX6_said 81 = .ok (.istore 9, 2) := by decide +kernel
theorem dX6_said_83 : decode cX6_said 83 = .ok (.iconst 0, 1) := by decide +kernel
theorem dX6_said_84 : decode cX6_said 84 = .ok (.istore 10, 2) := by decide +kernel
theorem dX6_said_86 : decode cX6_said 86 = .ok (.iload 10, 2) := by decide +kernel
theorem dX6_said_88 : decode cX6_said 88 = .ok (.aload_n 0, 1) := by decide +kernel
theorem dX6_said_89 : decode cX6_said 89 = .ok (.getfield 7, 3) := by decide +kernel
theorem dX6_said_92 : decode cX6_said 92 = .ok (.iconst 1, 1) := by decide +kernel
theorem dX6_said_93 : decode cX6_said 93 = .ok (.iaload, 1) := by decide +kernel
theorem dX6_said_94 : decode cX6_said 94 = .ok (.if_icmp .ge 38, 3) := by decide +kernel
theorem dX6_said_97 : decode cX6_said 97 = .ok (.iload 9, 2) := by decide +kernel
theorem dX6_said_99 : decode cX6_said 99 = .ok (.iload 8, 2) := by decide +kernel
theorem dX6_said_101 : decode cX6_said 101 = .ok (.iload 10, 2) := by decide +kernel
theorem dX6_said_103 : decode cX6_said 103 = .ok (.invokestatic 105, 3) := by decide +kernel
theorem dX6_said_106 : decode cX6_said 106 = .ok (.ifCond .eq 16, 3) := by decide +kernel
theorem dX6_said_109 : decode cX6_said 109 = .ok (.aload_n 0, 1) := by decide +kernel
theorem dX6_said_110 : decode cX6_said 110 = .ok (.getfield 7, 3) := by decide +kernel
theorem dX6_said_113 : decode cX6_said 113 = .ok (.bipush 23, 2) := by decide +kernel
theorem dX6_said_115 : decode cX6_said 115 = .ok (.iload 10, 2) := by decide +kernel
theorem dX6_said_117 : decode cX6_said 117 = .ok (.iadd, 1) := by decide +kernel
theorem dX6_said_118 : decode cX6_said 118 = .ok (.iaload, 1) := by decide +kernel
theorem dX6_said_119 : decode cX6_said 119 = .ok (.goto 4, 3) := by decide +kernel
theorem dX6_said_122 : decode cX6_said 122 = .ok (.iconst 0, 1) := by decide +kernel
theorem dX6_said_123 : decode cX6_said 123 = .ok (.iadd, 1) := by decide +kernel
theorem dX6_said_124 : decode cX6_said 124 = .ok (.istore 9, 2) := by decide +kernel
theorem dX6_said_126 : decode cX6_said 126 = .ok (.iinc 10 1, 3) := by decide +kernel
theorem dX6_said_129 : decode cX6_said 129 = .ok (.goto (-43), 3) := by decide +kernel
theorem dX6_said_132 : decode cX6_said 132 = .ok (.iload 6, 2) := by decide +kernel
theorem dX6_said_134 : decode cX6_said 134 = .ok (.iload 9, 2) := by decide +kernel
theorem dX6_said_136 : decode cX6_said 136 = .ok (.iload_n 3, 1) := by decide +kernel
theorem dX6_said_137 : decode cX6_said 137 = .ok (.if_icmp .ne 7, 3) := by decide +kernel
theorem dX6_said_140 : decode cX6_said 140 = .ok (.iconst 1, 1) := by decide +kernel
theorem dX6_said_141 : decode cX6_said 141 = .ok (.goto 4, 3) := by decide +kernel
theorem dX6_said_144 : decode cX6_said 144 = .ok (.iconst 0, 1) := by decide +kernel
theorem dX6_said_145 : decode cX6_said 145 = .ok (.iadd, 1) := by decide +kernel
theorem dX6_said_146 : decode cX6_said 146 = .ok (.istore 6, 2) := by decide +kernel
theorem dX6_said_148 : decode cX6_said 148 = .ok (.iload 9, 2) := by decide +kernel
theorem dX6_said_150 : decode cX6_said 150 = .ok (.iload_n 3, 1) := by decide +kernel
theorem dX6_said_151 : decode cX6_said 151 = .ok (.if_icmp .ne 15, 3) := by decide +kernel
theorem dX6_said_154 : decode cX6_said 154 = .ok (.iload 7, 2) := by decide +kernel
theorem dX6_said_156 : decode cX6_said 156 = .ok (.bipush (-4), 2) := by decide +kernel
theorem dX6_said_158 : decode cX6_said 158 = .ok (.if_icmp .ne 8, 3) := by decide +kernel
theorem dX6_said_161 : decode cX6_said 161 = .ok (.iload 8, 2) := by decide +kernel
theorem dX6_said_163 : decode cX6_said 163 = .ok (.goto 5, 3) := by decide +kernel
theorem dX6_said_166 : decode cX6_said 166 = .ok (.iload 7, 2) := by decide +kernel
theorem dX6_said_168 : decode cX6_said 168 = .ok (.istore 7, 2) := by decide +kernel
theorem dX6_said_170 : decode cX6_said 170 = .ok (.iinc 8 1, 3) := by decide +kernel
theorem dX6_said_173 : decode cX6_said 173 = .ok (.goto (-116), 3) := by decide +kernel
theorem dX6_said_176 : decode cX6_said 176 = .ok (.iload 4, 2) := by decide +kernel
theorem dX6_said_178 : decode cX6_said 178 = .ok (.ifCond .ne 8, 3) := by decide +kernel
theorem dX6_said_181 : decode cX6_said 181 = .ok (.iload 6, 2) := by decide +kernel
theorem dX6_said_183 : decode cX6_said 183 = .ok (.goto 5, 3) := by decide +kernel
theorem dX6_said_186 : decode cX6_said 186 = .ok (.iload 7, 2) := by decide +kernel
theorem dX6_said_188 : decode cX6_said 188 = .ok (.ireturn, 1) := by decide +kernel
theorem dX6_who_0 : decode cX6_who 0 = .ok (.iload_n 1, 1) := by decide +kernel
theorem dX6_who_1 : decode cX6_who 1 = .ok (.i2l, 1) := by decide +kernel
theorem dX6_who_2 : decode cX6_who 2 = .ok (.lconst 1, 1) := by decide +kernel
theorem dX6_who_3 : decode cX6_who 3 = .ok (.ldc2_w 181, 3) := by decide +kernel
theorem dX6_who_6 : decode cX6_who 6 = .ok (.invokestatic 73, 3) := by decide +kernel
theorem dX6_who_9 : decode cX6_who 9 = .ok (.ifCond .eq 25, 3) := by decide +kernel
theorem dX6_who_12 : decode cX6_who 12 = .ok (.iload_n 2, 1) := by decide +kernel
theorem dX6_who_13 : decode cX6_who 13 = .ok (.i2l, 1) := by decide +kernel
theorem dX6_who_14 : decode cX6_who 14 = .ok (.lconst 0, 1) := by decide +kernel
theorem dX6_who_15 : decode cX6_who 15 = .ok (.ldc2_w 190, 3) := by decide +kernel
theorem dX6_who_18 : decode cX6_who 18 = .ok (.invokestatic 73, 3) := by decide +kernel
theorem dX6_who_21 : decode cX6_who 21 = .ok (.ifCond .eq 13, 3) := by decide +kernel
theorem dX6_who_24 : decode cX6_who 24 = .ok (.iload_n 3, 1) := by decide +kernel
theorem dX6_who_25 : decode cX6_who 25 = .ok (.i2l, 1) := by decide +kernel
theorem dX6_who_26 : decode cX6_who 26 = .ok (.lconst 0, 1) := by decide +kernel
theorem dX6_who_27 : decode cX6_who 27 = .ok (.lconst 1, 1) := by decide +kernel
theorem dX6_who_28 : decode cX6_who 28 = .ok (.invokestatic 73, 3) := by decide +kernel
theorem dX6_who_31 : decode cX6_who 31 = .ok (.ifCond .ne 5, 3) := by decide +kernel
theorem dX6_who_34 : decode cX6_who 34 = .ok (.iconst (-1), 1) := by decide +kernel
theorem dX6_who_35 : decode cX6_who 35 = .ok (.ireturn, 1) := by decide +kernel
theorem dX6_who_36 : decode cX6_who 36 = .ok (.iconst 0, 1) := by decide +kernel
theorem dX6_who_37 : decode cX6_who 37 = .ok (.istore 4, 2) := by decide +kernel
theorem dX6_who_39 : decode cX6_who 39 = .ok (.bipush (-4), 2) := by decide +kernel
theorem dX6_who_41 : decode cX6_who 41 = .ok (.istore 5, 2) := by decide +kernel
theorem dX6_who_43 : decode cX6_who 43 = .ok (.iconst 0, 1) := by decide +kernel
theorem dX6_who_44 : decode cX6_who 44 = .ok (.istore 6, 2) := by decide +kernel
theorem dX6_who_46 : decode cX6_who 46 = .ok (.iload 6, 2) := by decide +kernel
theorem dX6_who_48 : decode cX6_who 48 = .ok (.aload_n 0, 1) := by decide +kernel
theorem dX6_who_49 : decode cX6_who 49 = .ok (.getfield 7, 3) := by decide +kernel
theorem dX6_who_52 : decode cX6_who 52 = .ok (.iconst 0, 1) := by decide +kernel
theorem dX6_who_53 : decode cX6_who 53 = .ok (.iaload, 1) := by decide +kernel
theorem dX6_who_54 : decode cX6_who 54 = .ok (.if_icmp .ge 92, 3) := by decide +kernel
theorem dX6_who_57 : decode cX6_who 57 = .ok (.iconst 0, 1) := by decide +kernel
theorem dX6_who_58 : decode cX6_who 58 = .ok (.istore 7, 2) := by decide +kernel
theorem dX6_who_60 : decode cX6_who 60 = .ok (.iload 7, 2) := by decide +kernel
theorem dX6_who_62 : decode cX6_who 62 = .ok (.aload_n 0, 1) := by decide +kernel
theorem dX6_who_63 : decode cX6_who 63 = .ok (.getfield 7, 3) := by decide +kernel
theorem dX6_who_66 : decode cX6_who 66 = .ok (.iconst 0, 1) := by decide +kernel
theorem dX6_who_67 : decode cX6_who 67 = .ok (.iaload, 1) := by decide +kernel
theorem dX6_who_68 : decode cX6_who 68 = .ok (.if_icmp .ge 72, 3) := by decide +kernel
theorem dX6_who_71 : decode cX6_who 71 = .ok (.iload 6, 2) := by decide +kernel
theorem dX6_who_73 : decode cX6_who 73 = .ok (.iload 7, 2) := by decide +kernel
theorem dX6_who_75 : decode cX6_who 75 = .ok (.if_icmp .eq 59, 3) := by decide +kernel
theorem dX6_who_78 : decode cX6_who 78 = .ok (.aload_n 0, 1) := by decide +kernel
theorem dX6_who_79 : decode cX6_who 79 = .ok (.iload 6, 2) := by decide +kernel
theorem dX6_who_81 : decode cX6_who 81 = .ok (.iload 7, 2) := by decide +kernel
theorem dX6_who_83 : decode cX6_who 83 = .ok (.invokevirtual 168, 3) := by decide +kernel
theorem dX6_who_86 : decode cX6_who 86 = .ok (.ifCond .eq 48, 3) := by decide +kernel
theorem dX6_who_89 : decode cX6_who 89 = .ok (.aload_n 0, 1) := by decide +kernel
theorem dX6_who_90 : decode cX6_who 90 = .ok (.iload 6, 2) := by decide +kernel
theorem dX6_who_92 : decode cX6_who 92 = .ok (.iload 7, 2) := by decide +kernel
theorem dX6_who_94 : decode cX6_who 94 = .ok (.iload_n 1, 1) := by decide +kernel
theorem dX6_who_95 : decode cX6_who 95 = .ok (.aload_n 0, 1) := by decide +kernel
theorem dX6_who_96 : decode cX6_who 96 = .ok (.getfield 16, 3) := by decide +kernel
theorem dX6_who_99 : decode cX6_who 99 = .ok (.bipush 9, 2) := by decide +kernel
theorem dX6_who_101 : decode cX6_who 101 = .ok (.iaload, 1) := by decide +kernel
theorem dX6_who_102 : decode cX6_who 102 = .ok (.invokevirtual 198, 3) := by decide +kernel
theorem dX6_who_105 : decode cX6_who 105 = .ok (.iload_n 2, 1) := by decide +kernel
theorem dX6_who_106 : decode cX6_who 106 = .ok (.if_icmp .ne 28, 3) := by decide +kernel
theorem dX6_who_109 : decode cX6_who 109 = .ok (.iinc 4 1, 3) := by decide +kernel
theorem dX6_who_112 : decode cX6_who 112 = .ok (.iload 5, 2) := by decide +kernel
theorem dX6_who_114 : decode cX6_who 114 = .ok (.bipush (-4), 2) := by decide +kernel
theorem dX6_who_116 : decode cX6_who 116 = .ok (.if_icmp .ne 14, 3) := by decide +kernel
theorem dX6_who_119 : decode cX6_who 119 = .ok (.bipush 10, 2) := by decide +kernel
theorem dX6_who_121 : decode cX6_who 121 = .ok (.iload 6, 2) := by decide +kernel
theorem dX6_who_123 : decode cX6_who 123 = .ok (.imul, 1) := by decide +kernel
theorem dX6_who_124 : decode cX6_who 124 = .ok (.iload 7, 2) := by decide +kernel
theorem dX6_who_126 : decode cX6_who 126 = .ok (.iadd, 1) := by decide +kernel
theorem dX6_who_127 : decode cX6_who 127 = .ok (.goto 5, 3) := by decide +kernel
theorem dX6_who_130 : decode cX6_who 130 = .ok (.iload 5, 2) := by decide +kernel
theorem dX6_who_132 : decode cX6_who 132 = .ok (.istore 5, 2) := by decide +kernel
theorem dX6_who_134 : decode cX6_who 134 = .ok (.iinc 7 1, 3) := by decide +kernel
theorem dX6_who_137 : decode cX6_who 137 = .ok (.goto (-77), 3) := by decide +kernel
theorem dX6_who_140 : decode cX6_who 140 = .ok (.iinc 6 1, 3) := by decide +kernel
theorem dX6_who_143 : decode cX6_who 143 = .ok (.goto (-97), 3) := by decide +kernel
theorem dX6_who_146 : decode cX6_who 146 = .ok (.iload_n 3, 1) := by decide +kernel
theorem dX6_who_147 : decode cX6_who 147 = .ok (.ifCond .ne 8, 3) := by decide +kernel
theorem dX6_who_150 : decode cX6_who 150 = .ok (.iload 4, 2) := by decide +kernel
theorem dX6_who_152 : decode cX6_who 152 = .ok (.goto 5, 3) := by decide +kernel
theorem dX6_who_155 : decode cX6_who 155 = .ok (.iload 5, 2) := by decide +kernel
theorem dX6_who_157 : decode cX6_who 157 = .ok (.ireturn, 1) := by decide +kernel
theorem dX6_held_0 : decode cX6_held 0 = .ok (.aload_n 0, 1) := by decide +kernel
theorem dX6_held_1 : decode cX6_held 1 = .ok (.iload_n 1, 1) := by decide +kernel
theorem dX6_held_2 : decode cX6_held 2 = .ok (.iload_n 2, 1) := by decide +kernel
theorem dX6_held_3 : decode cX6_held 3 = .ok (.invokevirtual 165, 3) := by decide +kernel
theorem dX6_held_6 : decode cX6_held 6 = .ok (.ifCond .eq 52, 3) := by decide +kernel
theorem dX6_held_9 : decode cX6_held 9 = .ok (.iload_n 3, 1) := by decide +kernel
theorem dX6_held_10 : decode cX6_held 10 = .ok (.i2l, 1) := by decide +kernel
theorem dX6_held_11 : decode cX6_held 11 = .ok (.lconst 1, 1) := by decide +kernel
theorem dX6_held_12 : decode cX6_held 12 = .ok (.ldc2_w 181, 3) := by decide +kernel
theorem dX6_held_15 : decode cX6_held 15 = .ok (.invokestatic 73, 3) := by decide +kernel
theorem dX6_held_18 : decode cX6_held 18 = .ok (.ifCond .eq 40, 3) := by decide +kernel
theorem dX6_held_21 : decode cX6_held 21 = .ok (.iload 4, 2) := by decide +kernel
theorem dX6_held_23 : decode cX6_held 23 = .ok (.i2l, 1) := by decide +kernel
theorem dX6_held_24 : decode cX6_held 24 = .ok (.lconst 0, 1) := by decide +kernel
theorem dX6_held_25 : decode cX6_held 25 = .ok (.ldc2_w 190, 3) := by decide +kernel
theorem dX6_held_28 : decode cX6_held 28 = .ok (.invokestatic 73, 3) := by decide +kernel
theorem dX6_held_31 : decode cX6_held 31 = .ok (.ifCond .eq 27, 3) := by decide +kernel
theorem dX6_held_34 : decode cX6_held 34 = .ok (.iload 5, 2) := by decide +kernel
theorem dX6_held_36 : decode cX6_held 36 = .ok (.i2l, 1) := by decide +kernel
theorem dX6_held_37 : decode cX6_held 37 = .ok (.lconst 0, 1) := by decide +kernel
theorem dX6_held_38 : decode cX6_held 38 = .ok (.ldc2_w 232, 3) := by decide +kernel
theorem dX6_held_41 : decode cX6_held 41 = .ok (.invokestatic 73, 3) := by decide +kernel
theorem dX6_held_44 : decode cX6_held 44 = .ok (.ifCond .eq 14, 3) := by decide +kernel
theorem dX6_held_47 : decode cX6_held 47 = .ok (.iload 6, 2) := by decide +kernel
theorem dX6_held_49 : decode cX6_held 49 = .ok (.i2l, 1) := by decide +kernel
theorem dX6_held_50 : decode cX6_held 50 = .ok (.lconst 0, 1) := by decide +kernel
theorem dX6_held_51 : decode cX6_held 51 = .ok (.lconst 1, 1) := by decide +kernel
theorem dX6_held_52 : decode cX6_held 52 = .ok (.invokestatic 73, 3) := by decide +kernel
theorem dX6_held_55 : decode cX6_held 55 = .ok (.ifCond .ne 5, 3) := by decide +kernel
theorem dX6_held_58 : decode cX6_held 58 = .ok (.iconst (-1), 1) := by decide +kernel
theorem dX6_held_59 : decode cX6_held 59 = .ok (.ireturn, 1) := by decide +kernel
theorem dX6_held_60 : decode cX6_held 60 = .ok (.aload_n 0, 1) := by decide +kernel
theorem dX6_held_61 : decode cX6_held 61 = .ok (.iload_n 1, 1) := by decide +kernel
theorem dX6_held_62 : decode cX6_held 62 = .ok (.iload_n 2, 1) := by decide +kernel
theorem dX6_held_63 : decode cX6_held 63 = .ok (.invokevirtual 168, 3) := by decide +kernel
theorem dX6_held_66 : decode cX6_held 66 = .ok (.ifCond .ne 6, 3) := by decide +kernel
theorem dX6_held_69 : decode cX6_held 69 = .ok (.bipush (-2), 2) := by decide +kernel
theorem dX6_held_71 : decode cX6_held 71 = .ok (.ireturn, 1) := by decide +kernel
theorem dX6_held_72 : decode cX6_held 72 = .ok (.lconst 0, 1) := by decide +kernel
theorem dX6_held_73 : decode cX6_held 73 = .ok (.lstore 7, 2) := by decide +kernel
theorem dX6_held_75 : decode cX6_held 75 = .ok (.lconst 1, 1) := by decide +kernel
theorem dX6_held_76 : decode cX6_held 76 = .ok (.lstore 9, 2) := by decide +kernel
theorem dX6_held_78 : decode cX6_held 78 = .ok (.iconst 0, 1) := by decide +kernel
theorem dX6_held_79 : decode cX6_held 79 = .ok (.istore 11, 2) := by decide +kernel
theorem dX6_held_81 : decode cX6_held 81 = .ok (.iload 11, 2) := by decide +kernel
theorem dX6_held_83 : decode cX6_held 83 = .ok (.aload_n 0, 1) := by decide +kernel
theorem dX6_held_84 : decode cX6_held 84 = .ok (.getfield 7, 3) := by decide +kernel
theorem dX6_held_87 : decode cX6_held 87 = .ok (.iconst 1, 1) := by decide +kernel
theorem dX6_held_88 : decode cX6_held 88 = .ok (.iaload, 1) := by decide +kernel
theorem dX6_held_89 : decode cX6_held 89 = .ok (.if_icmp .ge 36, 3) := by decide +kernel
theorem dX6_held_92 : decode cX6_held 92 = .ok (.lload 9, 2) := by decide +kernel
theorem dX6_held_94 : decode cX6_held 94 = .ok (.aload_n 0, 1) := by decide +kernel
theorem dX6_held_95 : decode cX6_held 95 = .ok (.getfield 16, 3) := by decide +kernel
theorem dX6_held_98 : decode cX6_held 98 = .ok (.bipush 9, 2) := by decide +kernel
theorem dX6_held_100 : decode cX6_held 100 = .ok (.iaload, 1) := by decide +kernel
theorem dX6_held_101 : decode cX6_held 101 = .ok (.iload 11, 2) := by decide +kernel
theorem dX6_held_103 : decode cX6_held 103 = .ok (.invokestatic 105, 3) := by decide +kernel
theorem dX6_held_106 : decode cX6_held 106 = .ok (.ifCond .eq 7, 3) := by decide +kernel
theorem dX6_held_109 : decode cX6_held 109 = .ok (.lconst 1, 1) := by decide +kernel
theorem dX6_held_110 : decode cX6_held 110 = .ok (.goto 6, 3) := by decide +kernel
theorem dX6_held_113 : decode cX6_held 113 = .ok (.ldc2_w 232, 3) := by decide +kernel
theorem dX6_held_116 : decode cX6_held 116 = .ok (.lmul, 1) := by decide +kernel
theorem dX6_held_117 : decode cX6_held 117 = .ok (.lstore 9, 2) := by decide +kernel
theorem dX6_held_119 : decode cX6_held 119 = .ok (.iinc 11 1, 3) := by decide +kernel
theorem dX6_held_122 : decode cX6_held 122 = .ok (.goto (-41), 3) := by decide +kernel
theorem dX6_held_125 : decode cX6_held 125 = .ok (.iconst 0, 1) := by decide +kernel
theorem dX6_held_126 : decode cX6_held 126 = .ok (.istore 11, 2) := by decide +kernel
theorem dX6_held_128 : decode cX6_held 128 = .ok (.iload 11, 2) := by decide +kernel
theorem dX6_held_130 : decode cX6_held 130 = .ok (.iconst 1, 1) := by decide +kernel
theorem dX6_held_131 : decode cX6_held 131 = .ok (.aload_n 0, 1) := by decide +kernel
theorem dX6_held_132 : decode cX6_held 132 = .ok (.getfield 7, 3) := by decide +kernel
theorem dX6_held_135 : decode cX6_held 135 = .ok (.iconst 1, 1) := by decide +kernel
theorem dX6_held_136 : decode cX6_held 136 = .ok (.iaload, 1) := by decide +kernel
theorem dX6_held_137 : decode cX6_held 137 = .ok (.ishl, 1) := by decide +kernel
theorem dX6_held_138 : decode cX6_held 138 = .ok (.if_icmp .ge 132, 3) := by decide +kernel
theorem dX6_held_141 : decode cX6_held 141 = .ok (.iload 11, 2) := by decide +kernel
theorem dX6_held_143 : decode cX6_held 143 = .ok (.aload_n 0, 1) := by decide +kernel
theorem dX6_held_144 : decode cX6_held 144 = .ok (.getfield 16, 3) := by decide +kernel
theorem dX6_held_147 : decode cX6_held 147 = .ok (.bipush 9, 2) := by decide +kernel
theorem dX6_held_149 : decode cX6_held 149 = .ok (.iaload, 1) := by decide +kernel
theorem dX6_held_150 : decode cX6_held 150 = .ok (.iand, 1) := by decide +kernel
theorem dX6_held_151 : decode cX6_held 151 = .ok (.ifCond .ne 113, 3) := by decide +kernel
theorem dX6_held_154 : decode cX6_held 154 = .ok (.lconst 1, 1) := by decide +kernel
theorem dX6_held_155 : decode cX6_held 155 = .ok (.lstore 12, 2) := by decide +kernel
theorem dX6_held_157 : decode cX6_held 157 = .ok (.iconst 0, 1) := by decide +kernel
theorem dX6_held_158 : decode cX6_held 158 = .ok (.istore 14, 2) := by decide +kernel
theorem dX6_held_160 : decode cX6_held 160 = .ok (.iload 14, 2) := by decide +kernel
theorem dX6_held_162 : decode cX6_held 162 = .ok (.aload_n 0, 1) := by decide +kernel
theorem dX6_held_163 : decode cX6_held 163 = .ok (.getfield 7, 3) := by decide +kernel
theorem dX6_held_166 : decode cX6_held 166 = .ok (.iconst 1, 1) := by decide +kernel
theorem dX6_held_167 : decode cX6_held 167 = .ok (.iaload, 1) := by decide +kernel
theorem dX6_held_168 : decode cX6_held 168 = .ok (.if_icmp .ge 56, 3) := by decide +kernel
theorem dX6_held_171 : decode cX6_held 171 = .ok (.lload 12, 2) := by decide +kernel
theorem dX6_held_173 : decode cX6_held 173 = .ok (.aload_n 0, 1) := by decide +kernel
theorem dX6_held_174 : decode cX6_held 174 = .ok (.getfield 16, 3) := by decide +kernel
theorem dX6_held_177 : decode cX6_held 177 = .ok (.bipush 9, 2) := by decide +kernel
theorem dX6_held_179 : decode cX6_held 179 = .ok (.iaload, 1) := by decide +kernel
theorem dX6_held_180 : decode cX6_held 180 = .ok (.iload 14, 2) := by decide +kernel
theorem dX6_held_182 : decode cX6_held 182 = .ok (.invokestatic 105, 3) := by decide +kernel
theorem dX6_held_185 : decode cX6_held 185 = .ok (.ifCond .eq 7, 3) := by decide +kernel
theorem dX6_held_188 : decode cX6_held 188 = .ok (.lconst 1, 1) := by decide +kernel
theorem dX6_held_189 : decode cX6_held 189 = .ok (.goto 26, 3) := by decide +kernel
theorem dX6_held_192 : decode cX6_held 192 = .ok (.iload 11, 2) := by decide +kernel
theorem dX6_held_194 : decode cX6_held 194 = .ok (.iload 14, 2) := by decide +kernel
theorem dX6_held_196 : decode cX6_held 196 = .ok (.invokestatic 105, 3) := by decide +kernel
theorem dX6_held_199 : decode cX6_held 199 = .ok (.ifCond .eq 9, 3) := by decide +kernel
theorem dX6_held_202 : decode cX6_held 202 = .ok (.iload 5, 2) := by decide +kernel
theorem dX6_held_204 : decode cX6_held 204 = .ok (.i2l, 1) := by decide +kernel
theorem dX6_held_205 : decode cX6_held 205 = .ok (.goto 10, 3) := by decide +kernel
theorem dX6_held_208 : decode cX6_held 208 = .ok (.ldc2_w 232, 3) := by decide +kernel
theorem dX6_held_211 : decode cX6_held 211 = .ok (.iload 5, 2) := by decide +kernel
theorem dX6_held_213 : decode cX6_held 213 = .ok (.i2l, 1) := by decide +kernel
theorem dX6_held_214 : decode cX6_held 214 = .ok (.lsub, 1) := by decide +kernel
theorem dX6_held_215 : decode cX6_held 215 = .ok (.lmul, 1) := by decide +kernel
theorem dX6_held_216 : decode cX6_held 216 = .ok (.lstore 12, 2) := by decide +kernel
theorem dX6_held_218 : decode cX6_held 218 = .ok (.iinc 14 1, 3) := by decide +kernel
theorem dX6_held_221 : decode cX6_held 221 = .ok (.goto (-61), 3) := by decide +kernel
theorem dX6_held_224 : decode cX6_held 224 = .ok (.lload 7, 2) := by decide +kernel
theorem dX6_held_226 : decode cX6_held 226 = .ok (.lload 12, 2) := by decide +kernel
theorem dX6_held_228 : decode cX6_held 228 = .ok (.lconst 0, 1) := by decide +kernel
theorem dX6_held_229 : decode cX6_held 229 = .ok (.lcmp, 1) := by decide +kernel
theorem dX6_held_230 : decode cX6_held 230 = .ok (.ifCond .le 30, 3) := by decide +kernel
theorem dX6_held_233 : decode cX6_held 233 = .ok (.aload_n 0, 1) := by decide +kernel
theorem dX6_held_234 : decode cX6_held 234 = .ok (.iload_n 1, 1) := by decide +kernel
theorem dX6_held_235 : decode cX6_held 235 = .ok (.iload_n 2, 1) := by decide +kernel
theorem dX6_held_236 : decode cX6_held 236 = .ok (.iload_n 3, 1) := by decide +kernel
theorem dX6_held_237 : decode cX6_held 237 = .ok (.aload_n 0, 1) := by decide +kernel
theorem dX6_held_238 : decode cX6_held 238 = .ok (.getfield 16, 3) := by decide +kernel
theorem dX6_held_241 : decode cX6_held 241 = .ok (.bipush 9, 2) := by decide +kernel
theorem dX6_held_243 : decode cX6_held 243 = .ok (.iaload, 1) := by decide +kernel
theorem dX6_held_244 : decode cX6_held 244 = .ok (.iload 11, 2) := by decide +kernel
theorem dX6_held_246 : decode cX6_held 246 = .ok (.ior, 1) := by decide +kernel
theorem dX6_held_247 : decode cX6_held 247 = .ok (.invokevirtual 198, 3) := by decide +kernel
theorem dX6_held_250 : decode cX6_held 250 = .ok (.iload 4, 2) := by decide +kernel
theorem dX6_held_252 : decode cX6_held 252 = .ok (.if_icmp .lt 8, 3) := by decide +kernel
theorem dX6_held_255 : decode cX6_held 255 = .ok (.lload 12, 2) := by decide +kernel
theorem dX6_held_257 : decode cX6_held 257 = .ok (.goto 4, 3) := by decide +kernel
theorem dX6_held_260 : decode cX6_held 260 = .ok (.lconst 0, 1) := by decide +kernel
theorem dX6_held_261 : decode cX6_held 261 = .ok (.ladd, 1) := by decide +kernel
theorem dX6_held_262 : decode cX6_held 262 = .ok (.lstore 7, 2) := by decide +kernel
theorem dX6_held_264 : decode cX6_held 264 = .ok (.iinc 11 1, 3) := by decide +kernel
theorem dX6_held_267 : decode cX6_held 267 = .ok (.goto (-139), 3) := by decide +kernel
theorem dX6_held_270 : decode cX6_held 270 = .ok (.lload 7, 2) := by decide +kernel
theorem dX6_held_272 : decode cX6_held 272 = .ok (.lstore 11, 2) := by decide +kernel
theorem dX6_held_274 : decode cX6_held 274 = .ok (.lload 9, 2) := by decide +kernel
theorem dX6_held_276 : decode cX6_held 276 = .ok (.lstore 13, 2) := by decide +kernel
theorem dX6_held_278 : decode cX6_held 278 = .ok (.lload 13, 2) := by decide +kernel
theorem dX6_held_280 : decode cX6_held 280 = .ok (.lconst 0, 1) := by decide +kernel
theorem dX6_held_281 : decode cX6_held 281 = .ok (.lcmp, 1) := by decide +kernel
theorem dX6_held_282 : decode cX6_held 282 = .ok (.ifCond .eq 21, 3) := by decide +kernel
theorem dX6_held_285 : decode cX6_held 285 = .ok (.lload 11, 2) := by decide +kernel
theorem dX6_held_287 : decode cX6_held 287 = .ok (.lload 13, 2) := by decide +kernel
theorem dX6_held_289 : decode cX6_held 289 = .ok (.lrem, 1) := by decide +kernel
theorem dX6_held_290 : decode cX6_held 290 = .ok (.lstore 15, 2) := by decide +kernel
theorem dX6_held_292 : decode cX6_held 292 = .ok (.lload 13, 2) := by decide +kernel
theorem dX6_held_294 : decode cX6_held 294 = .ok (.lstore 11, 2) := by decide +kernel
theorem dX6_held_296 : decode cX6_held 296 = .ok (.lload 15, 2) := by decide +kernel
theorem dX6_held_298 : decode cX6_held 298 = .ok (.lstore 13, 2) := by decide +kernel
theorem dX6_held_300 : decode cX6_held 300 = .ok (.goto (-22), 3) := by decide +kernel
theorem dX6_held_303 : decode cX6_held 303 = .ok (.iload 6, 2) := by decide +kernel
theorem dX6_held_305 : decode cX6_held 305 = .ok (.ifCond .ne 8, 3) := by decide +kernel
theorem dX6_held_308 : decode cX6_held 308 = .ok (.lload 7, 2) := by decide +kernel
theorem dX6_held_310 : decode cX6_held 310 = .ok (.goto 5, 3) := by decide +kernel
theorem dX6_held_313 : decode cX6_held 313 = .ok (.lload 9, 2) := by decide +kernel
theorem dX6_held_315 : decode cX6_held 315 = .ok (.lload 11, 2) := by decide +kernel
theorem dX6_held_317 : decode cX6_held 317 = .ok (.ldiv, 1) := by decide +kernel
theorem dX6_held_318 : decode cX6_held 318 = .ok (.l2i, 1) := by decide +kernel
theorem dX6_held_319 : decode cX6_held 319 = .ok (.ireturn, 1) := by decide +kernel
theorem dX6_draws_0 : decode cX6_draws 0 = .ok (.aload_n 0, 1) := by decide +kernel
theorem dX6_draws_1 : decode cX6_draws 1 = .ok (.getfield 7, 3) := by decide +kernel
theorem dX6_draws_4 : decode cX6_draws 4 = .ok (.iconst 0, 1) := by decide +kernel
theorem dX6_draws_5 : decode cX6_draws 5 = .ok (.iaload, 1) := by decide +kernel
theorem dX6_draws_6 : decode cX6_draws 6 = .ok (.istore_n 2, 1) := by decide +kernel
theorem dX6_draws_7 : decode cX6_draws 7 = .ok (.aload_n 0, 1) := by decide +kernel
theorem dX6_draws_8 : decode cX6_draws 8 = .ok (.getfield 19, 3) := by decide +kernel
theorem dX6_draws_11 : decode cX6_draws 11 = .ok (.bipush 10, 2) := by decide +kernel
theorem dX6_draws_13 : decode cX6_draws 13 = .ok (.iaload, 1) := by decide +kernel
theorem dX6_draws_14 : decode cX6_draws 14 = .ok (.bipush (-4), 2) := by decide +kernel
theorem dX6_draws_16 : decode cX6_draws 16 = .ok (.if_icmp .ne 48, 3) := by decide +kernel
theorem dX6_draws_19 : decode cX6_draws 19 = .ok (.iload_n 1, 1) := by decide +kernel
theorem dX6_draws_20 : decode cX6_draws 20 = .ok (.bipush 8, 2) := by decide +kernel
theorem dX6_draws_22 : decode cX6_draws 22 = .ok (.idiv, 1) := by decide +kernel
theorem dX6_draws_23 : decode cX6_draws 23 = .ok (.iload_n 2, 1) := by decide +kernel
theorem dX6_draws_24 : decode cX6_draws 24 = .ok (.irem, 1) := by decide +kernel
theorem dX6_draws_25 : decode cX6_draws 25 = .ok (.istore_n 3, 1) := by decide +kernel
theorem dX6_draws_26 : decode cX6_draws 26 = .ok (.iload_n 1, 1) := by decide +kernel
theorem dX6_draws_27 : decode cX6_draws 27 = .ok (.bipush 64, 2) := by decide +kernel
theorem dX6_draws_29 : decode cX6_draws 29 = .ok (.idiv, 1) := by decide +kernel
theorem dX6_draws_30 : decode cX6_draws 30 = .ok (.iload_n 2, 1) := by decide +kernel
theorem dX6_draws_31 : decode cX6_draws 31 = .ok (.irem, 1) := by decide +kernel
theorem dX6_draws_32 : decode cX6_draws 32 = .ok (.istore 4, 2) := by decide +kernel
theorem dX6_draws_34 : decode cX6_draws 34 = .ok (.iload_n 3, 1) := by decide +kernel
theorem dX6_draws_35 : decode cX6_draws 35 = .ok (.iload 4, 2) := by decide +kernel
theorem dX6_draws_37 : decode cX6_draws 37 = .ok (.if_icmp .eq 24, 3) := by decide +kernel
theorem dX6_draws_40 : decode cX6_draws 40 = .ok (.aload_n 0, 1) := by decide +kernel
theorem dX6_draws_41 : decode cX6_draws 41 = .ok (.iload_n 3, 1) := by decide +kernel
theorem dX6_draws_42 : decode cX6_draws 42 = .ok (.iload 4, 2) := by decide +kernel
theorem dX6_draws_44 : decode cX6_draws 44 = .ok (.invokevirtual 168, 3) := by decide +kernel
theorem dX6_draws_47 : decode cX6_draws 47 = .ok (.ifCond .eq 14, 3) := by decide +kernel
theorem dX6_draws_50 : decode cX6_draws 50 = .ok (.aload_n 0, 1) := by decide +kernel
theorem dX6_draws_51 : decode cX6_draws 51 = .ok (.aload_n 0, 1) := by decide +kernel
theorem dX6_draws_52 : decode cX6_draws 52 = .ok (.getfield 19, 3) := by decide +kernel
theorem dX6_draws_55 : decode cX6_draws 55 = .ok (.iload_n 3, 1) := by decide +kernel
theorem dX6_draws_56 : decode cX6_draws 56 = .ok (.iload 4, 2) := by decide +kernel
theorem dX6_draws_58 : decode cX6_draws 58 = .ok (.invokevirtual 174, 3) := by decide +kernel
theorem dX6_draws_61 : decode cX6_draws 61 = .ok (.goto 87, 3) := by decide +kernel
theorem dX6_draws_64 : decode cX6_draws 64 = .ok (.iload_n 1, 1) := by decide +kernel
theorem dX6_draws_65 : decode cX6_draws 65 = .ok (.bipush 8, 2) := by decide +kernel
theorem dX6_draws_67 : decode cX6_draws 67 = .ok (.irem, 1) := by decide +kernel
theorem dX6_draws_68 : decode cX6_draws 68 = .ok (.ifCond .ne 22, 3) := by decide +kernel
theorem dX6_draws_71 : decode cX6_draws 71 = .ok (.aload_n 0, 1) := by decide +kernel
theorem dX6_draws_72 : decode cX6_draws 72 = .ok (.getfield 19, 3) := by decide +kernel
theorem dX6_draws_75 : decode cX6_draws 75 = .ok (.bipush 10, 2) := by decide +kernel
theorem dX6_draws_77 : decode cX6_draws 77 = .ok (.bipush (-4), 2) := by decide +kernel
theorem dX6_draws_79 : decode cX6_draws 79 = .ok (.iastore, 1) := by decide +kernel
theorem dX6_draws_80 : decode cX6_draws 80 = .ok (.aload_n 0, 1) := by decide +kernel
theorem dX6_draws_81 : decode cX6_draws 81 = .ok (.getfield 19, 3) := by decide +kernel
theorem dX6_draws_84 : decode cX6_draws 84 = .ok (.invokestatic 161, 3) := by decide +kernel
theorem dX6_draws_87 : decode cX6_draws 87 = .ok (.goto 61, 3) := by decide +kernel
theorem dX6_draws_90 : decode cX6_draws 90 = .ok (.iload_n 1, 1) := by decide +kernel
theorem dX6_draws_91 : decode cX6_draws 91 = .ok (.bipush 8, 2) := by decide +kernel
theorem dX6_draws_93 : decode cX6_draws 93 = .ok (.irem, 1) := by decide +kernel
theorem dX6_draws_94 : decode cX6_draws 94 = .ok (.iconst 1, 1) := by decide +kernel
theorem dX6_draws_95 : decode cX6_draws 95 = .ok (.if_icmp .ne 53, 3) := by decide +kernel
theorem dX6_draws_98 : decode cX6_draws 98 = .ok (.aload_n 0, 1) := by decide +kernel
theorem dX6_draws_99 : decode cX6_draws 99 = .ok (.getfield 7, 3) := by decide +kernel
theorem dX6_draws_102 : decode cX6_draws 102 = .ok (.iconst 1, 1) := by decide +kernel
theorem dX6_draws_103 : decode cX6_draws 103 = .ok (.iaload, 1) := by decide +kernel
theorem dX6_draws_104 : decode cX6_draws 104 = .ok (.ifCond .le 44, 3) := by decide +kernel
theorem dX6_draws_107 : decode cX6_draws 107 = .ok (.iload_n 1, 1) := by decide +kernel
theorem dX6_draws_108 : decode cX6_draws 108 = .ok (.bipush 8, 2) := by decide +kernel
theorem dX6_draws_110 : decode cX6_draws 110 = .ok (.idiv, 1) := by decide +kernel
theorem dX6_draws_111 : decode cX6_draws 111 = .ok (.aload_n 0, 1) := by decide +kernel
theorem dX6_draws_112 : decode cX6_draws 112 = .ok (.getfield 7, 3) := by decide +kernel
theorem dX6_draws_115 : decode cX6_draws 115 = .ok (.iconst 1, 1) := by decide +kernel
theorem dX6_draws_116 : decode cX6_draws 116 = .ok (.iaload, 1) := by decide +kernel
theorem dX6_draws_117 : decode cX6_draws 117 = .ok (.irem, 1) := by decide +kernel
theorem dX6_draws_118 : decode cX6_draws 118 = .ok (.istore_n 3, 1) := by decide +kernel
theorem dX6_draws_119 : decode cX6_draws 119 = .ok (.aload_n 0, 1) := by decide +kernel
theorem dX6_draws_120 : decode cX6_draws 120 = .ok (.getfield 19, 3) := by decide +kernel
theorem dX6_draws_123 : decode cX6_draws 123 = .ok (.bipush 9, 2) := by decide +kernel
theorem dX6_draws_125 : decode cX6_draws 125 = .ok (.dup2, 1) := by decide +kernel
theorem dX6_draws_126 : decode cX6_draws 126 = .ok (.iaload, 1) := by decide +kernel
theorem dX6_draws_127 : decode cX6_draws 127 = .ok (.aload_n 0, 1) := by decide +kernel
theorem dX6_draws_128 : decode cX6_draws 128 = .ok (.aload_n 0, 1) := by decide +kernel
theorem dX6_draws_129 : decode cX6_draws 129 = .ok (.getfield 19, 3) := by decide +kernel
theorem dX6_draws_132 : decode cX6_draws 132 = .ok (.iload_n 3, 1) := by decide +kernel
theorem dX6_draws_133 : decode cX6_draws 133 = .ok (.invokevirtual 186, 3) := by decide +kernel
theorem dX6_draws_136 : decode cX6_draws 136 = .ok (.ifCond .eq 9, 3) := by decide +kernel
theorem dX6_draws_139 : decode cX6_draws 139 = .ok (.iconst 1, 1) := by decide +kernel
theorem dX6_draws_140 : decode cX6_draws 140 = .ok (.iload_n 3, 1) := by decide +kernel
theorem dX6_draws_141 : decode cX6_draws 141 = .ok (.ishl, 1) := by decide +kernel
theorem dX6_draws_142 : decode cX6_draws 142 = .ok (.goto 4, 3) := by decide +kernel
theorem dX6_draws_145 : decode cX6_draws 145 = .ok (.iconst 0, 1) := by decide +kernel
theorem dX6_draws_146 : decode cX6_draws 146 = .ok (.ior, 1) := by decide +kernel
theorem dX6_draws_147 : decode cX6_draws 147 = .ok (.iastore, 1) := by decide +kernel
theorem dX6_draws_148 : decode cX6_draws 148 = .ok (.return_, 1) := by decide +kernel
theorem dX6_known_0 : decode cX6_known 0 = .ok (.iconst 0, 1) := by decide +kernel
theorem dX6_known_1 : decode cX6_known 1 = .ok (.istore_n 2, 1) := by decide +kernel
theorem dX6_known_2 : decode cX6_known 2 = .ok (.iconst 0, 1) := by decide +kernel
theorem dX6_known_3 : decode cX6_known 3 = .ok (.istore_n 3, 1) := by decide +kernel
theorem dX6_known_4 : decode cX6_known 4 = .ok (.iload_n 3, 1) := by decide +kernel
theorem dX6_known_5 : decode cX6_known 5 = .ok (.aload_n 0, 1) := by decide +kernel
theorem dX6_known_6 : decode cX6_known 6 = .ok (.getfield 7, 3) := by decide +kernel
theorem dX6_known_9 : decode cX6_known 9 = .ok (.iconst 1, 1) := by decide +kernel
theorem dX6_known_10 : decode cX6_known 10 = .ok (.iaload, 1) := by decide +kernel
theorem dX6_known_11 : decode cX6_known 11 = .ok (.if_icmp .ge 20, 3) := by decide +kernel
theorem dX6_known_14 : decode cX6_known 14 = .ok (.iload_n 2, 1) := by decide +kernel
theorem dX6_known_15 : decode cX6_known 15 = .ok (.aload_n 1, 1) := by decide +kernel
theorem dX6_known_16 : decode cX6_known 16 = .ok (.iconst 0, 1) := by decide +kernel
theorem dX6_known_17 : decode cX6_known 17 = .ok (.iload_n 3, 1) := by decide +kernel
theorem dX6_known_18 : decode cX6_known 18 = .ok (.iadd, 1) := by decide +kernel
theorem dX6_known_19 : decode cX6_known 19 = .ok (.iaload, 1) := by decide +kernel
theorem dX6_known_20 : decode cX6_known 20 = .ok (.invokestatic 178, 3) := by decide +kernel
theorem dX6_known_23 : decode cX6_known 23 = .ok (.iadd, 1) := by decide +kernel
theorem dX6_known_24 : decode cX6_known 24 = .ok (.istore_n 2, 1) := by decide +kernel
theorem dX6_known_25 : decode cX6_known 25 = .ok (.iinc 3 1, 3) := by decide +kernel
theorem dX6_known_28 : decode cX6_known 28 = .ok (.goto (-24), 3) := by decide +kernel
theorem dX6_known_31 : decode cX6_known 31 = .ok (.iload_n 2, 1) := by decide +kernel
theorem dX6_known_32 : decode cX6_known 32 = .ok (.ireturn, 1) := by decide +kernel
theorem dX6_day_0 : decode cX6_day 0 = .ok (.iload_n 1, 1) := by decide +kernel
theorem dX6_day_1 : decode cX6_day 1 = .ok (.i2l, 1) := by decide +kernel
theorem dX6_day_2 : decode cX6_day 2 = .ok (.lconst 0, 1) := by decide +kernel
theorem dX6_day_3 : decode cX6_day 3 = .ok (.ldc2_w 234, 3) := by decide +kernel
theorem dX6_day_6 : decode cX6_day 6 = .ok (.invokestatic 73, 3) := by decide +kernel
theorem dX6_day_9 : decode cX6_day 9 = .ok (.ifCond .eq 25, 3) := by decide +kernel
theorem dX6_day_12 : decode cX6_day 12 = .ok (.iload_n 2, 1) := by decide +kernel
theorem dX6_day_13 : decode cX6_day 13 = .ok (.i2l, 1) := by decide +kernel
theorem dX6_day_14 : decode cX6_day 14 = .ok (.lconst 1, 1) := by decide +kernel
theorem dX6_day_15 : decode cX6_day 15 = .ok (.ldc2_w 181, 3) := by decide +kernel
theorem dX6_day_18 : decode cX6_day 18 = .ok (.invokestatic 73, 3) := by decide +kernel
theorem dX6_day_21 : decode cX6_day 21 = .ok (.ifCond .eq 13, 3) := by decide +kernel
theorem dX6_day_24 : decode cX6_day 24 = .ok (.iload_n 3, 1) := by decide +kernel
theorem dX6_day_25 : decode cX6_day 25 = .ok (.i2l, 1) := by decide +kernel
theorem dX6_day_26 : decode cX6_day 26 = .ok (.lconst 0, 1) := by decide +kernel
theorem dX6_day_27 : decode cX6_day 27 = .ok (.lconst 1, 1) := by decide +kernel
theorem dX6_day_28 : decode cX6_day 28 = .ok (.invokestatic 73, 3) := by decide +kernel
theorem dX6_day_31 : decode cX6_day 31 = .ok (.ifCond .ne 5, 3) := by decide +kernel
theorem dX6_day_34 : decode cX6_day 34 = .ok (.iconst (-1), 1) := by decide +kernel
theorem dX6_day_35 : decode cX6_day 35 = .ok (.ireturn, 1) := by decide +kernel
theorem dX6_day_36 : decode cX6_day 36 = .ok (.aload_n 0, 1) := by decide +kernel
theorem dX6_day_37 : decode cX6_day 37 = .ok (.invokevirtual 192, 3) := by decide +kernel
theorem dX6_day_40 : decode cX6_day 40 = .ok (.iconst 0, 1) := by decide +kernel
theorem dX6_day_41 : decode cX6_day 41 = .ok (.istore 4, 2) := by decide +kernel
theorem dX6_day_43 : decode cX6_day 43 = .ok (.iload 4, 2) := by decide +kernel
theorem dX6_day_45 : decode cX6_day 45 = .ok (.iload_n 2, 1) := by decide +kernel
theorem dX6_day_46 : decode cX6_day 46 = .ok (.if_icmp .ge 49, 3) := by decide +kernel
theorem dX6_day_49 : decode cX6_day 49 = .ok (.ldc2_w 236, 3) := by decide +kernel
theorem dX6_day_52 : decode cX6_day 52 = .ok (.iload_n 1, 1) := by decide +kernel
theorem dX6_day_53 : decode cX6_day 53 = .ok (.i2l, 1) := by decide +kernel
theorem dX6_day_54 : decode cX6_day 54 = .ok (.lmul, 1) := by decide +kernel
theorem dX6_day_55 : decode cX6_day 55 = .ok (.ldc2_w 238, 3) := by decide +kernel
theorem dX6_day_58 : decode cX6_day 58 = .ok (.iload 4, 2) := by decide +kernel
theorem dX6_day_60 : decode cX6_day 60 = .ok (.i2l, 1) := by decide +kernel
theorem dX6_day_61 : decode cX6_day 61 = .ok (.lmul, 1) := by decide +kernel
theorem dX6_day_62 : decode cX6_day 62 = .ok (.ladd, 1) := by decide +kernel
theorem dX6_day_63 : decode cX6_day 63 = .ok (.lconst 1, 1) := by decide +kernel
theorem dX6_day_64 : decode cX6_day 64 = .ok (.ladd, 1) := by decide +kernel
theorem dX6_day_65 : decode cX6_day 65 = .ok (.lstore 5, 2) := by decide +kernel
theorem dX6_day_67 : decode cX6_day 67 = .ok (.aload_n 0, 1) := by decide +kernel
theorem dX6_day_68 : decode cX6_day 68 = .ok (.lload 5, 2) := by decide +kernel
theorem dX6_day_70 : decode cX6_day 70 = .ok (.lload 5, 2) := by decide +kernel
theorem dX6_day_72 : decode cX6_day 72 = .ok (.lmul, 1) := by decide +kernel
theorem dX6_day_73 : decode cX6_day 73 = .ok (.ldc2_w 240, 3) := by decide +kernel
theorem dX6_day_76 : decode cX6_day 76 = .ok (.lrem, 1) := by decide +kernel
theorem dX6_day_77 : decode cX6_day 77 = .ok (.l2i, 1) := by decide +kernel
theorem dX6_day_78 : decode cX6_day 78 = .ok (.invokevirtual 242, 3) := by decide +kernel
theorem dX6_day_81 : decode cX6_day 81 = .ok (.aload_n 0, 1) := by decide +kernel
theorem dX6_day_82 : decode cX6_day 82 = .ok (.aload_n 0, 1) := by decide +kernel
theorem dX6_day_83 : decode cX6_day 83 = .ok (.getfield 19, 3) := by decide +kernel
theorem dX6_day_86 : decode cX6_day 86 = .ok (.invokevirtual 183, 3) := by decide +kernel
theorem dX6_day_89 : decode cX6_day 89 = .ok (.iinc 4 1, 3) := by decide +kernel
theorem dX6_day_92 : decode cX6_day 92 = .ok (.goto (-49), 3) := by decide +kernel
theorem dX6_day_95 : decode cX6_day 95 = .ok (.iload_n 3, 1) := by decide +kernel
theorem dX6_day_96 : decode cX6_day 96 = .ok (.ifCond .ne 13, 3) := by decide +kernel
theorem dX6_day_99 : decode cX6_day 99 = .ok (.aload_n 0, 1) := by decide +kernel
theorem dX6_day_100 : decode cX6_day 100 = .ok (.getfield 19, 3) := by decide +kernel
theorem dX6_day_103 : decode cX6_day 103 = .ok (.bipush 17, 2) := by decide +kernel
theorem dX6_day_105 : decode cX6_day 105 = .ok (.iaload, 1) := by decide +kernel
theorem dX6_day_106 : decode cX6_day 106 = .ok (.goto 11, 3) := by decide +kernel
theorem dX6_day_109 : decode cX6_day 109 = .ok (.aload_n 0, 1) := by decide +kernel
theorem dX6_day_110 : decode cX6_day 110 = .ok (.aload_n 0, 1) := by decide +kernel
theorem dX6_day_111 : decode cX6_day 111 = .ok (.getfield 19, 3) := by decide +kernel
theorem dX6_day_114 : decode cX6_day 114 = .ok (.invokevirtual 245, 3) := by decide +kernel
theorem dX6_day_117 : decode cX6_day 117 = .ok (.ireturn, 1) := by decide +kernel
theorem dX6_keep_0 : decode cX6_keep 0 = .ok (.aload_n 0, 1) := by decide +kernel
theorem dX6_keep_1 : decode cX6_keep 1 = .ok (.getfield 66, 3) := by decide +kernel
theorem dX6_keep_4 : decode cX6_keep 4 = .ok (.iconst 2, 1) := by decide +kernel
theorem dX6_keep_5 : decode cX6_keep 5 = .ok (.if_icmp .ne 6, 3) := by decide +kernel
theorem dX6_keep_8 : decode cX6_keep 8 = .ok (.bipush (-3), 2) := by decide +kernel
theorem dX6_keep_10 : decode cX6_keep 10 = .ok (.ireturn, 1) := by decide +kernel
theorem dX6_keep_11 : decode cX6_keep 11 = .ok (.aload_n 0, 1) := by decide +kernel
theorem dX6_keep_12 : decode cX6_keep 12 = .ok (.getfield 16, 3) := by decide +kernel
theorem dX6_keep_15 : decode cX6_keep 15 = .ok (.iconst 0, 1) := by decide +kernel
theorem dX6_keep_16 : decode cX6_keep 16 = .ok (.aload_n 0, 1) := by decide +kernel
theorem dX6_keep_17 : decode cX6_keep 17 = .ok (.getfield 25, 3) := by decide +kernel
theorem dX6_keep_20 : decode cX6_keep 20 = .ok (.bipush 18, 2) := by decide +kernel
theorem dX6_keep_22 : decode cX6_keep 22 = .ok (.aload_n 0, 1) := by decide +kernel
theorem dX6_keep_23 : decode cX6_keep 23 = .ok (.getfield 66, 3) := by decide +kernel
theorem dX6_keep_26 : decode cX6_keep 26 = .ok (.imul, 1) := by decide +kernel
theorem dX6_keep_27 : decode cX6_keep 27 = .ok (.bipush 18, 2) := by decide +kernel
theorem dX6_keep_29 : decode cX6_keep 29 = .ok (.invokestatic 58, 3) := by decide +kernel
theorem dX6_keep_32 : decode cX6_keep 32 = .ok (.aload_n 0, 1) := by decide +kernel
theorem dX6_keep_33 : decode cX6_keep 33 = .ok (.dup, 1) := by decide +kernel
theorem dX6_keep_34 : decode cX6_keep 34 = .ok (.getfield 66, 3) := by decide +kernel
theorem dX6_keep_37 : decode cX6_keep 37 = .ok (.iconst 1, 1) := by decide +kernel
theorem dX6_keep_38 : decode cX6_keep 38 = .ok (.iadd, 1) := by decide +kernel
theorem dX6_keep_39 : decode cX6_keep 39 = .ok (.putfield 66, 3) := by decide +kernel
theorem dX6_keep_42 : decode cX6_keep 42 = .ok (.aload_n 0, 1) := by decide +kernel
theorem dX6_keep_43 : decode cX6_keep 43 = .ok (.getfield 66, 3) := by decide +kernel
theorem dX6_keep_46 : decode cX6_keep 46 = .ok (.ireturn, 1) := by decide +kernel
theorem dX6_back_0 : decode cX6_back 0 = .ok (.aload_n 0, 1) := by decide +kernel
theorem dX6_back_1 : decode cX6_back 1 = .ok (.getfield 66, 3) := by decide +kernel
theorem dX6_back_4 : decode cX6_back 4 = .ok (.ifCond .ne 6, 3) := by decide +kernel
theorem dX6_back_7 : decode cX6_back 7 = .ok (.bipush (-2), 2) := by decide +kernel
theorem dX6_back_9 : decode cX6_back 9 = .ok (.ireturn, 1) := by decide +kernel
theorem dX6_back_10 : decode cX6_back 10 = .ok (.aload_n 0, 1) := by decide +kernel
theorem dX6_back_11 : decode cX6_back 11 = .ok (.dup, 1) := by decide +kernel
theorem dX6_back_12 : decode cX6_back 12 = .ok (.getfield 66, 3) := by decide +kernel
theorem dX6_back_15 : decode cX6_back 15 = .ok (.iconst 1, 1) := by decide +kernel
theorem dX6_back_16 : decode cX6_back 16 = .ok (.isub, 1) := by decide +kernel
theorem dX6_back_17 : decode cX6_back 17 = .ok (.putfield 66, 3) := by decide +kernel
theorem dX6_back_20 : decode cX6_back 20 = .ok (.aload_n 0, 1) := by decide +kernel
theorem dX6_back_21 : decode cX6_back 21 = .ok (.getfield 25, 3) := by decide +kernel
theorem dX6_back_24 : decode cX6_back 24 = .ok (.bipush 18, 2) := by decide +kernel
theorem dX6_back_26 : decode cX6_back 26 = .ok (.aload_n 0, 1) := by decide +kernel
theorem dX6_back_27 : decode cX6_back 27 = .ok (.getfield 66, 3) := by decide +kernel
theorem dX6_back_30 : decode cX6_back 30 = .ok (.imul, 1) := by decide +kernel
theorem dX6_back_31 : decode cX6_back 31 = .ok (.aload_n 0, 1) := by decide +kernel
theorem dX6_back_32 : decode cX6_back 32 = .ok (.getfield 16, 3) := by decide +kernel
theorem dX6_back_35 : decode cX6_back 35 = .ok (.iconst 0, 1) := by decide +kernel
theorem dX6_back_36 : decode cX6_back 36 = .ok (.bipush 18, 2) := by decide +kernel
theorem dX6_back_38 : decode cX6_back 38 = .ok (.invokestatic 58, 3) := by decide +kernel
theorem dX6_back_41 : decode cX6_back 41 = .ok (.aload_n 0, 1) := by decide +kernel
theorem dX6_back_42 : decode cX6_back 42 = .ok (.iconst 0, 1) := by decide +kernel
theorem dX6_back_43 : decode cX6_back 43 = .ok (.putfield 62, 3) := by decide +kernel
theorem dX6_back_46 : decode cX6_back 46 = .ok (.aload_n 0, 1) := by decide +kernel
theorem dX6_back_47 : decode cX6_back 47 = .ok (.getfield 66, 3) := by decide +kernel
theorem dX6_back_50 : decode cX6_back 50 = .ok (.ireturn, 1) := by decide +kernel
theorem dX6_count_0 : decode cX6_count 0 = .ok (.iload_n 1, 1) := by decide +kernel
theorem dX6_count_1 : decode cX6_count 1 = .ok (.tableswitch 159 0 9 #[55, 62, 69, 108, 116, 124, 135, 144, 149, 154], 55) := by decide +kernel
theorem dX6_count_56 : decode cX6_count 56 = .ok (.aload_n 0, 1) := by decide +kernel
theorem dX6_count_57 : decode cX6_count 57 = .ok (.getfield 7, 3) := by decide +kernel
theorem dX6_count_60 : decode cX6_count 60 = .ok (.iconst 0, 1) := by decide +kernel
theorem dX6_count_61 : decode cX6_count 61 = .ok (.iaload, 1) := by decide +kernel
theorem dX6_count_62 : decode cX6_count 62 = .ok (.ireturn, 1) := by decide +kernel
theorem dX6_count_63 : decode cX6_count 63 = .ok (.aload_n 0, 1) := by decide +kernel
theorem dX6_count_64 : decode cX6_count 64 = .ok (.getfield 7, 3) := by decide +kernel
theorem dX6_count_67 : decode cX6_count 67 = .ok (.iconst 1, 1) := by decide +kernel
theorem dX6_count_68 : decode cX6_count 68 = .ok (.iaload, 1) := by decide +kernel
theorem dX6_count_69 : decode cX6_count 69 = .ok (.ireturn, 1) := by decide +kernel
theorem dX6_count_70 : decode cX6_count 70 = .ok (.iconst 0, 1) := by decide +kernel
theorem dX6_count_71 : decode cX6_count 71 = .ok (.istore_n 2, 1) := by decide +kernel
theorem dX6_count_72 : decode cX6_count 72 = .ok (.iconst 0, 1) := by decide +kernel
theorem dX6_count_73 : decode cX6_count 73 = .ok (.istore_n 3, 1) := by decide +kernel
theorem dX6_count_74 : decode cX6_count 74 = .ok (.iload_n 3, 1) := by decide +kernel
theorem dX6_count_75 : decode cX6_count 75 = .ok (.aload_n 0, 1) := by decide +kernel
theorem dX6_count_76 : decode cX6_count 76 = .ok (.getfield 7, 3) := by decide +kernel
theorem dX6_count_79 : decode cX6_count 79 = .ok (.iconst 0, 1) := by decide +kernel
theorem dX6_count_80 : decode cX6_count 80 = .ok (.iaload, 1) := by decide +kernel
theorem dX6_count_81 : decode cX6_count 81 = .ok (.if_icmp .ge 24, 3) := by decide +kernel
theorem dX6_count_84 : decode cX6_count 84 = .ok (.iload_n 2, 1) := by decide +kernel
theorem dX6_count_85 : decode cX6_count 85 = .ok (.aload_n 0, 1) := by decide +kernel
theorem dX6_count_86 : decode cX6_count 86 = .ok (.getfield 7, 3) := by decide +kernel
theorem dX6_count_89 : decode cX6_count 89 = .ok (.bipush 8, 2) := by decide +kernel
theorem dX6_count_91 : decode cX6_count 91 = .ok (.iload_n 3, 1) := by decide +kernel
theorem dX6_count_92 : decode cX6_count 92 = .ok (.iadd, 1) := by decide +kernel
theorem dX6_count_93 : decode cX6_count 93 = .ok (.iaload, 1) := by decide +kernel
theorem dX6_count_94 : decode cX6_count 94 = .ok (.invokestatic 178, 3) := by decide +kernel
theorem dX6_count_97 : decode cX6_count 97 = .ok (.iadd, 1) := by decide +kernel
theorem dX6_count_98 : decode cX6_count 98 = .ok (.istore_n 2, 1) := by decide +kernel
theorem dX6_count_99 : decode cX6_count 99 = .ok (.iinc 3 1, 3) := by decide +kernel
theorem dX6_count_102 : decode cX6_count 102 = .ok (.goto (-28), 3) := by decide +kernel
theorem dX6_count_105 : decode cX6_count 105 = .ok (.iload_n 2, 1) := by decide +kernel
theorem dX6_count_106 : decode cX6_count 106 = .ok (.iconst 2, 1) := by decide +kernel
theorem dX6_count_107 : decode cX6_count 107 = .ok (.idiv, 1) := by decide +kernel
theorem dX6_count_108 : decode cX6_count 108 = .ok (.ireturn, 1) := by decide +kernel
theorem dX6_count_109 : decode cX6_count 109 = .ok (.aload_n 0, 1) := by decide +kernel
theorem dX6_count_110 : decode cX6_count 110 = .ok (.getfield 16, 3) := by decide +kernel
theorem dX6_count_113 : decode cX6_count 113 = .ok (.bipush 16, 2) := by decide +kernel
theorem dX6_count_115 : decode cX6_count 115 = .ok (.iaload, 1) := by decide +kernel
theorem dX6_count_116 : decode cX6_count 116 = .ok (.ireturn, 1) := by decide +kernel
theorem dX6_count_117 : decode cX6_count 117 = .ok (.aload_n 0, 1) := by decide +kernel
theorem dX6_count_118 : decode cX6_count 118 = .ok (.getfield 16, 3) := by decide +kernel
theorem dX6_count_121 : decode cX6_count 121 = .ok (.bipush 17, 2) := by decide +kernel
theorem dX6_count_123 : decode cX6_count 123 = .ok (.iaload, 1) := by decide +kernel
theorem dX6_count_124 : decode cX6_count 124 = .ok (.ireturn, 1) := by decide +kernel
theorem dX6_count_125 : decode cX6_count 125 = .ok (.aload_n 0, 1) := by decide +kernel
theorem dX6_count_126 : decode cX6_count 126 = .ok (.getfield 16, 3) := by decide +kernel
theorem dX6_count_129 : decode cX6_count 129 = .ok (.bipush 9, 2) := by decide +kernel
theorem dX6_count_131 : decode cX6_count 131 = .ok (.iaload, 1) := by decide +kernel
theorem dX6_count_132 : decode cX6_count 132 = .ok (.invokestatic 178, 3) := by decide +kernel
theorem dX6_count_135 : decode cX6_count 135 = .ok (.ireturn, 1) := by decide +kernel
theorem dX6_count_136 : decode cX6_count 136 = .ok (.aload_n 0, 1) := by decide +kernel
theorem dX6_count_137 : decode cX6_count 137 = .ok (.aload_n 0, 1) := by decide +kernel
theorem dX6_count_138 : decode cX6_count 138 = .ok (.getfield 16, 3) := by decide +kernel
theorem dX6_count_141 : decode cX6_count 141 = .ok (.invokevirtual 245, 3) := by decide +kernel
theorem dX6_count_144 : decode cX6_count 144 = .ok (.ireturn, 1) := by decide +kernel
theorem dX6_count_145 : decode cX6_count 145 = .ok (.aload_n 0, 1) := by decide +kernel
theorem dX6_count_146 : decode cX6_count 146 = .ok (.getfield 62, 3) := by decide +kernel
theorem dX6_count_149 : decode cX6_count 149 = .ok (.ireturn, 1) := by decide +kernel
theorem dX6_count_150 : decode cX6_count 150 = .ok (.aload_n 0, 1) := by decide +kernel
theorem dX6_count_151 : decode cX6_count 151 = .ok (.getfield 66, 3) := by decide +kernel
theorem dX6_count_154 : decode cX6_count 154 = .ok (.ireturn, 1) := by decide +kernel
theorem dX6_count_155 : decode cX6_count 155 = .ok (.aload_n 0, 1) := by decide +kernel
theorem dX6_count_156 : decode cX6_count 156 = .ok (.getfield 77, 3) := by decide +kernel
theorem dX6_count_159 : decode cX6_count 159 = .ok (.ireturn, 1) := by decide +kernel
theorem dX6_count_160 : decode cX6_count 160 = .ok (.iconst (-1), 1) := by decide +kernel
theorem dX6_count_161 : decode cX6_count 161 = .ok (.ireturn, 1) := by decide +kernel
