theorem dJ6_bitCount_0f7a4_0 : decode cJ6_bitCount_0f7a4 0 = .ok (.iload_n 0, 1) := by decide +kernel
theorem dJ6_bitCount_0f7a4_1 : decode cJ6_bitCount_0f7a4 1 = .ok (.iload_n 0, 1) := by decide +kernel
theorem dJ6_bitCount_0f7a4_2 : decode cJ6_bitCount_0f7a4 2 = .ok (.iconst 1, 1) := by decide +kernel
theorem dJ6_bitCount_0f7a4_3 : decode cJ6_bitCount_0f7a4 3 = .ok (.iushr, 1) := by decide +kernel
theorem dJ6_bitCount_0f7a4_4 : decode cJ6_bitCount_0f7a4 4 = .ok (.ldc_w 265, 3) := by decide +kernel
theorem dJ6_bitCount_0f7a4_7 : decode cJ6_bitCount_0f7a4 7 = .ok (.iand, 1) := by decide +kernel
theorem dJ6_bitCount_0f7a4_8 : decode cJ6_bitCount_0f7a4 8 = .ok (.isub, 1) := by decide +kernel
theorem dJ6_bitCount_0f7a4_9 : decode cJ6_bitCount_0f7a4 9 = .ok (.istore_n 0, 1) := by decide +kernel
theorem dJ6_bitCount_0f7a4_10 : decode cJ6_bitCount_0f7a4 10 = .ok (.iload_n 0, 1) := by decide +kernel
theorem dJ6_bitCount_0f7a4_11 : decode cJ6_bitCount_0f7a4 11 = .ok (.ldc_w 266, 3) := by decide +kernel
theorem dJ6_bitCount_0f7a4_14 : decode cJ6_bitCount_0f7a4 14 = .ok (.iand, 1) := by decide +kernel
theorem dJ6_bitCount_0f7a4_15 : decode cJ6_bitCount_0f7a4 15 = .ok (.iload_n 0, 1) := by decide +kernel
theorem dJ6_bitCount_0f7a4_16 : decode cJ6_bitCount_0f7a4 16 = .ok (.iconst 2, 1) := by decide +kernel
theorem dJ6_bitCount_0f7a4_17 : decode cJ6_bitCount_0f7a4 17 = .ok (.iushr, 1) := by decide +kernel
theorem dJ6_bitCount_0f7a4_18 : decode cJ6_bitCount_0f7a4 18 = .ok (.ldc_w 266, 3) := by decide +kernel
theorem dJ6_bitCount_0f7a4_21 : decode cJ6_bitCount_0f7a4 21 = .ok (.iand, 1) := by decide +kernel
theorem dJ6_bitCount_0f7a4_22 : decode cJ6_bitCount_0f7a4 22 = .ok (.iadd, 1) := by decide +kernel
theorem dJ6_bitCount_0f7a4_23 : decode cJ6_bitCount_0f7a4 23 = .ok (.istore_n 0, 1) := by decide +kernel
theorem dJ6_bitCount_0f7a4_24 : decode cJ6_bitCount_0f7a4 24 = .ok (.iload_n 0, 1) := by decide +kernel
theorem dJ6_bitCount_0f7a4_25 : decode cJ6_bitCount_0f7a4 25 = .ok (.iload_n 0, 1) := by decide +kernel
theorem dJ6_bitCount_0f7a4_26 : decode cJ6_bitCount_0f7a4 26 = .ok (.iconst 4, 1) := by decide +kernel
theorem dJ6_bitCount_0f7a4_27 : decode cJ6_bitCount_0f7a4 27 = .ok (.iushr, 1) := by decide +kernel
theorem dJ6_bitCount_0f7a4_28 : decode cJ6_bitCount_0f7a4 28 = .ok (.iadd, 1) := by decide +kernel
theorem dJ6_bitCount_0f7a4_29 : decode cJ6_bitCount_0f7a4 29 = .ok (.ldc_w 267, 3) := by decide +kernel
theorem dJ6_bitCount_0f7a4_32 : decode cJ6_bitCount_0f7a4 32 = .ok (.iand, 1) := by decide +kernel
theorem dJ6_bitCount_0f7a4_33 : decode cJ6_bitCount_0f7a4 33 = .ok (.istore_n 0, 1) := by decide +kernel
theorem dJ6_bitCount_0f7a4_34 : decode cJ6_bitCount_0f7a4 34 = .ok (.iload_n 0, 1) := by decide +kernel
theorem dJ6_bitCount_0f7a4_35 : decode cJ6_bitCount_0f7a4 35 = .ok (.iload_n 0, 1) := by decide +kernel
theorem dJ6_bitCount_0f7a4_36 : decode cJ6_bitCount_0f7a4 36 = .ok (.bipush 8, 2) := by decide +kernel
theorem dJ6_bitCount_0f7a4_38 : decode cJ6_bitCount_0f7a4 38 = .ok (.iushr, 1) := by decide +kernel
theorem dJ6_bitCount_0f7a4_39 : decode cJ6_bitCount_0f7a4 39 = .ok (.iadd, 1) := by decide +kernel
theorem dJ6_bitCount_0f7a4_40 : decode cJ6_bitCount_0f7a4 40 = .ok (.istore_n 0, 1) := by decide +kernel
theorem dJ6_bitCount_0f7a4_41 : decode cJ6_bitCount_0f7a4 41 = .ok (.iload_n 0, 1) := by decide +kernel
theorem dJ6_bitCount_0f7a4_42 : decode cJ6_bitCount_0f7a4 42 = .ok (.iload_n 0, 1) := by decide +kernel
theorem dJ6_bitCount_0f7a4_43 : decode cJ6_bitCount_0f7a4 43 = .ok (.bipush 16, 2) := by decide +kernel
theorem dJ6_bitCount_0f7a4_45 : decode cJ6_bitCount_0f7a4 45 = .ok (.iushr, 1) := by decide +kernel
theorem dJ6_bitCount_0f7a4_46 : decode cJ6_bitCount_0f7a4 46 = .ok (.iadd, 1) := by decide +kernel
theorem dJ6_bitCount_0f7a4_47 : decode cJ6_bitCount_0f7a4 47 = .ok (.istore_n 0, 1) := by decide +kernel
theorem dJ6_bitCount_0f7a4_48 : decode cJ6_bitCount_0f7a4 48 = .ok (.iload_n 0, 1) := by decide +kernel
theorem dJ6_bitCount_0f7a4_49 : decode cJ6_bitCount_0f7a4 49 = .ok (.bipush 63, 2) := by decide +kernel
theorem dJ6_bitCount_0f7a4_51 : decode cJ6_bitCount_0f7a4 51 = .ok (.iand, 1) := by decide +kernel
theorem dJ6_bitCount_0f7a4_52 : decode cJ6_bitCount_0f7a4 52 = .ok (.ireturn, 1) := by decide +kernel
theorem dJ9_max_7cf53_0 : decode cJ9_max_7cf53 0 = .ok (.iload_n 0, 1) := by decide +kernel
theorem dJ9_max_7cf53_1 : decode cJ9_max_7cf53 1 = .ok (.iload_n 1, 1) := by decide +kernel
theorem dJ9_max_7cf53_2 : decode cJ9_max_7cf53 2 = .ok (.if_icmp .lt 7, 3) := by decide +kernel
theorem dJ9_max_7cf53_5 : decode cJ9_max_7cf53 5 = .ok (.iload_n 0, 1) := by decide +kernel
theorem dJ9_max_7cf53_6 : decode cJ9_max_7cf53 6 = .ok (.goto 4, 3) := by decide +kernel
theorem dJ9_max_7cf53_9 : decode cJ9_max_7cf53 9 = .ok (.iload_n 1, 1) := by decide +kernel
theorem dJ9_max_7cf53_10 : decode cJ9_max_7cf53 10 = .ok (.ireturn, 1) := by decide +kernel
theorem dJ9_min_7cf53_0 : decode cJ9_min_7cf53 0 = .ok (.iload_n 0, 1) := by decide +kernel
theorem dJ9_min_7cf53_1 : decode cJ9_min_7cf53 1 = .ok (.iload_n 1, 1) := by decide +kernel
theorem dJ9_min_7cf53_2 : decode cJ9_min_7cf53 2 = .ok (.if_icmp .gt 7, 3) := by decide +kernel
theorem dJ9_min_7cf53_5 : decode cJ9_min_7cf53 5 = .ok (.iload_n 0, 1) := by decide +kernel
theorem dJ9_min_7cf53_6 : decode cJ9_min_7cf53 6 = .ok (.goto 4, 3) := by decide +kernel
theorem dJ9_min_7cf53_9 : decode cJ9_min_7cf53 9 = .ok (.iload_n 1, 1) := by decide +kernel
theorem dJ9_min_7cf53_10 : decode cJ9_min_7cf53 10 = .ok (.ireturn, 1) := by decide +kernel
theorem dJ7_fill_53178_0 : decode cJ7_fill_53178 0 = .ok (.iconst 0, 1) := by decide +kernel
theorem dJ7_fill_53178_1 : decode cJ7_fill_53178 1 = .ok (.istore_n 2, 1) := by decide +kernel
theorem dJ7_fill_53178_2 : decode cJ7_fill_53178 2 = .ok (.aload_n 0, 1) := by decide +kernel
theorem dJ7_fill_53178_3 : decode cJ7_fill_53178 3 = .ok (.arraylength, 1) := by decide +kernel
theorem dJ7_fill_53178_4 : decode cJ7_fill_53178 4 = .ok (.istore_n 3, 1) := by decide +kernel
theorem dJ7_fill_53178_5 : decode cJ7_fill_53178 5 = .ok (.iload_n 2, 1) := by decide +kernel
theorem dJ7_fill_53178_6 : decode cJ7_fill_53178 6 = .ok (.iload_n 3, 1) := by decide +kernel
theorem dJ7_fill_53178_7 : decode cJ7_fill_53178 7 = .ok (.if_icmp .ge 13, 3) := by decide +kernel
theorem dJ7_fill_53178_10 : decode cJ7_fill_53178 10 = .ok (.aload_n 0, 1) := by decide +kernel
theorem dJ7_fill_53178_11 : decode cJ7_fill_53178 11 = .ok (.iload_n 2, 1) := by decide +kernel
theorem dJ7_fill_53178_12 : decode cJ7_fill_53178 12 = .ok (.iload_n 1, 1) := by decide +kernel
theorem dJ7_fill_53178_13 : decode cJ7_fill_53178 13 = .ok (.iastore, 1) := by decide +kernel
theorem dJ7_fill_53178_14 : decode cJ7_fill_53178 14 = .ok (.iinc 2 1, 3) := by decide +kernel
theorem dJ7_fill_53178_17 : decode cJ7_fill_53178 17 = .ok (.goto (-12), 3) := by decide +kernel
theorem dJ7_fill_53178_20 : decode cJ7_fill_53178 20 = .ok (.return_, 1) := by decide +kernel
theorem dL_below_0 : decode cL_below 0 = .ok (.iload_n 0, 1) := by decide +kernel
theorem dL_below_1 : decode cL_below 1 = .ok (.ldc 7, 2) := by decide +kernel
theorem dL_below_3 : decode cL_below 3 = .ok (.iand, 1) := by decide +kernel
theorem dL_below_4 : decode cL_below 4 = .ok (.iload_n 1, 1) := by decide +kernel
theorem dL_below_5 : decode cL_below 5 = .ok (.irem, 1) := by decide +kernel
theorem dL_below_6 : decode cL_below 6 = .ok (.ireturn, 1) := by decide +kernel
theorem dL_cell_0 : decode cL_cell 0 = .ok (.iload_n 1, 1) := by decide +kernel
theorem dL_cell_1 : decode cL_cell 1 = .ok (.aload_n 0, 1) := by decide +kernel
theorem dL_cell_2 : decode cL_cell 2 = .ok (.arraylength, 1) := by decide +kernel
theorem dL_cell_3 : decode cL_cell 3 = .ok (.if_icmp .ge 9, 3) := by decide +kernel
theorem dL_cell_6 : decode cL_cell 6 = .ok (.aload_n 0, 1) := by decide +kernel
theorem dL_cell_7 : decode cL_cell 7 = .ok (.iload_n 1, 1) := by decide +kernel
theorem dL_cell_8 : decode cL_cell 8 = .ok (.iaload, 1) := by decide +kernel
theorem dL_cell_9 : decode cL_cell 9 = .ok (.goto 9, 3) := by decide +kernel
theorem dL_cell_12 : decode cL_cell 12 = .ok (.ldc 8, 2) := by decide +kernel
theorem dL_cell_14 : decode cL_cell 14 = .ok (.iload_n 1, 1) := by decide +kernel
theorem dL_cell_15 : decode cL_cell 15 = .ok (.iconst 3, 1) := by decide +kernel
theorem dL_cell_16 : decode cL_cell 16 = .ok (.iadd, 1) := by decide +kernel
theorem dL_cell_17 : decode cL_cell 17 = .ok (.imul, 1) := by decide +kernel
theorem dL_cell_18 : decode cL_cell 18 = .ok (.ireturn, 1) := by decide +kernel
theorem dL_act_0 : decode cL_act 0 = .ok (.aload_n 1, 1) := by decide +kernel
theorem dL_act_1 : decode cL_act 1 = .ok (.getfield 9, 3) := by decide +kernel
theorem dL_act_4 : decode cL_act 4 = .ok (.arraylength, 1) := by decide +kernel
theorem dL_act_5 : decode cL_act 5 = .ok (.istore_n 3, 1) := by decide +kernel
theorem dL_act_6 : decode cL_act 6 = .ok (.iload_n 2, 1) := by decide +kernel
theorem dL_act_7 : decode cL_act 7 = .ok (.bipush 13, 2) := by decide +kernel
theorem dL_act_9 : decode cL_act 9 = .ok (.ishr, 1) := by decide +kernel
theorem dL_act_10 : decode cL_act 10 = .ok (.iconst 3, 1) := by decide +kernel
theorem dL_act_11 : decode cL_act 11 = .ok (.invokestatic 15, 3) := by decide +kernel
theorem dL_act_14 : decode cL_act 14 = .ok (.ifCond .ne 8, 3) := by decide +kernel
theorem dL_act_17 : decode cL_act 17 = .ok (.bipush 16, 2) := by decide +kernel
theorem dL_act_19 : decode cL_act 19 = .ok (.goto 5, 3) := by decide +kernel
theorem dL_act_22 : decode cL_act 22 = .ok (.bipush 7, 2) := by decide +kernel
theorem dL_act_24 : decode cL_act 24 = .ok (.istore 4, 2) := by decide +kernel
theorem dL_act_26 : decode cL_act 26 = .ok (.iload_n 2, 1) := by decide +kernel
theorem dL_act_27 : decode cL_act 27 = .ok (.iconst 4, 1) := by decide +kernel
theorem dL_act_28 : decode cL_act 28 = .ok (.ishr, 1) := by decide +kernel
theorem dL_act_29 : decode cL_act 29 = .ok (.iload 4, 2) := by decide +kernel
theorem dL_act_31 : decode cL_act 31 = .ok (.invokestatic 15, 3) := by decide +kernel
theorem dL_act_34 : decode cL_act 34 = .ok (.istore 5, 2) := by decide +kernel
theorem dL_act_36 : decode cL_act 36 = .ok (.iload_n 2, 1) := by decide +kernel
theorem dL_act_37 : decode cL_act 37 = .ok (.bipush 6, 2) := by decide +kernel
theorem dL_act_39 : decode cL_act 39 = .ok (.ishr, 1) := by decide +kernel
theorem dL_act_40 : decode cL_act 40 = .ok (.iload 4, 2) := by decide +kernel
theorem dL_act_42 : decode cL_act 42 = .ok (.iconst 1, 1) := by decide +kernel
theorem dL_act_43 : decode cL_act 43 = .ok (.iadd, 1) := by decide +kernel
theorem dL_act_44 : decode cL_act 44 = .ok (.invokestatic 15, 3) := by decide +kernel
theorem dL_act_47 : decode cL_act 47 = .ok (.iconst 1, 1) := by decide +kernel
theorem dL_act_48 : decode cL_act 48 = .ok (.isub, 1) := by decide +kernel
theorem dL_act_49 : decode cL_act 49 = .ok (.istore 6, 2) := by decide +kernel
theorem dL_act_51 : decode cL_act 51 = .ok (.iload_n 2, 1) := by decide +kernel
theorem dL_act_52 : decode cL_act 52 = .ok (.bipush 8, 2) := by decide +kernel
theorem dL_act_54 : decode cL_act 54 = .ok (.ishr, 1) := by decide +kernel
theorem dL_act_55 : decode cL_act 55 = .ok (.iload 4, 2) := by decide +kernel
theorem dL_act_57 : decode cL_act 57 = .ok (.iconst 1, 1) := by decide +kernel
theorem dL_act_58 : decode cL_act 58 = .ok (.iadd, 1) := by decide +kernel
theorem dL_act_59 : decode cL_act 59 = .ok (.invokestatic 15, 3) := by decide +kernel
theorem dL_act_62 : decode cL_act 62 = .ok (.iconst 1, 1) := by decide +kernel
theorem dL_act_63 : decode cL_act 63 = .ok (.isub, 1) := by decide +kernel
theorem dL_act_64 : decode cL_act 64 = .ok (.istore 7, 2) := by decide +kernel
theorem dL_act_66 : decode cL_act 66 = .ok (.iconst 1, 1) := by decide +kernel
theorem dL_act_67 : decode cL_act 67 = .ok (.iload_n 2, 1) := by decide +kernel
theorem dL_act_68 : decode cL_act 68 = .ok (.iconst 3, 1) := by decide +kernel
theorem dL_act_69 : decode cL_act 69 = .ok (.ishr, 1) := by decide +kernel
theorem dL_act_70 : decode cL_act 70 = .ok (.bipush 9, 2) := by decide +kernel
theorem dL_act_72 : decode cL_act 72 = .ok (.invokestatic 15, 3) := by decide +kernel
theorem dL_act_75 : decode cL_act 75 = .ok (.iadd, 1) := by decide +kernel
theorem dL_act_76 : decode cL_act 76 = .ok (.istore 8, 2) := by decide +kernel
theorem dL_act_78 : decode cL_act 78 = .ok (.iload_n 2, 1) := by decide +kernel
theorem dL_act_79 : decode cL_act 79 = .ok (.bipush 12, 2) := by decide +kernel
theorem dL_act_81 : decode cL_act 81 = .ok (.invokestatic 15, 3) := by decide +kernel
theorem dL_act_84 : decode cL_act 84 = .ok (.tableswitch 336 0 10 #[60, 60, 60, 60, 60, 143, 143, 143, 234, 280, 280], 60) := by decide +kernel
theorem dL_act_144 : decode cL_act 144 = .ok (.iload_n 3, 1) := by decide +kernel
theorem dL_act_145 : decode cL_act 145 = .ok (.bipush 30, 2) := by decide +kernel
theorem dL_act_147 : decode cL_act 147 = .ok (.if_icmp .ge 34, 3) := by decide +kernel
theorem dL_act_150 : decode cL_act 150 = .ok (.aload_n 1, 1) := by decide +kernel
theorem dL_act_151 : decode cL_act 151 = .ok (.iconst 5, 1) := by decide +kernel
theorem dL_act_152 : decode cL_act 152 = .ok (.newarray .int, 2) := by decide +kernel
theorem dL_act_154 : decode cL_act 154 = .ok (.dup, 1) := by decide +kernel
theorem dL_act_155 : decode cL_act 155 = .ok (.iconst 0, 1) := by decide +kernel
theorem dL_act_156 : decode cL_act 156 = .ok (.iload 5, 2) := by decide +kernel
theorem dL_act_158 : decode cL_act 158 = .ok (.iastore, 1) := by decide +kernel
theorem dL_act_159 : decode cL_act 159 = .ok (.dup, 1) := by decide +kernel
theorem dL_act_160 : decode cL_act 160 = .ok (.iconst 1, 1) := by decide +kernel
theorem dL_act_161 : decode cL_act 161 = .ok (.iload 6, 2) := by decide +kernel
theorem dL_act_163 : decode cL_act 163 = .ok (.iastore, 1) := by decide +kernel
theorem dL_act_164 : decode cL_act 164 = .ok (.dup, 1) := by decide +kernel
theorem dL_act_165 : decode cL_act 165 = .ok (.iconst 2, 1) := by decide +kernel
theorem dL_act_166 : decode cL_act 166 = .ok (.iload 7, 2) := by decide +kernel
theorem dL_act_168 : decode cL_act 168 = .ok (.iastore, 1) := by decide +kernel
theorem dL_act_169 : decode cL_act 169 = .ok (.dup, 1) := by decide +kernel
theorem dL_act_170 : decode cL_act 170 = .ok (.iconst 3, 1) := by decide +kernel
theorem dL_act_171 : decode cL_act 171 = .ok (.iload 8, 2) := by decide +kernel
theorem dL_act_173 : decode cL_act 173 = .ok (.iastore, 1) := by decide +kernel
theorem dL_act_174 : decode cL_act 174 = .ok (.dup, 1) := by decide +kernel
theorem dL_act_175 : decode cL_act 175 = .ok (.iconst 4, 1) := by decide +kernel
theorem dL_act_176 : decode cL_act 176 = .ok (.iconst 0, 1) := by decide +kernel
theorem dL_act_177 : decode cL_act 177 = .ok (.iastore, 1) := by decide +kernel
theorem dL_act_178 : decode cL_act 178 = .ok (.invokestatic 21, 3) := by decide +kernel
theorem dL_act_181 : decode cL_act 181 = .ok (.aload_n 0, 1) := by decide +kernel
theorem dL_act_182 : decode cL_act 182 = .ok (.iload 5, 2) := by decide +kernel
theorem dL_act_184 : decode cL_act 184 = .ok (.iload 6, 2) := by decide +kernel
theorem dL_act_186 : decode cL_act 186 = .ok (.iload 7, 2) := by decide +kernel
theorem dL_act_188 : decode cL_act 188 = .ok (.iload 8, 2) := by decide +kernel
theorem dL_act_190 : decode cL_act 190 = .ok (.invokevirtual 25, 3) := by decide +kernel
theorem dL_act_193 : decode cL_act 193 = .ok (.istore 9, 2) := by decide +kernel
theorem dL_act_195 : decode cL_act 195 = .ok (.iload_n 3, 1) := by decide +kernel
theorem dL_act_196 : decode cL_act 196 = .ok (.bipush 30, 2) := by decide +kernel
theorem dL_act_198 : decode cL_act 198 = .ok (.if_icmp .ge 13, 3) := by decide +kernel
theorem dL_act_201 : decode cL_act 201 = .ok (.iload 9, 2) := by decide +kernel
theorem dL_act_203 : decode cL_act 203 = .ok (.iload_n 3, 1) := by decide +kernel
theorem dL_act_204 : decode cL_act 204 = .ok (.if_icmp .ne 7, 3) := by decide +kernel
theorem dL_act_207 : decode cL_act 207 = .ok (.iconst 1, 1) := by decide +kernel
theorem dL_act_208 : decode cL_act 208 = .ok (.goto 4, 3) := by decide +kernel
theorem dL_act_211 : decode cL_act 211 = .ok (.iconst 0, 1) := by decide +kernel
theorem dL_act_212 : decode cL_act 212 = .ok (.ireturn, 1) := by decide +kernel
theorem dL_act_213 : decode cL_act 213 = .ok (.astore 9, 2) := by decide +kernel
theorem dL_act_215 : decode cL_act 215 = .ok (.iload_n 3, 1) := by decide +kernel
theorem dL_act_216 : decode cL_act 216 = .ok (.bipush 30, 2) := by decide +kernel
theorem dL_act_218 : decode cL_act 218 = .ok (.if_icmp .ne 7, 3) := by decide +kernel
theorem dL_act_221 : decode cL_act 221 = .ok (.iconst 1, 1) := by decide +kernel
theorem dL_act_222 : decode cL_act 222 = .ok (.goto 4, 3) := by decide +kernel
theorem dL_act_225 : decode cL_act 225 = .ok (.iconst 0, 1) := by decide +kernel
theorem dL_act_226 : decode cL_act 226 = .ok (.ireturn, 1) := by decide +kernel
theorem dL_act_227 : decode cL_act 227 = .ok (.iload_n 2, 1) := by decide +kernel
theorem dL_act_228 : decode cL_act 228 = .ok (.bipush 7, 2) := by decide +kernel
theorem dL_act_230 : decode cL_act 230 = .ok (.ishr, 1) := by decide +kernel
theorem dL_act_231 : decode cL_act 231 = .ok (.iload 4, 2) := by decide +kernel
theorem dL_act_233 : decode cL_act 233 = .ok (.invokestatic 15, 3) := by decide +kernel
theorem dL_act_236 : decode cL_act 236 = .ok (.istore 9, 2) := by decide +kernel
theorem dL_act_238 : decode cL_act 238 = .ok (.iload_n 3, 1) := by decide +kernel
theorem dL_act_239 : decode cL_act 239 = .ok (.bipush 30, 2) := by decide +kernel
theorem dL_act_241 : decode cL_act 241 = .ok (.if_icmp .ge 33, 3) := by decide +kernel
theorem dL_act_244 : decode cL_act 244 = .ok (.aload_n 1, 1) := by decide +kernel
theorem dL_act_245 : decode cL_act 245 = .ok (.iconst 5, 1) := by decide +kernel
theorem dL_act_246 : decode cL_act 246 = .ok (.newarray .int, 2) := by decide +kernel
theorem dL_act_248 : decode cL_act 248 = .ok (.dup, 1) := by decide +kernel
theorem dL_act_249 : decode cL_act 249 = .ok (.iconst 0, 1) := by decide +kernel
theorem dL_act_250 : decode cL_act 250 = .ok (.iload 5, 2) := by decide +kernel
theorem dL_act_252 : decode cL_act 252 = .ok (.iastore, 1) := by decide +kernel
theorem dL_act_253 : decode cL_act 253 = .ok (.dup, 1) := by decide +kernel
theorem dL_act_254 : decode cL_act 254 = .ok (.iconst 1, 1) := by decide +kernel
theorem dL_act_255 : decode cL_act 255 = .ok (.iload 9, 2) := by decide +kernel
theorem dL_act_257 : decode cL_act 257 = .ok (.iastore, 1) := by decide +kernel
theorem dL_act_258 : decode cL_act 258 = .ok (.dup, 1) := by decide +kernel
theorem dL_act_259 : decode cL_act 259 = .ok (.iconst 2, 1) := by decide +kernel
theorem dL_act_260 : decode cL_act 260 = .ok (.iconst (-1), 1) := by decide +kernel
theorem dL_act_261 : decode cL_act 261 = .ok (.iastore, 1) := by decide +kernel
theorem dL_act_262 : decode cL_act 262 = .ok (.dup, 1) := by decide +kernel
theorem dL_act_263 : decode cL_act 263 = .ok (.iconst 3, 1) := by decide +kernel
theorem dL_act_264 : decode cL_act 264 = .ok (.iload 8, 2) := by decide +kernel
theorem dL_act_266 : decode cL_act 266 = .ok (.iastore, 1) := by decide +kernel
theorem dL_act_267 : decode cL_act 267 = .ok (.dup, 1) := by decide +kernel
theorem dL_act_268 : decode cL_act 268 = .ok (.iconst 4, 1) := by decide +kernel
theorem dL_act_269 : decode cL_act 269 = .ok (.iconst 1, 1) := by decide +kernel
theorem dL_act_270 : decode cL_act 270 = .ok (.iastore, 1) := by decide +kernel
theorem dL_act_271 : decode cL_act 271 = .ok (.invokestatic 21, 3) := by decide +kernel
theorem dL_act_274 : decode cL_act 274 = .ok (.aload_n 0, 1) := by decide +kernel
theorem dL_act_275 : decode cL_act 275 = .ok (.iload 5, 2) := by decide +kernel
theorem dL_act_277 : decode cL_act 277 = .ok (.iload 9, 2) := by decide +kernel
theorem dL_act_279 : decode cL_act 279 = .ok (.iload 8, 2) := by decide +kernel
theorem dL_act_281 : decode cL_act 281 = .ok (.invokevirtual 33, 3) := by decide +kernel
theorem dL_act_284 : decode cL_act 284 = .ok (.istore 10, 2) := by decide +kernel
theorem dL_act_286 : decode cL_act 286 = .ok (.iload_n 3, 1) := by decide +kernel
theorem dL_act_287 : decode cL_act 287 = .ok (.bipush 30, 2) := by decide +kernel
theorem dL_act_289 : decode cL_act 289 = .ok (.if_icmp .ge 13, 3) := by decide +kernel
theorem dL_act_292 : decode cL_act 292 = .ok (.iload 10, 2) := by decide +kernel
theorem dL_act_294 : decode cL_act 294 = .ok (.iload_n 3, 1) := by decide +kernel
theorem dL_act_295 : decode cL_act 295 = .ok (.if_icmp .ne 7, 3) := by decide +kernel
theorem dL_act_298 : decode cL_act 298 = .ok (.iconst 1, 1) := by decide +kernel
theorem dL_act_299 : decode cL_act 299 = .ok (.goto 4, 3) := by decide +kernel
theorem dL_act_302 : decode cL_act 302 = .ok (.iconst 0, 1) := by decide +kernel
theorem dL_act_303 : decode cL_act 303 = .ok (.ireturn, 1) := by decide +kernel
theorem dL_act_304 : decode cL_act 304 = .ok (.astore 10, 2) := by decide +kernel
theorem dL_act_306 : decode cL_act 306 = .ok (.iload_n 3, 1) := by decide +kernel
theorem dL_act_307 : decode cL_act 307 = .ok (.bipush 30, 2) := by decide +kernel
theorem dL_act_309 : decode cL_act 309 = .ok (.if_icmp .ne 7, 3) := by decide +kernel
theorem dL_act_312 : decode cL_act 312 = .ok (.iconst 1, 1) := by decide +kernel
theorem dL_act_313 : decode cL_act 313 = .ok (.goto 4, 3) := by decide +kernel
theorem dL_act_316 : decode cL_act 316 = .ok (.iconst 0, 1) := by decide +kernel
theorem dL_act_317 : decode cL_act 317 = .ok (.ireturn, 1) := by decide +kernel
theorem dL_act_318 : decode cL_act 318 = .ok (.iload_n 3, 1) := by decide +kernel
theorem dL_act_319 : decode cL_act 319 = .ok (.ifCond .ne 5, 3) := by decide +kernel
theorem dL_act_322 : decode cL_act 322 = .ok (.iconst 1, 1) := by decide +kernel
theorem dL_act_323 : decode cL_act 323 = .ok (.ireturn, 1) := by decide +kernel
theorem dL_act_324 : decode cL_act 324 = .ok (.iload_n 2, 1) := by decide +kernel
theorem dL_act_325 : decode cL_act 325 = .ok (.iconst 5, 1) := by decide +kernel
theorem dL_act_326 : decode cL_act 326 = .ok (.ishr, 1) := by decide +kernel
theorem dL_act_327 : decode cL_act 327 = .ok (.iload_n 3, 1) := by decide +kernel
theorem dL_act_328 : decode cL_act 328 = .ok (.invokestatic 15, 3) := by decide +kernel
theorem dL_act_331 : decode cL_act 331 = .ok (.istore 9, 2) := by decide +kernel
theorem dL_act_333 : decode cL_act 333 = .ok (.aload_n 1, 1) := by decide +kernel
theorem dL_act_334 : decode cL_act 334 = .ok (.aload_n 1, 1) := by decide +kernel
theorem dL_act_335 : decode cL_act 335 = .ok (.getfield 9, 3) := by decide +kernel
theorem dL_act_338 : decode cL_act 338 = .ok (.iload 9, 2) := by decide +kernel
theorem dL_act_340 : decode cL_act 340 = .ok (.invokestatic 37, 3) := by decide +kernel
theorem dL_act_343 : decode cL_act 343 = .ok (.putfield 9, 3) := by decide +kernel
theorem dL_act_346 : decode cL_act 346 = .ok (.aload_n 0, 1) := by decide +kernel
theorem dL_act_347 : decode cL_act 347 = .ok (.iload 9, 2) := by decide +kernel
theorem dL_act_349 : decode cL_act 349 = .ok (.invokevirtual 41, 3) := by decide +kernel
theorem dL_act_352 : decode cL_act 352 = .ok (.iload_n 3, 1) := by decide +kernel
theorem dL_act_353 : decode cL_act 353 = .ok (.iconst 1, 1) := by decide +kernel
theorem dL_act_354 : decode cL_act 354 = .ok (.isub, 1) := by decide +kernel
theorem dL_act_355 : decode cL_act 355 = .ok (.if_icmp .ne 7, 3) := by decide +kernel
theorem dL_act_358 : decode cL_act 358 = .ok (.iconst 1, 1) := by decide +kernel
theorem dL_act_359 : decode cL_act 359 = .ok (.goto 4, 3) := by decide +kernel
theorem dL_act_362 : decode cL_act 362 = .ok (.iconst 0, 1) := by decide +kernel
theorem dL_act_363 : decode cL_act 363 = .ok (.ireturn, 1) := by decide +kernel
theorem dL_act_364 : decode cL_act 364 = .ok (.aload_n 1, 1) := by decide +kernel
theorem dL_act_365 : decode cL_act 365 = .ok (.getfield 45, 3) := by decide +kernel
theorem dL_act_368 : decode cL_act 368 = .ok (.iload 5, 2) := by decide +kernel
theorem dL_act_370 : decode cL_act 370 = .ok (.baload, 1) := by decide +kernel
theorem dL_act_371 : decode cL_act 371 = .ok (.istore 9, 2) := by decide +kernel
theorem dL_act_373 : decode cL_act 373 = .ok (.aload_n 1, 1) := by decide +kernel
theorem dL_act_374 : decode cL_act 374 = .ok (.getfield 45, 3) := by decide +kernel
theorem dL_act_377 : decode cL_act 377 = .ok (.iload 5, 2) := by decide +kernel
theorem dL_act_379 : decode cL_act 379 = .ok (.iload_n 2, 1) := by decide +kernel
theorem dL_act_380 : decode cL_act 380 = .ok (.bipush 9, 2) := by decide +kernel
theorem dL_act_382 : decode cL_act 382 = .ok (.ishr, 1) := by decide +kernel
theorem dL_act_383 : decode cL_act 383 = .ok (.iconst 3, 1) := by decide +kernel
theorem dL_act_384 : decode cL_act 384 = .ok (.invokestatic 15, 3) := by decide +kernel
theorem dL_act_387 : decode cL_act 387 = .ok (.ifCond .le 7, 3) := by decide +kernel
theorem dL_act_390 : decode cL_act 390 = .ok (.iconst 1, 1) := by decide +kernel
theorem dL_act_391 : decode cL_act 391 = .ok (.goto 4, 3) := by decide +kernel
theorem dL_act_394 : decode cL_act 394 = .ok (.iconst 0, 1) := by decide +kernel
theorem dL_act_395 : decode cL_act 395 = .ok (.bastore, 1) := by decide +kernel
theorem dL_act_396 : decode cL_act 396 = .ok (.aload_n 0, 1) := by decide +kernel
theorem dL_act_397 : decode cL_act 397 = .ok (.iload 5, 2) := by decide +kernel
theorem dL_act_399 : decode cL_act 399 = .ok (.aload_n 1, 1) := by decide +kernel
theorem dL_act_400 : decode cL_act 400 = .ok (.getfield 45, 3) := by decide +kernel
theorem dL_act_403 : decode cL_act 403 = .ok (.iload 5, 2) := by decide +kernel
theorem dL_act_405 : decode cL_act 405 = .ok (.baload, 1) := by decide +kernel
theorem dL_act_406 : decode cL_act 406 = .ok (.invokevirtual 49, 3) := by decide +kernel
theorem dL_act_409 : decode cL_act 409 = .ok (.iload 9, 2) := by decide +kernel
theorem dL_act_411 : decode cL_act 411 = .ok (.if_icmp .ne 7, 3) := by decide +kernel
theorem dL_act_414 : decode cL_act 414 = .ok (.iconst 1, 1) := by decide +kernel
theorem dL_act_415 : decode cL_act 415 = .ok (.goto 4, 3) := by decide +kernel
theorem dL_act_418 : decode cL_act 418 = .ok (.iconst 0, 1) := by decide +kernel
theorem dL_act_419 : decode cL_act 419 = .ok (.ireturn, 1) := by decide +kernel
theorem dL_act_420 : decode cL_act 420 = .ok (.aload_n 1, 1) := by decide +kernel
theorem dL_act_421 : decode cL_act 421 = .ok (.getfield 53, 3) := by decide +kernel
theorem dL_act_424 : decode cL_act 424 = .ok (.istore 9, 2) := by decide +kernel
theorem dL_act_426 : decode cL_act 426 = .ok (.aload_n 1, 1) := by decide +kernel
theorem dL_act_427 : decode cL_act 427 = .ok (.iconst 1, 1) := by decide +kernel
theorem dL_act_428 : decode cL_act 428 = .ok (.iload_n 2, 1) := by decide +kernel
theorem dL_act_429 : decode cL_act 429 = .ok (.bipush 6, 2) := by decide +kernel
theorem dL_act_431 : decode cL_act 431 = .ok (.ishr, 1) := by decide +kernel
theorem dL_act_432 : decode cL_act 432 = .ok (.iload_n 2, 1) := by decide +kernel
theorem dL_act_433 : decode cL_act 433 = .ok (.bipush 9, 2) := by decide +kernel
theorem dL_act_435 : decode cL_act 435 = .ok (.ishr, 1) := by decide +kernel
theorem dL_act_436 : decode cL_act 436 = .ok (.iconst 2, 1) := by decide +kernel
theorem dL_act_437 : decode cL_act 437 = .ok (.invokestatic 15, 3) := by decide +kernel
theorem dL_act_440 : decode cL_act 440 = .ok (.ifCond .ne 8, 3) := by decide +kernel
theorem dL_act_443 : decode cL_act 443 = .ok (.bipush 8, 2) := by decide +kernel
theorem dL_act_445 : decode cL_act 445 = .ok (.goto 4, 3) := by decide +kernel
theorem dL_act_448 : decode cL_act 448 = .ok (.iconst 3, 1) := by decide +kernel
theorem dL_act_449 : decode cL_act 449 = .ok (.invokestatic 15, 3) := by decide +kernel
theorem dL_act_452 : decode cL_act 452 = .ok (.iadd, 1) := by decide +kernel
theorem dL_act_453 : decode cL_act 453 = .ok (.putfield 53, 3) := by decide +kernel
theorem dL_act_456 : decode cL_act 456 = .ok (.aload_n 0, 1) := by decide +kernel
theorem dL_act_457 : decode cL_act 457 = .ok (.aload_n 1, 1) := by decide +kernel
theorem dL_act_458 : decode cL_act 458 = .ok (.getfield 53, 3) := by decide +kernel
theorem dL_act_461 : decode cL_act 461 = .ok (.invokevirtual 57, 3) := by decide +kernel
theorem dL_act_464 : decode cL_act 464 = .ok (.iload 9, 2) := by decide +kernel
theorem dL_act_466 : decode cL_act 466 = .ok (.if_icmp .ne 7, 3) := by decide +kernel
theorem dL_act_469 : decode cL_act 469 = .ok (.iconst 1, 1) := by decide +kernel
theorem dL_act_470 : decode cL_act 470 = .ok (.goto 4, 3) := by decide +kernel
theorem dL_act_473 : decode cL_act 473 = .ok (.iconst 0, 1) := by decide +kernel
theorem dL_act_474 : decode cL_act 474 = .ok (.ireturn, 1) := by decide +kernel
theorem dL_add_0 : decode cL_add 0 = .ok (.aload_n 0, 1) := by decide +kernel
theorem dL_add_1 : decode cL_add 1 = .ok (.getfield 9, 3) := by decide +kernel
theorem dL_add_4 : decode cL_add 4 = .ok (.arraylength, 1) := by decide +kernel
theorem dL_add_5 : decode cL_add 5 = .ok (.iconst 1, 1) := by decide +kernel
theorem dL_add_6 : decode cL_add 6 = .ok (.iadd, 1) := by decide +kernel
theorem dL_add_7 : decode cL_add 7 = .ok (.anewarray 60, 3) := by decide +kernel
theorem dL_add_10 : decode cL_add 10 = .ok (.astore_n 2, 1) := by decide +kernel
theorem dL_add_11 : decode cL_add 11 = .ok (.iconst 0, 1) := by decide +kernel
theorem dL_add_12 : decode cL_add 12 = .ok (.istore_n 3, 1) := by decide +kernel
theorem dL_add_13 : decode cL_add 13 = .ok (.iload_n 3, 1) := by decide +kernel
theorem dL_add_14 : decode cL_add 14 = .ok (.aload_n 0, 1) := by decide +kernel
theorem dL_add_15 : decode cL_add 15 = .ok (.getfield 9, 3) := by decide +kernel
theorem dL_add_18 : decode cL_add 18 = .ok (.arraylength, 1) := by decide +kernel
theorem dL_add_19 : decode cL_add 19 = .ok (.if_icmp .ge 18, 3) := by decide +kernel
theorem dL_add_22 : decode cL_add 22 = .ok (.aload_n 2, 1) := by decide +kernel
theorem dL_add_23 : decode cL_add 23 = .ok (.iload_n 3, 1) := by decide +kernel
theorem dL_add_24 : decode cL_add 24 = .ok (.aload_n 0, 1) := by decide +kernel
theorem dL_add_25 : decode cL_add 25 = .ok (.getfield 9, 3) := by decide +kernel
theorem dL_add_28 : decode cL_add 28 = .ok (.iload_n 3, 1) := by decide +kernel
theorem dL_add_29 : decode cL_add 29 = .ok (.aaload, 1) := by decide +kernel
theorem dL_add_30 : decode cL_add 30 = .ok (.aastore, 1) := by decide +kernel
theorem dL_add_31 : decode cL_add 31 = .ok (.iinc 3 1, 3) := by decide +kernel
theorem dL_add_34 : decode cL_add 34 = .ok (.goto (-21), 3) := by decide +kernel
theorem dL_add_37 : decode cL_add 37 = .ok (.aload_n 2, 1) := by decide +kernel
theorem dL_add_38 : decode cL_add 38 = .ok (.aload_n 0, 1) := by decide +kernel
theorem dL_add_39 : decode cL_add 39 = .ok (.getfield 9, 3) := by decide +kernel
theorem dL_add_42 : decode cL_add 42 = .ok (.arraylength, 1) := by decide +kernel
theorem dL_add_43 : decode cL_add 43 = .ok (.aload_n 1, 1) := by decide +kernel
theorem dL_add_44 : decode cL_add 44 = .ok (.aastore, 1) := by decide +kernel
theorem dL_add_45 : decode cL_add 45 = .ok (.aload_n 0, 1) := by decide +kernel
theorem dL_add_46 : decode cL_add 46 = .ok (.aload_n 2, 1) := by decide +kernel
theorem dL_add_47 : decode cL_add 47 = .ok (.putfield 9, 3) := by decide +kernel
theorem dL_add_50 : decode cL_add 50 = .ok (.return_, 1) := by decide +kernel
theorem dL_build_0 : decode cL_build 0 = .ok (.new 10, 3) := by decide +kernel
theorem dL_build_3 : decode cL_build 3 = .ok (.dup, 1) := by decide +kernel
theorem dL_build_4 : decode cL_build 4 = .ok (.invokespecial 62, 3) := by decide +kernel
theorem dL_build_7 : decode cL_build 7 = .ok (.astore_n 2, 1) := by decide +kernel
theorem dL_build_8 : decode cL_build 8 = .ok (.iconst 0, 1) := by decide +kernel
theorem dL_build_9 : decode cL_build 9 = .ok (.istore_n 3, 1) := by decide +kernel
theorem dL_build_10 : decode cL_build 10 = .ok (.iload_n 3, 1) := by decide +kernel
theorem dL_build_11 : decode cL_build 11 = .ok (.bipush 26, 2) := by decide +kernel
theorem dL_build_13 : decode cL_build 13 = .ok (.if_icmp .ge 76, 3) := by decide +kernel
theorem dL_build_16 : decode cL_build 16 = .ok (.aload_n 1, 1) := by decide +kernel
theorem dL_build_17 : decode cL_build 17 = .ok (.iload_n 3, 1) := by decide +kernel
theorem dL_build_18 : decode cL_build 18 = .ok (.bipush 16, 2) := by decide +kernel
theorem dL_build_20 : decode cL_build 20 = .ok (.irem, 1) := by decide +kernel
theorem dL_build_21 : decode cL_build 21 = .ok (.invokestatic 63, 3) := by decide +kernel
theorem dL_build_24 : decode cL_build 24 = .ok (.iload_n 3, 1) := by decide +kernel
theorem dL_build_25 : decode cL_build 25 = .ok (.bipush 16, 2) := by decide +kernel
theorem dL_build_27 : decode cL_build 27 = .ok (.idiv, 1) := by decide +kernel
theorem dL_build_28 : decode cL_build 28 = .ok (.iconst 5, 1) := by decide +kernel
theorem dL_build_29 : decode cL_build 29 = .ok (.imul, 1) := by decide +kernel
theorem dL_build_30 : decode cL_build 30 = .ok (.ishr, 1) := by decide +kernel
theorem dL_build_31 : decode cL_build 31 = .ok (.sipush 263, 3) := by decide +kernel
theorem dL_build_34 : decode cL_build 34 = .ok (.iload_n 3, 1) := by decide +kernel
theorem dL_build_35 : decode cL_build 35 = .ok (.imul, 1) := by decide +kernel
theorem dL_build_36 : decode cL_build 36 = .ok (.iadd, 1) := by decide +kernel
theorem dL_build_37 : decode cL_build 37 = .ok (.istore 4, 2) := by decide +kernel
theorem dL_build_39 : decode cL_build 39 = .ok (.iload_n 3, 1) := by decide +kernel
theorem dL_build_40 : decode cL_build 40 = .ok (.bipush 14, 2) := by decide +kernel
theorem dL_build_42 : decode cL_build 42 = .ok (.if_icmp .ge 29, 3) := by decide +kernel
theorem dL_build_45 : decode cL_build 45 = .ok (.bipush 12, 2) := by decide +kernel
theorem dL_build_47 : decode cL_build 47 = .ok (.iload 4, 2) := by decide +kernel
theorem dL_build_49 : decode cL_build 49 = .ok (.ldc 67, 2) := by decide +kernel
theorem dL_build_51 : decode cL_build 51 = .ok (.invokestatic 15, 3) := by decide +kernel
theorem dL_build_54 : decode cL_build 54 = .ok (.imul, 1) := by decide +kernel
theorem dL_build_55 : decode cL_build 55 = .ok (.iload_n 3, 1) := by decide +kernel
theorem dL_build_56 : decode cL_build 56 = .ok (.iconst 4, 1) := by decide +kernel
theorem dL_build_57 : decode cL_build 57 = .ok (.irem, 1) := by decide +kernel
theorem dL_build_58 : decode cL_build 58 = .ok (.iconst 3, 1) := by decide +kernel
theorem dL_build_59 : decode cL_build 59 = .ok (.if_icmp .ne 8, 3) := by decide +kernel
theorem dL_build_62 : decode cL_build 62 = .ok (.bipush 6, 2) := by decide +kernel
theorem dL_build_64 : decode cL_build 64 = .ok (.goto 4, 3) := by decide +kernel
theorem dL_build_67 : decode cL_build 67 = .ok (.iconst 2, 1) := by decide +kernel
theorem dL_build_68 : decode cL_build 68 = .ok (.iadd, 1) := by decide +kernel
theorem dL_build_69 : decode cL_build 69 = .ok (.istore 4, 2) := by decide +kernel
theorem dL_build_71 : decode cL_build 71 = .ok (.aload_n 0, 1) := by decide +kernel
theorem dL_build_72 : decode cL_build 72 = .ok (.aload_n 2, 1) := by decide +kernel
theorem dL_build_73 : decode cL_build 73 = .ok (.iload 4, 2) := by decide +kernel
theorem dL_build_75 : decode cL_build 75 = .ok (.invokestatic 68, 3) := by decide +kernel
theorem dL_build_78 : decode cL_build 78 = .ok (.ifCond .ne 5, 3) := by decide +kernel
theorem dL_build_81 : decode cL_build 81 = .ok (.aconst_null, 1) := by decide +kernel
theorem dL_build_82 : decode cL_build 82 = .ok (.areturn, 1) := by decide +kernel
theorem dL_build_83 : decode cL_build 83 = .ok (.iinc 3 1, 3) := by decide +kernel
theorem dL_build_86 : decode cL_build 86 = .ok (.goto (-76), 3) := by decide +kernel
theorem dL_build_89 : decode cL_build 89 = .ok (.aload_n 2, 1) := by decide +kernel
theorem dL_build_90 : decode cL_build 90 = .ok (.areturn, 1) := by decide +kernel
theorem dL_law_0 : decode cL_law 0 = .ok (.new 26, 3) := by decide +kernel
theorem dL_law_3 : decode cL_law 3 = .ok (.dup, 1) := by decide +kernel
theorem dL_law_4 : decode cL_law 4 = .ok (.invokespecial 72, 3) := by decide +kernel
theorem dL_law_7 : decode cL_law 7 = .ok (.astore_n 1, 1) := by decide +kernel
theorem dL_law_8 : decode cL_law 8 = .ok (.aload_n 1, 1) := by decide +kernel
theorem dL_law_9 : decode cL_law 9 = .ok (.aload_n 0, 1) := by decide +kernel
theorem dL_law_10 : decode cL_law 10 = .ok (.invokestatic 73, 3) := by decide +kernel
theorem dL_law_13 : decode cL_law 13 = .ok (.astore_n 2, 1) := by decide +kernel
theorem dL_law_14 : decode cL_law 14 = .ok (.aload_n 2, 1) := by decide +kernel
theorem dL_law_15 : decode cL_law 15 = .ok (.ifnonnull 5, 3) := by decide +kernel
theorem dL_law_18 : decode cL_law 18 = .ok (.iconst 0, 1) := by decide +kernel
theorem dL_law_19 : decode cL_law 19 = .ok (.ireturn, 1) := by decide +kernel
theorem dL_law_20 : decode cL_law 20 = .ok (.iconst 0, 1) := by decide +kernel
theorem dL_law_21 : decode cL_law 21 = .ok (.istore_n 3, 1) := by decide +kernel
theorem dL_law_22 : decode cL_law 22 = .ok (.iload_n 3, 1) := by decide +kernel
theorem dL_law_23 : decode cL_law 23 = .ok (.bipush 8, 2) := by decide +kernel
theorem dL_law_25 : decode cL_law 25 = .ok (.if_icmp .ge 1254, 3) := by decide +kernel
theorem dL_law_28 : decode cL_law 28 = .ok (.aload_n 0, 1) := by decide +kernel
theorem dL_law_29 : decode cL_law 29 = .ok (.iconst 3, 1) := by decide +kernel
theorem dL_law_30 : decode cL_law 30 = .ok (.iload_n 3, 1) := by decide +kernel
theorem dL_law_31 : decode cL_law 31 = .ok (.iadd, 1) := by decide +kernel
theorem dL_law_32 : decode cL_law 32 = .ok (.invokestatic 63, 3) := by decide +kernel
theorem dL_law_35 : decode cL_law 35 = .ok (.iconst 1, 1) := by decide +kernel
theorem dL_law_36 : decode cL_law 36 = .ok (.ishr, 1) := by decide +kernel
theorem dL_law_37 : decode cL_law 37 = .ok (.sipush 263, 3) := by decide +kernel
theorem dL_law_40 : decode cL_law 40 = .ok (.iload_n 3, 1) := by decide +kernel
theorem dL_law_41 : decode cL_law 41 = .ok (.imul, 1) := by decide +kernel
theorem dL_law_42 : decode cL_law 42 = .ok (.iadd, 1) := by decide +kernel
theorem dL_law_43 : decode cL_law 43 = .ok (.istore 4, 2) := by decide +kernel
theorem dL_law_45 : decode cL_law 45 = .ok (.iconst 0, 1) := by decide +kernel
theorem dL_law_46 : decode cL_law 46 = .ok (.istore 5, 2) := by decide +kernel
theorem dL_law_48 : decode cL_law 48 = .ok (.iload 5, 2) := by decide +kernel
theorem dL_law_50 : decode cL_law 50 = .ok (.iconst 2, 1) := by decide +kernel
theorem dL_law_51 : decode cL_law 51 = .ok (.if_icmp .ge 33, 3) := by decide +kernel
theorem dL_law_54 : decode cL_law 54 = .ok (.aload_n 1, 1) := by decide +kernel
theorem dL_law_55 : decode cL_law 55 = .ok (.aload_n 2, 1) := by decide +kernel
theorem dL_law_56 : decode cL_law 56 = .ok (.iload 4, 2) := by decide +kernel
theorem dL_law_58 : decode cL_law 58 = .ok (.iconst 2, 1) := by decide +kernel
theorem dL_law_59 : decode cL_law 59 = .ok (.iload 5, 2) := by decide +kernel
theorem dL_law_61 : decode cL_law 61 = .ok (.imul, 1) := by decide +kernel
theorem dL_law_62 : decode cL_law 62 = .ok (.ishr, 1) := by decide +kernel
theorem dL_law_63 : decode cL_law 63 = .ok (.sipush 193, 3) := by decide +kernel
theorem dL_law_66 : decode cL_law 66 = .ok (.iload 5, 2) := by decide +kernel
theorem dL_law_68 : decode cL_law 68 = .ok (.imul, 1) := by decide +kernel
theorem dL_law_69 : decode cL_law 69 = .ok (.iadd, 1) := by decide +kernel
theorem dL_law_70 : decode cL_law 70 = .ok (.invokestatic 68, 3) := by decide +kernel
theorem dL_law_73 : decode cL_law 73 = .ok (.ifCond .ne 5, 3) := by decide +kernel
theorem dL_law_76 : decode cL_law 76 = .ok (.iconst 0, 1) := by decide +kernel
theorem dL_law_77 : decode cL_law 77 = .ok (.ireturn, 1) := by decide +kernel
theorem dL_law_78 : decode cL_law 78 = .ok (.iinc 5 1, 3) := by decide +kernel
theorem dL_law_81 : decode cL_law 81 = .ok (.goto (-33), 3) := by decide +kernel
theorem dL_law_84 : decode cL_law 84 = .ok (.aload_n 1, 1) := by decide +kernel
theorem dL_law_85 : decode cL_law 85 = .ok (.iconst 0, 1) := by decide +kernel
theorem dL_law_86 : decode cL_law 86 = .ok (.invokevirtual 77, 3) := by decide +kernel
theorem dL_law_89 : decode cL_law 89 = .ok (.istore 5, 2) := by decide +kernel
theorem dL_law_91 : decode cL_law 91 = .ok (.aload_n 1, 1) := by decide +kernel
theorem dL_law_92 : decode cL_law 92 = .ok (.iconst 1, 1) := by decide +kernel
theorem dL_law_93 : decode cL_law 93 = .ok (.invokevirtual 77, 3) := by decide +kernel
theorem dL_law_96 : decode cL_law 96 = .ok (.istore 6, 2) := by decide +kernel
theorem dL_law_98 : decode cL_law 98 = .ok (.aload_n 1, 1) := by decide +kernel
theorem dL_law_99 : decode cL_law 99 = .ok (.invokevirtual 80, 3) := by decide +kernel
theorem dL_law_102 : decode cL_law 102 = .ok (.lstore 7, 2) := by decide +kernel
theorem dL_law_104 : decode cL_law 104 = .ok (.bipush 16, 2) := by decide +kernel
theorem dL_law_106 : decode cL_law 106 = .ok (.newarray .int, 2) := by decide +kernel
theorem dL_law_108 : decode cL_law 108 = .ok (.astore 9, 2) := by decide +kernel
theorem dL_law_110 : decode cL_law 110 = .ok (.iconst 0, 1) := by decide +kernel
theorem dL_law_111 : decode cL_law 111 = .ok (.istore 10, 2) := by decide +kernel
theorem dL_law_113 : decode cL_law 113 = .ok (.iconst 0, 1) := by decide +kernel
theorem dL_law_114 : decode cL_law 114 = .ok (.istore 11, 2) := by decide +kernel
theorem dL_law_116 : decode cL_law 116 = .ok (.iconst 0, 1) := by decide +kernel
theorem dL_law_117 : decode cL_law 117 = .ok (.istore 12, 2) := by decide +kernel
theorem dL_law_119 : decode cL_law 119 = .ok (.iconst 0, 1) := by decide +kernel
theorem dL_law_120 : decode cL_law 120 = .ok (.istore 13, 2) := by decide +kernel
theorem dL_law_122 : decode cL_law 122 = .ok (.iconst 0, 1) := by decide +kernel
theorem dL_law_123 : decode cL_law 123 = .ok (.istore 14, 2) := by decide +kernel
theorem dL_law_125 : decode cL_law 125 = .ok (.iload 14, 2) := by decide +kernel
theorem dL_law_127 : decode cL_law 127 = .ok (.iload 5, 2) := by decide +kernel
theorem dL_law_129 : decode cL_law 129 = .ok (.if_icmp .ge 411, 3) := by decide +kernel
theorem dL_law_132 : decode cL_law 132 = .ok (.aload_n 1, 1) := by decide +kernel
theorem dL_law_133 : decode cL_law 133 = .ok (.iload 14, 2) := by decide +kernel
theorem dL_law_135 : decode cL_law 135 = .ok (.iconst 0, 1) := by decide +kernel
theorem dL_law_136 : decode cL_law 136 = .ok (.invokevirtual 84, 3) := by decide +kernel
theorem dL_law_139 : decode cL_law 139 = .ok (.istore 15, 2) := by decide +kernel
theorem dL_law_141 : decode cL_law 141 = .ok (.aload_n 1, 1) := by decide +kernel
theorem dL_law_142 : decode cL_law 142 = .ok (.iload 14, 2) := by decide +kernel
theorem dL_law_144 : decode cL_law 144 = .ok (.iconst 1, 1) := by decide +kernel
theorem dL_law_145 : decode cL_law 145 = .ok (.invokevirtual 84, 3) := by decide +kernel
theorem dL_law_148 : decode cL_law 148 = .ok (.istore 16, 2) := by decide +kernel
theorem dL_law_150 : decode cL_law 150 = .ok (.aload_n 1, 1) := by decide +kernel
theorem dL_law_151 : decode cL_law 151 = .ok (.iload 14, 2) := by decide +kernel
theorem dL_law_153 : decode cL_law 153 = .ok (.iconst 2, 1) := by decide +kernel
theorem dL_law_154 : decode cL_law 154 = .ok (.invokevirtual 84, 3) := by decide +kernel
theorem dL_law_157 : decode cL_law 157 = .ok (.istore 17, 2) := by decide +kernel
theorem dL_law_159 : decode cL_law 159 = .ok (.aload_n 1, 1) := by decide +kernel
theorem dL_law_160 : decode cL_law 160 = .ok (.iload 14, 2) := by decide +kernel
theorem dL_law_162 : decode cL_law 162 = .ok (.iconst 3, 1) := by decide +kernel
theorem dL_law_163 : decode cL_law 163 = .ok (.invokevirtual 84, 3) := by decide +kernel
theorem dL_law_166 : decode cL_law 166 = .ok (.istore 18, 2) := by decide +kernel
theorem dL_law_168 : decode cL_law 168 = .ok (.aload_n 1, 1) := by decide +kernel
theorem dL_law_169 : decode cL_law 169 = .ok (.iload 14, 2) := by decide +kernel
theorem dL_law_171 : decode cL_law 171 = .ok (.iconst 4, 1) := by decide +kernel
theorem dL_law_172 : decode cL_law 172 = .ok (.invokevirtual 84, 3) := by decide +kernel
theorem dL_law_175 : decode cL_law 175 = .ok (.iconst 1, 1) := by decide +kernel
theorem dL_law_176 : decode cL_law 176 = .ok (.if_icmp .ne 7, 3) := by decide +kernel
theorem dL_law_179 : decode cL_law 179 = .ok (.iconst 1, 1) := by decide +kernel
theorem dL_law_180 : decode cL_law 180 = .ok (.goto 4, 3) := by decide +kernel
theorem dL_law_183 : decode cL_law 183 = .ok (.iconst 0, 1) := by decide +kernel
theorem dL_law_184 : decode cL_law 184 = .ok (.istore 19, 2) := by decide +kernel
theorem dL_law_186 : decode cL_law 186 = .ok (.aload 9, 2) := by decide +kernel
theorem dL_law_188 : decode cL_law 188 = .ok (.iload 15, 2) := by decide +kernel
theorem dL_law_190 : decode cL_law 190 = .ok (.dup2, 1) := by decide +kernel
theorem dL_law_191 : decode cL_law 191 = .ok (.iaload, 1) := by decide +kernel
theorem dL_law_192 : decode cL_law 192 = .ok (.iload 18, 2) := by decide +kernel
theorem dL_law_194 : decode cL_law 194 = .ok (.iadd, 1) := by decide +kernel
theorem dL_law_195 : decode cL_law 195 = .ok (.iastore, 1) := by decide +kernel
theorem dL_law_196 : decode cL_law 196 = .ok (.iload 16, 2) := by decide +kernel
theorem dL_law_198 : decode cL_law 198 = .ok (.ifCond .lt 13, 3) := by decide +kernel
theorem dL_law_201 : decode cL_law 201 = .ok (.aload 9, 2) := by decide +kernel
theorem dL_law_203 : decode cL_law 203 = .ok (.iload 16, 2) := by decide +kernel
theorem dL_law_205 : decode cL_law 205 = .ok (.dup2, 1) := by decide +kernel
theorem dL_law_206 : decode cL_law 206 = .ok (.iaload, 1) := by decide +kernel
theorem dL_law_207 : decode cL_law 207 = .ok (.iload 18, 2) := by decide +kernel
theorem dL_law_209 : decode cL_law 209 = .ok (.iadd, 1) := by decide +kernel
theorem dL_law_210 : decode cL_law 210 = .ok (.iastore, 1) := by decide +kernel
theorem dL_law_211 : decode cL_law 211 = .ok (.iload 17, 2) := by decide +kernel
theorem dL_law_213 : decode cL_law 213 = .ok (.ifCond .lt 13, 3) := by decide +kernel
theorem dL_law_216 : decode cL_law 216 = .ok (.aload 9, 2) := by decide +kernel
theorem dL_law_218 : decode cL_law 218 = .ok (.iload 17, 2) := by decide +kernel
theorem dL_law_220 : decode cL_law 220 = .ok (.dup2, 1) := by decide +kernel
theorem dL_law_221 : decode cL_law 221 = .ok (.iaload, 1) := by decide +kernel
theorem dL_law_222 : decode cL_law 222 = .ok (.iload 18, 2) := by decide +kernel
theorem dL_law_224 : decode cL_law 224 = .ok (.iadd, 1) := by decide +kernel
theorem dL_law_225 : decode cL_law 225 = .ok (.iastore, 1) := by decide +kernel
theorem dL_law_226 : decode cL_law 226 = .ok (.iconst 0, 1) := by decide +kernel
theorem dL_law_227 : decode cL_law 227 = .ok (.istore 20, 2) := by decide +kernel
theorem dL_law_229 : decode cL_law 229 = .ok (.iconst 0, 1) := by decide +kernel
theorem dL_law_230 : decode cL_law 230 = .ok (.istore 21, 2) := by decide +kernel
theorem dL_law_232 : decode cL_law 232 = .ok (.iload 21, 2) := by decide +kernel
theorem dL_law_234 : decode cL_law 234 = .ok (.bipush 16, 2) := by decide +kernel
theorem dL_law_236 : decode cL_law 236 = .ok (.if_icmp .ge 142, 3) := by decide +kernel
theorem dL_law_239 : decode cL_law 239 = .ok (.aload_n 1, 1) := by decide +kernel
theorem dL_law_240 : decode cL_law 240 = .ok (.iload 21, 2) := by decide +kernel
theorem dL_law_242 : decode cL_law 242 = .ok (.iload 14, 2) := by decide +kernel
theorem dL_law_244 : decode cL_law 244 = .ok (.invokevirtual 87, 3) := by decide +kernel
theorem dL_law_247 : decode cL_law 247 = .ok (.istore 22, 2) := by decide +kernel
theorem dL_law_249 : decode cL_law 249 = .ok (.iload 20, 2) := by decide +kernel
theorem dL_law_251 : decode cL_law 251 = .ok (.iload 22, 2) := by decide +kernel
theorem dL_law_253 : decode cL_law 253 = .ok (.ifCond .eq 7, 3) := by decide +kernel
theorem dL_law_256 : decode cL_law 256 = .ok (.iconst 1, 1) := by decide +kernel
theorem dL_law_257 : decode cL_law 257 = .ok (.goto 4, 3) := by decide +kernel
theorem dL_law_260 : decode cL_law 260 = .ok (.iconst 0, 1) := by decide +kernel
theorem dL_law_261 : decode cL_law 261 = .ok (.iadd, 1) := by decide +kernel
theorem dL_law_262 : decode cL_law 262 = .ok (.istore 20, 2) := by decide +kernel
theorem dL_law_264 : decode cL_law 264 = .ok (.iload 22, 2) := by decide +kernel
theorem dL_law_266 : decode cL_law 266 = .ok (.ifCond .eq 36, 3) := by decide +kernel
theorem dL_law_269 : decode cL_law 269 = .ok (.iload 21, 2) := by decide +kernel
theorem dL_law_271 : decode cL_law 271 = .ok (.iload 15, 2) := by decide +kernel
theorem dL_law_273 : decode cL_law 273 = .ok (.if_icmp .eq 29, 3) := by decide +kernel
theorem dL_law_276 : decode cL_law 276 = .ok (.aload_n 1, 1) := by decide +kernel
theorem dL_law_277 : decode cL_law 277 = .ok (.iload 21, 2) := by decide +kernel
theorem dL_law_279 : decode cL_law 279 = .ok (.iload 15, 2) := by decide +kernel
theorem dL_law_281 : decode cL_law 281 = .ok (.invokevirtual 91, 3) := by decide +kernel
theorem dL_law_284 : decode cL_law 284 = .ok (.iconst 1, 1) := by decide +kernel
theorem dL_law_285 : decode cL_law 285 = .ok (.if_icmp .eq 17, 3) := by decide +kernel
theorem dL_law_288 : decode cL_law 288 = .ok (.iload 19, 2) := by decide +kernel
theorem dL_law_290 : decode cL_law 290 = .ok (.ifCond .eq 10, 3) := by decide +kernel
theorem dL_law_293 : decode cL_law 293 = .ok (.iload 16, 2) := by decide +kernel
theorem dL_law_295 : decode cL_law 295 = .ok (.iload 21, 2) := by decide +kernel
theorem dL_law_297 : decode cL_law 297 = .ok (.if_icmp .eq 5, 3) := by decide +kernel
theorem dL_law_300 : decode cL_law 300 = .ok (.iconst 0, 1) := by decide +kernel
theorem dL_law_301 : decode cL_law 301 = .ok (.ireturn, 1) := by decide +kernel
theorem dL_law_302 : decode cL_law 302 = .ok (.iload 14, 2) := by decide +kernel
theorem dL_law_304 : decode cL_law 304 = .ok (.ifCond .ne 6, 3) := by decide +kernel
theorem dL_law_307 : decode cL_law 307 = .ok (.goto 65, 3) := by decide +kernel
theorem dL_law_310 : decode cL_law 310 = .ok (.aload_n 1, 1) := by decide +kernel
theorem dL_law_311 : decode cL_law 311 = .ok (.iload 21, 2) := by decide +kernel
theorem dL_law_313 : decode cL_law 313 = .ok (.iload 14, 2) := by decide +kernel
theorem dL_law_315 : decode cL_law 315 = .ok (.iconst 1, 1) := by decide +kernel
theorem dL_law_316 : decode cL_law 316 = .ok (.isub, 1) := by decide +kernel
theorem dL_law_317 : decode cL_law 317 = .ok (.invokevirtual 87, 3) := by decide +kernel
theorem dL_law_320 : decode cL_law 320 = .ok (.istore 23, 2) := by decide +kernel
theorem dL_law_322 : decode cL_law 322 = .ok (.iload 21, 2) := by decide +kernel
theorem dL_law_324 : decode cL_law 324 = .ok (.iload 16, 2) := by decide +kernel
theorem dL_law_326 : decode cL_law 326 = .ok (.if_icmp .eq 10, 3) := by decide +kernel
theorem dL_law_329 : decode cL_law 329 = .ok (.iload 21, 2) := by decide +kernel
theorem dL_law_331 : decode cL_law 331 = .ok (.iload 17, 2) := by decide +kernel
theorem dL_law_333 : decode cL_law 333 = .ok (.if_icmp .ne 7, 3) := by decide +kernel
theorem dL_law_336 : decode cL_law 336 = .ok (.iconst 1, 1) := by decide +kernel
theorem dL_law_337 : decode cL_law 337 = .ok (.goto 4, 3) := by decide +kernel
theorem dL_law_340 : decode cL_law 340 = .ok (.iconst 0, 1) := by decide +kernel
theorem dL_law_341 : decode cL_law 341 = .ok (.istore 24, 2) := by decide +kernel
theorem dL_law_343 : decode cL_law 343 = .ok (.iload 23, 2) := by decide +kernel
theorem dL_law_345 : decode cL_law 345 = .ok (.iload 24, 2) := by decide +kernel
theorem dL_law_347 : decode cL_law 347 = .ok (.ifCond .ne 15, 3) := by decide +kernel
theorem dL_law_350 : decode cL_law 350 = .ok (.iload 22, 2) := by decide +kernel
theorem dL_law_352 : decode cL_law 352 = .ok (.ifCond .eq 14, 3) := by decide +kernel
theorem dL_law_355 : decode cL_law 355 = .ok (.iload 21, 2) := by decide +kernel
theorem dL_law_357 : decode cL_law 357 = .ok (.iload 15, 2) := by decide +kernel
theorem dL_law_359 : decode cL_law 359 = .ok (.if_icmp .eq 7, 3) := by decide +kernel
theorem dL_law_362 : decode cL_law 362 = .ok (.iconst 1, 1) := by decide +kernel
theorem dL_law_363 : decode cL_law 363 = .ok (.goto 4, 3) := by decide +kernel
theorem dL_law_366 : decode cL_law 366 = .ok (.iconst 0, 1) := by decide +kernel
theorem dL_law_367 : decode cL_law 367 = .ok (.if_icmp .eq 5, 3) := by decide +kernel
theorem dL_law_370 : decode cL_law 370 = .ok (.iconst 0, 1) := by decide +kernel
theorem dL_law_371 : decode cL_law 371 = .ok (.ireturn, 1) := by decide +kernel
theorem dL_law_372 : decode cL_law 372 = .ok (.iinc 21 1, 3) := by decide +kernel
theorem dL_law_375 : decode cL_law 375 = .ok (.goto (-143), 3) := by decide +kernel
theorem dL_law_378 : decode cL_law 378 = .ok (.iload 13, 2) := by decide +kernel
theorem dL_law_380 : decode cL_law 380 = .ok (.iload 20, 2) := by decide +kernel
theorem dL_law_382 : decode cL_law 382 = .ok (.iadd, 1) := by decide +kernel
theorem dL_law_383 : decode cL_law 383 = .ok (.istore 13, 2) := by decide +kernel
theorem dL_law_385 : decode cL_law 385 = .ok (.iload 20, 2) := by decide +kernel
theorem dL_law_387 : decode cL_law 387 = .ok (.aload_n 1, 1) := by decide +kernel
theorem dL_law_388 : decode cL_law 388 = .ok (.iload 14, 2) := by decide +kernel
theorem dL_law_390 : decode cL_law 390 = .ok (.iconst 5, 1) := by decide +kernel
theorem dL_law_391 : decode cL_law 391 = .ok (.invokevirtual 84, 3) := by decide +kernel
theorem dL_law_394 : decode cL_law 394 = .ok (.if_icmp .ne 53, 3) := by decide +kernel
theorem dL_law_397 : decode cL_law 397 = .ok (.iload 20, 2) := by decide +kernel
theorem dL_law_399 : decode cL_law 399 = .ok (.aload_n 1, 1) := by decide +kernel
theorem dL_law_400 : decode cL_law 400 = .ok (.invokevirtual 94, 3) := by decide +kernel
theorem dL_law_403 : decode cL_law 403 = .ok (.if_icmp .gt 44, 3) := by decide +kernel
theorem dL_law_406 : decode cL_law 406 = .ok (.iload 14, 2) := by decide +kernel
theorem dL_law_408 : decode cL_law 408 = .ok (.ifCond .le 23, 3) := by decide +kernel
theorem dL_law_411 : decode cL_law 411 = .ok (.aload_n 1, 1) := by decide +kernel
theorem dL_law_412 : decode cL_law 412 = .ok (.iload 14, 2) := by decide +kernel
theorem dL_law_414 : decode cL_law 414 = .ok (.bipush 6, 2) := by decide +kernel
theorem dL_law_416 : decode cL_law 416 = .ok (.invokevirtual 84, 3) := by decide +kernel
theorem dL_law_419 : decode cL_law 419 = .ok (.aload_n 1, 1) := by decide +kernel
theorem dL_law_420 : decode cL_law 420 = .ok (.iload 14, 2) := by decide +kernel
theorem dL_law_422 : decode cL_law 422 = .ok (.iconst 1, 1) := by decide +kernel
theorem dL_law_423 : decode cL_law 423 = .ok (.isub, 1) := by decide +kernel
theorem dL_law_424 : decode cL_law 424 = .ok (.iconst 5, 1) := by decide +kernel
theorem dL_law_425 : decode cL_law 425 = .ok (.invokevirtual 84, 3) := by decide +kernel
theorem dL_law_428 : decode cL_law 428 = .ok (.if_icmp .ne 19, 3) := by decide +kernel
theorem dL_law_431 : decode cL_law 431 = .ok (.iload 19, 2) := by decide +kernel
theorem dL_law_433 : decode cL_law 433 = .ok (.ifCond .eq 16, 3) := by decide +kernel
theorem dL_law_436 : decode cL_law 436 = .ok (.iload 17, 2) := by decide +kernel
theorem dL_law_438 : decode cL_law 438 = .ok (.iconst (-1), 1) := by decide +kernel
theorem dL_law_439 : decode cL_law 439 = .ok (.if_icmp .ne 8, 3) := by decide +kernel
theorem dL_law_442 : decode cL_law 442 = .ok (.iload 16, 2) := by decide +kernel
theorem dL_law_444 : decode cL_law 444 = .ok (.ifCond .ge 5, 3) := by decide +kernel
theorem dL_law_447 : decode cL_law 447 = .ok (.iconst 0, 1) := by decide +kernel
theorem dL_law_448 : decode cL_law 448 = .ok (.ireturn, 1) := by decide +kernel
theorem dL_law_449 : decode cL_law 449 = .ok (.iload 19, 2) := by decide +kernel
theorem dL_law_451 : decode cL_law 451 = .ok (.ifCond .eq 34, 3) := by decide +kernel
theorem dL_law_454 : decode cL_law 454 = .ok (.aload_n 1, 1) := by decide +kernel
theorem dL_law_455 : decode cL_law 455 = .ok (.iload 15, 2) := by decide +kernel
theorem dL_law_457 : decode cL_law 457 = .ok (.iconst 3, 1) := by decide +kernel
theorem dL_law_458 : decode cL_law 458 = .ok (.invokevirtual 98, 3) := by decide +kernel
theorem dL_law_461 : decode cL_law 461 = .ok (.ifCond .lt 24, 3) := by decide +kernel
theorem dL_law_464 : decode cL_law 464 = .ok (.aload_n 1, 1) := by decide +kernel
theorem dL_law_465 : decode cL_law 465 = .ok (.iload 15, 2) := by decide +kernel
theorem dL_law_467 : decode cL_law 467 = .ok (.iconst 3, 1) := by decide +kernel
theorem dL_law_468 : decode cL_law 468 = .ok (.invokevirtual 98, 3) := by decide +kernel
theorem dL_law_471 : decode cL_law 471 = .ok (.aload_n 1, 1) := by decide +kernel
theorem dL_law_472 : decode cL_law 472 = .ok (.iload 16, 2) := by decide +kernel
theorem dL_law_474 : decode cL_law 474 = .ok (.iconst 3, 1) := by decide +kernel
theorem dL_law_475 : decode cL_law 475 = .ok (.invokevirtual 98, 3) := by decide +kernel
theorem dL_law_478 : decode cL_law 478 = .ok (.if_icmp .ne 7, 3) := by decide +kernel
theorem dL_law_481 : decode cL_law 481 = .ok (.iconst 1, 1) := by decide +kernel
theorem dL_law_482 : decode cL_law 482 = .ok (.goto 4, 3) := by decide +kernel
theorem dL_law_485 : decode cL_law 485 = .ok (.iconst 0, 1) := by decide +kernel
theorem dL_law_486 : decode cL_law 486 = .ok (.istore 21, 2) := by decide +kernel
theorem dL_law_488 : decode cL_law 488 = .ok (.iload 10, 2) := by decide +kernel
theorem dL_law_490 : decode cL_law 490 = .ok (.iload 19, 2) := by decide +kernel
theorem dL_law_492 : decode cL_law 492 = .ok (.ifCond .eq 7, 3) := by decide +kernel
theorem dL_law_495 : decode cL_law 495 = .ok (.iconst 1, 1) := by decide +kernel
theorem dL_law_496 : decode cL_law 496 = .ok (.goto 4, 3) := by decide +kernel
theorem dL_law_499 : decode cL_law 499 = .ok (.iconst 0, 1) := by decide +kernel
theorem dL_law_500 : decode cL_law 500 = .ok (.iadd, 1) := by decide +kernel
theorem dL_law_501 : decode cL_law 501 = .ok (.istore 10, 2) := by decide +kernel
theorem dL_law_503 : decode cL_law 503 = .ok (.iload 11, 2) := by decide +kernel
theorem dL_law_505 : decode cL_law 505 = .ok (.iload 21, 2) := by decide +kernel
theorem dL_law_507 : decode cL_law 507 = .ok (.ifCond .eq 7, 3) := by decide +kernel
theorem dL_law_510 : decode cL_law 510 = .ok (.iconst 1, 1) := by decide +kernel
theorem dL_law_511 : decode cL_law 511 = .ok (.goto 4, 3) := by decide +kernel
theorem dL_law_514 : decode cL_law 514 = .ok (.iconst 0, 1) := by decide +kernel
theorem dL_law_515 : decode cL_law 515 = .ok (.iadd, 1) := by decide +kernel
theorem dL_law_516 : decode cL_law 516 = .ok (.istore 11, 2) := by decide +kernel
theorem dL_law_518 : decode cL_law 518 = .ok (.iload 12, 2) := by decide +kernel
theorem dL_law_520 : decode cL_law 520 = .ok (.iload 21, 2) := by decide +kernel
theorem dL_law_522 : decode cL_law 522 = .ok (.ifCond .eq 7, 3) := by decide +kernel
theorem dL_law_525 : decode cL_law 525 = .ok (.iconst 0, 1) := by decide +kernel
theorem dL_law_526 : decode cL_law 526 = .ok (.goto 5, 3) := by decide +kernel
theorem dL_law_529 : decode cL_law 529 = .ok (.iload 18, 2) := by decide +kernel
theorem dL_law_531 : decode cL_law 531 = .ok (.iadd, 1) := by decide +kernel
theorem dL_law_532 : decode cL_law 532 = .ok (.istore 12, 2) := by decide +kernel
theorem dL_law_534 : decode cL_law 534 = .ok (.iinc 14 1, 3) := by decide +kernel
theorem dL_law_537 : decode cL_law 537 = .ok (.goto (-412), 3) := by decide +kernel
theorem dL_law_540 : decode cL_law 540 = .ok (.iload 10, 2) := by decide +kernel
theorem dL_law_542 : decode cL_law 542 = .ok (.aload_n 1, 1) := by decide +kernel
theorem dL_law_543 : decode cL_law 543 = .ok (.bipush 6, 2) := by decide +kernel
theorem dL_law_545 : decode cL_law 545 = .ok (.invokevirtual 77, 3) := by decide +kernel
theorem dL_law_548 : decode cL_law 548 = .ok (.if_icmp .ne 49, 3) := by decide +kernel
theorem dL_law_551 : decode cL_law 551 = .ok (.iload 11, 2) := by decide +kernel
theorem dL_law_553 : decode cL_law 553 = .ok (.aload_n 1, 1) := by decide +kernel
theorem dL_law_554 : decode cL_law 554 = .ok (.bipush 7, 2) := by decide +kernel
theorem dL_law_556 : decode cL_law 556 = .ok (.invokevirtual 77, 3) := by decide +kernel
theorem dL_law_559 : decode cL_law 559 = .ok (.if_icmp .ne 38, 3) := by decide +kernel
theorem dL_law_562 : decode cL_law 562 = .ok (.iload 12, 2) := by decide +kernel
theorem dL_law_564 : decode cL_law 564 = .ok (.aload_n 1, 1) := by decide +kernel
theorem dL_law_565 : decode cL_law 565 = .ok (.bipush 9, 2) := by decide +kernel
theorem dL_law_567 : decode cL_law 567 = .ok (.invokevirtual 77, 3) := by decide +kernel
theorem dL_law_570 : decode cL_law 570 = .ok (.if_icmp .ne 27, 3) := by decide +kernel
theorem dL_law_573 : decode cL_law 573 = .ok (.aload_n 1, 1) := by decide +kernel
theorem dL_law_574 : decode cL_law 574 = .ok (.invokevirtual 101, 3) := by decide +kernel
theorem dL_law_577 : decode cL_law 577 = .ok (.iload 5, 2) := by decide +kernel
theorem dL_law_579 : decode cL_law 579 = .ok (.ifCond .ne 7, 3) := by decide +kernel
theorem dL_law_582 : decode cL_law 582 = .ok (.dconst 0, 1) := by decide +kernel
theorem dL_law_583 : decode cL_law 583 = .ok (.goto 10, 3) := by decide +kernel
theorem dL_law_586 : decode cL_law 586 = .ok (.iload 13, 2) := by decide +kernel
theorem dL_law_588 : decode cL_law 588 = .ok (.i2d, 1) := by decide +kernel
theorem dL_law_589 : decode cL_law 589 = .ok (.iload 5, 2) := by decide +kernel
theorem dL_law_591 : decode cL_law 591 = .ok (.i2d, 1) := by decide +kernel
theorem dL_law_592 : decode cL_law 592 = .ok (.ddiv, 1) := by decide +kernel
theorem dL_law_593 : decode cL_law 593 = .ok (.dcmp .l, 1) := by decide +kernel
theorem dL_law_594 : decode cL_law 594 = .ok (.ifCond .eq 5, 3) := by decide +kernel
theorem dL_law_597 : decode cL_law 597 = .ok (.iconst 0, 1) := by decide +kernel
theorem dL_law_598 : decode cL_law 598 = .ok (.ireturn, 1) := by decide +kernel
theorem dL_law_599 : decode cL_law 599 = .ok (.iconst 0, 1) := by decide +kernel
theorem dL_law_600 : decode cL_law 600 = .ok (.istore 14, 2) := by decide +kernel
theorem dL_law_602 : decode cL_law 602 = .ok (.iconst 0, 1) := by decide +kernel
theorem dL_law_603 : decode cL_law 603 = .ok (.istore 15, 2) := by decide +kernel
theorem dL_law_605 : decode cL_law 605 = .ok (.iconst 0, 1) := by decide +kernel
theorem dL_law_606 : decode cL_law 606 = .ok (.istore 16, 2) := by decide +kernel
theorem dL_law_608 : decode cL_law 608 = .ok (.iconst 0, 1) := by decide +kernel
theorem dL_law_609 : decode cL_law 609 = .ok (.istore 17, 2) := by decide +kernel
theorem dL_law_611 : decode cL_law 611 = .ok (.bipush 8, 2) := by decide +kernel
theorem dL_law_613 : decode cL_law 613 = .ok (.newarray .int, 2) := by decide +kernel
theorem dL_law_615 : decode cL_law 615 = .ok (.astore 18, 2) := by decide +kernel
theorem dL_law_617 : decode cL_law 617 = .ok (.iconst 0, 1) := by decide +kernel
theorem dL_law_618 : decode cL_law 618 = .ok (.istore 19, 2) := by decide +kernel
theorem dL_law_620 : decode cL_law 620 = .ok (.iload 19, 2) := by decide +kernel
theorem dL_law_622 : decode cL_law 622 = .ok (.bipush 16, 2) := by decide +kernel
theorem dL_law_624 : decode cL_law 624 = .ok (.if_icmp .ge 329, 3) := by decide +kernel
theorem dL_law_627 : decode cL_law 627 = .ok (.aload_n 1, 1) := by decide +kernel
theorem dL_law_628 : decode cL_law 628 = .ok (.iload 19, 2) := by decide +kernel
theorem dL_law_630 : decode cL_law 630 = .ok (.iconst 3, 1) := by decide +kernel
theorem dL_law_631 : decode cL_law 631 = .ok (.invokevirtual 98, 3) := by decide +kernel
theorem dL_law_634 : decode cL_law 634 = .ok (.istore 20, 2) := by decide +kernel
theorem dL_law_636 : decode cL_law 636 = .ok (.aload_n 1, 1) := by decide +kernel
theorem dL_law_637 : decode cL_law 637 = .ok (.iload 19, 2) := by decide +kernel
theorem dL_law_639 : decode cL_law 639 = .ok (.iconst 0, 1) := by decide +kernel
theorem dL_law_640 : decode cL_law 640 = .ok (.invokevirtual 98, 3) := by decide +kernel
theorem dL_law_643 : decode cL_law 643 = .ok (.iconst 1, 1) := by decide +kernel
theorem dL_law_644 : decode cL_law 644 = .ok (.if_icmp .ne 7, 3) := by decide +kernel
theorem dL_law_647 : decode cL_law 647 = .ok (.iconst 1, 1) := by decide +kernel
theorem dL_law_648 : decode cL_law 648 = .ok (.goto 4, 3) := by decide +kernel
theorem dL_law_651 : decode cL_law 651 = .ok (.iconst 0, 1) := by decide +kernel
theorem dL_law_652 : decode cL_law 652 = .ok (.istore 21, 2) := by decide +kernel
theorem dL_law_654 : decode cL_law 654 = .ok (.iconst 0, 1) := by decide +kernel
theorem dL_law_655 : decode cL_law 655 = .ok (.istore 22, 2) := by decide +kernel
theorem dL_law_657 : decode cL_law 657 = .ok (.iconst 0, 1) := by decide +kernel
theorem dL_law_658 : decode cL_law 658 = .ok (.istore 23, 2) := by decide +kernel
theorem dL_law_660 : decode cL_law 660 = .ok (.iconst 0, 1) := by decide +kernel
theorem dL_law_661 : decode cL_law 661 = .ok (.istore 24, 2) := by decide +kernel
theorem dL_law_663 : decode cL_law 663 = .ok (.iload 24, 2) := by decide +kernel
theorem dL_law_665 : decode cL_law 665 = .ok (.bipush 16, 2) := by decide +kernel
theorem dL_law_667 : decode cL_law 667 = .ok (.if_icmp .ge 107, 3) := by decide +kernel
theorem dL_law_670 : decode cL_law 670 = .ok (.aload_n 1, 1) := by decide +kernel
theorem dL_law_671 : decode cL_law 671 = .ok (.iload 19, 2) := by decide +kernel
theorem dL_law_673 : decode cL_law 673 = .ok (.iload 24, 2) := by decide +kernel
theorem dL_law_675 : decode cL_law 675 = .ok (.invokevirtual 91, 3) := by decide +kernel
theorem dL_law_678 : decode cL_law 678 = .ok (.aload_n 1, 1) := by decide +kernel
theorem dL_law_679 : decode cL_law 679 = .ok (.iload 24, 2) := by decide +kernel
theorem dL_law_681 : decode cL_law 681 = .ok (.iload 19, 2) := by decide +kernel
theorem dL_law_683 : decode cL_law 683 = .ok (.invokevirtual 91, 3) := by decide +kernel
theorem dL_law_686 : decode cL_law 686 = .ok (.if_icmp .ne 21, 3) := by decide +kernel
theorem dL_law_689 : decode cL_law 689 = .ok (.iload 19, 2) := by decide +kernel
theorem dL_law_691 : decode cL_law 691 = .ok (.iload 24, 2) := by decide +kernel
theorem dL_law_693 : decode cL_law 693 = .ok (.if_icmp .ne 16, 3) := by decide +kernel
theorem dL_law_696 : decode cL_law 696 = .ok (.aload_n 1, 1) := by decide +kernel
theorem dL_law_697 : decode cL_law 697 = .ok (.iload 19, 2) := by decide +kernel
theorem dL_law_699 : decode cL_law 699 = .ok (.iload 24, 2) := by decide +kernel
theorem dL_law_701 : decode cL_law 701 = .ok (.invokevirtual 91, 3) := by decide +kernel
theorem dL_law_704 : decode cL_law 704 = .ok (.ifCond .eq 5, 3) := by decide +kernel
theorem dL_law_707 : decode cL_law 707 = .ok (.iconst 0, 1) := by decide +kernel
theorem dL_law_708 : decode cL_law 708 = .ok (.ireturn, 1) := by decide +kernel
theorem dL_law_709 : decode cL_law 709 = .ok (.aload_n 1, 1) := by decide +kernel
theorem dL_law_710 : decode cL_law 710 = .ok (.iload 19, 2) := by decide +kernel
theorem dL_law_712 : decode cL_law 712 = .ok (.iload 24, 2) := by decide +kernel
theorem dL_law_714 : decode cL_law 714 = .ok (.invokevirtual 91, 3) := by decide +kernel
theorem dL_law_717 : decode cL_law 717 = .ok (.ifCond .ne 6, 3) := by decide +kernel
theorem dL_law_720 : decode cL_law 720 = .ok (.goto 48, 3) := by decide +kernel
theorem dL_law_723 : decode cL_law 723 = .ok (.iinc 22 1, 3) := by decide +kernel
theorem dL_law_726 : decode cL_law 726 = .ok (.aload_n 1, 1) := by decide +kernel
theorem dL_law_727 : decode cL_law 727 = .ok (.iload 24, 2) := by decide +kernel
theorem dL_law_729 : decode cL_law 729 = .ok (.iconst 3, 1) := by decide +kernel
theorem dL_law_730 : decode cL_law 730 = .ok (.invokevirtual 98, 3) := by decide +kernel
theorem dL_law_733 : decode cL_law 733 = .ok (.istore 25, 2) := by decide +kernel
theorem dL_law_735 : decode cL_law 735 = .ok (.iload 25, 2) := by decide +kernel
theorem dL_law_737 : decode cL_law 737 = .ok (.ifCond .lt 12, 3) := by decide +kernel
theorem dL_law_740 : decode cL_law 740 = .ok (.iload 23, 2) := by decide +kernel
theorem dL_law_742 : decode cL_law 742 = .ok (.iconst 1, 1) := by decide +kernel
theorem dL_law_743 : decode cL_law 743 = .ok (.iload 25, 2) := by decide +kernel
theorem dL_law_745 : decode cL_law 745 = .ok (.ishl, 1) := by decide +kernel
theorem dL_law_746 : decode cL_law 746 = .ok (.ior, 1) := by decide +kernel
theorem dL_law_747 : decode cL_law 747 = .ok (.istore 23, 2) := by decide +kernel
theorem dL_law_749 : decode cL_law 749 = .ok (.iload 20, 2) := by decide +kernel
theorem dL_law_751 : decode cL_law 751 = .ok (.ifCond .lt 10, 3) := by decide +kernel
theorem dL_law_754 : decode cL_law 754 = .ok (.iload 20, 2) := by decide +kernel
theorem dL_law_756 : decode cL_law 756 = .ok (.iload 25, 2) := by decide +kernel
theorem dL_law_758 : decode cL_law 758 = .ok (.if_icmp .eq 8, 3) := by decide +kernel
theorem dL_law_761 : decode cL_law 761 = .ok (.iload 21, 2) := by decide +kernel
theorem dL_law_763 : decode cL_law 763 = .ok (.ifCond .ne 5, 3) := by decide +kernel
theorem dL_law_766 : decode cL_law 766 = .ok (.iconst 0, 1) := by decide +kernel
theorem dL_law_767 : decode cL_law 767 = .ok (.ireturn, 1) := by decide +kernel
theorem dL_law_768 : decode cL_law 768 = .ok (.iinc 24 1, 3) := by decide +kernel
theorem dL_law_771 : decode cL_law 771 = .ok (.goto (-108), 3) := by decide +kernel
theorem dL_law_774 : decode cL_law 774 = .ok (.iload 14, 2) := by decide +kernel
theorem dL_law_776 : decode cL_law 776 = .ok (.iload 21, 2) := by decide +kernel
theorem dL_law_778 : decode cL_law 778 = .ok (.ifCond .eq 7, 3) := by decide +kernel
theorem dL_law_781 : decode cL_law 781 = .ok (.iconst 1, 1) := by decide +kernel
theorem dL_law_782 : decode cL_law 782 = .ok (.goto 4, 3) := by decide +kernel
theorem dL_law_785 : decode cL_law 785 = .ok (.iconst 0, 1) := by decide +kernel
theorem dL_law_786 : decode cL_law 786 = .ok (.iadd, 1) := by decide +kernel
theorem dL_law_787 : decode cL_law 787 = .ok (.istore 14, 2) := by decide +kernel
theorem dL_law_789 : decode cL_law 789 = .ok (.iload 17, 2) := by decide +kernel
theorem dL_law_791 : decode cL_law 791 = .ok (.iload 22, 2) := by decide +kernel
theorem dL_law_793 : decode cL_law 793 = .ok (.iadd, 1) := by decide +kernel
theorem dL_law_794 : decode cL_law 794 = .ok (.istore 17, 2) := by decide +kernel
theorem dL_law_796 : decode cL_law 796 = .ok (.iload 20, 2) := by decide +kernel
theorem dL_law_798 : decode cL_law 798 = .ok (.iload 6, 2) := by decide +kernel
theorem dL_law_800 : decode cL_law 800 = .ok (.if_icmp .ge 92, 3) := by decide +kernel
theorem dL_law_803 : decode cL_law 803 = .ok (.iload 21, 2) := by decide +kernel
theorem dL_law_805 : decode cL_law 805 = .ok (.ifCond .ne 26, 3) := by decide +kernel
theorem dL_law_808 : decode cL_law 808 = .ok (.iload 20, 2) := by decide +kernel
theorem dL_law_810 : decode cL_law 810 = .ok (.ifCond .ge 82, 3) := by decide +kernel
theorem dL_law_813 : decode cL_law 813 = .ok (.aload_n 1, 1) := by decide +kernel
theorem dL_law_814 : decode cL_law 814 = .ok (.iload 19, 2) := by decide +kernel
theorem dL_law_816 : decode cL_law 816 = .ok (.iconst 4, 1) := by decide +kernel
theorem dL_law_817 : decode cL_law 817 = .ok (.invokevirtual 98, 3) := by decide +kernel
theorem dL_law_820 : decode cL_law 820 = .ok (.ifCond .ge 72, 3) := by decide +kernel
theorem dL_law_823 : decode cL_law 823 = .ok (.aload 9, 2) := by decide +kernel
theorem dL_law_825 : decode cL_law 825 = .ok (.iload 19, 2) := by decide +kernel
theorem dL_law_827 : decode cL_law 827 = .ok (.iaload, 1) := by decide +kernel
theorem dL_law_828 : decode cL_law 828 = .ok (.ifCond .gt 64, 3) := by decide +kernel
theorem dL_law_831 : decode cL_law 831 = .ok (.aload_n 1, 1) := by decide +kernel
theorem dL_law_832 : decode cL_law 832 = .ok (.iload 19, 2) := by decide +kernel
theorem dL_law_834 : decode cL_law 834 = .ok (.iconst 1, 1) := by decide +kernel
theorem dL_law_835 : decode cL_law 835 = .ok (.invokevirtual 98, 3) := by decide +kernel
theorem dL_law_838 : decode cL_law 838 = .ok (.aload 9, 2) := by decide +kernel
theorem dL_law_840 : decode cL_law 840 = .ok (.iload 19, 2) := by decide +kernel
theorem dL_law_842 : decode cL_law 842 = .ok (.iaload, 1) := by decide +kernel
theorem dL_law_843 : decode cL_law 843 = .ok (.if_icmp .ne 49, 3) := by decide +kernel
theorem dL_law_846 : decode cL_law 846 = .ok (.aload_n 1, 1) := by decide +kernel
theorem dL_law_847 : decode cL_law 847 = .ok (.iload 19, 2) := by decide +kernel
theorem dL_law_849 : decode cL_law 849 = .ok (.iconst 2, 1) := by decide +kernel
theorem dL_law_850 : decode cL_law 850 = .ok (.invokevirtual 98, 3) := by decide +kernel
theorem dL_law_853 : decode cL_law 853 = .ok (.iload 22, 2) := by decide +kernel
theorem dL_law_855 : decode cL_law 855 = .ok (.if_icmp .ne 37, 3) := by decide +kernel
theorem dL_law_858 : decode cL_law 858 = .ok (.aload_n 1, 1) := by decide +kernel
theorem dL_law_859 : decode cL_law 859 = .ok (.iload 19, 2) := by decide +kernel
theorem dL_law_861 : decode cL_law 861 = .ok (.iconst 5, 1) := by decide +kernel
theorem dL_law_862 : decode cL_law 862 = .ok (.invokevirtual 98, 3) := by decide +kernel
theorem dL_law_865 : decode cL_law 865 = .ok (.iconst 1, 1) := by decide +kernel
theorem dL_law_866 : decode cL_law 866 = .ok (.if_icmp .ne 7, 3) := by decide +kernel
theorem dL_law_869 : decode cL_law 869 = .ok (.iconst 1, 1) := by decide +kernel
theorem dL_law_870 : decode cL_law 870 = .ok (.goto 4, 3) := by decide +kernel
theorem dL_law_873 : decode cL_law 873 = .ok (.iconst 0, 1) := by decide +kernel
theorem dL_law_874 : decode cL_law 874 = .ok (.iload 21, 2) := by decide +kernel
theorem dL_law_876 : decode cL_law 876 = .ok (.ifCond .eq 12, 3) := by decide +kernel
theorem dL_law_879 : decode cL_law 879 = .ok (.iload 20, 2) := by decide +kernel
theorem dL_law_881 : decode cL_law 881 = .ok (.ifCond .ge 7, 3) := by decide +kernel
theorem dL_law_884 : decode cL_law 884 = .ok (.iconst 1, 1) := by decide +kernel
theorem dL_law_885 : decode cL_law 885 = .ok (.goto 4, 3) := by decide +kernel
theorem dL_law_888 : decode cL_law 888 = .ok (.iconst 0, 1) := by decide +kernel
theorem dL_law_889 : decode cL_law 889 = .ok (.if_icmp .eq 5, 3) := by decide +kernel
theorem dL_law_892 : decode cL_law 892 = .ok (.iconst 0, 1) := by decide +kernel
theorem dL_law_893 : decode cL_law 893 = .ok (.ireturn, 1) := by decide +kernel
theorem dL_law_894 : decode cL_law 894 = .ok (.iload 20, 2) := by decide +kernel
theorem dL_law_896 : decode cL_law 896 = .ok (.ifCond .lt 12, 3) := by decide +kernel
theorem dL_law_899 : decode cL_law 899 = .ok (.aload 18, 2) := by decide +kernel
theorem dL_law_901 : decode cL_law 901 = .ok (.iload 20, 2) := by decide +kernel
theorem dL_law_903 : decode cL_law 903 = .ok (.dup2, 1) := by decide +kernel
theorem dL_law_904 : decode cL_law 904 = .ok (.iaload, 1) := by decide +kernel
theorem dL_law_905 : decode cL_law 905 = .ok (.iconst 1, 1) := by decide +kernel
theorem dL_law_906 : decode cL_law 906 = .ok (.iadd, 1) := by decide +kernel
theorem dL_law_907 : decode cL_law 907 = .ok (.iastore, 1) := by decide +kernel
theorem dL_law_908 : decode cL_law 908 = .ok (.iload 21, 2) := by decide +kernel
theorem dL_law_910 : decode cL_law 910 = .ok (.ifCond .eq 37, 3) := by decide +kernel
theorem dL_law_913 : decode cL_law 913 = .ok (.iload 20, 2) := by decide +kernel
theorem dL_law_915 : decode cL_law 915 = .ok (.ifCond .lt 6, 3) := by decide +kernel
theorem dL_law_918 : decode cL_law 918 = .ok (.goto 29, 3) := by decide +kernel
theorem dL_law_921 : decode cL_law 921 = .ok (.iinc 15 1, 3) := by decide +kernel
theorem dL_law_924 : decode cL_law 924 = .ok (.iload 16, 2) := by decide +kernel
theorem dL_law_926 : decode cL_law 926 = .ok (.aload 9, 2) := by decide +kernel
theorem dL_law_928 : decode cL_law 928 = .ok (.iload 19, 2) := by decide +kernel
theorem dL_law_930 : decode cL_law 930 = .ok (.iaload, 1) := by decide +kernel
theorem dL_law_931 : decode cL_law 931 = .ok (.iadd, 1) := by decide +kernel
theorem dL_law_932 : decode cL_law 932 = .ok (.istore 16, 2) := by decide +kernel
theorem dL_law_934 : decode cL_law 934 = .ok (.iload 23, 2) := by decide +kernel
theorem dL_law_936 : decode cL_law 936 = .ok (.iconst 1, 1) := by decide +kernel
theorem dL_law_937 : decode cL_law 937 = .ok (.iload 6, 2) := by decide +kernel
theorem dL_law_939 : decode cL_law 939 = .ok (.ishl, 1) := by decide +kernel
theorem dL_law_940 : decode cL_law 940 = .ok (.iconst 1, 1) := by decide +kernel
theorem dL_law_941 : decode cL_law 941 = .ok (.isub, 1) := by decide +kernel
theorem dL_law_942 : decode cL_law 942 = .ok (.if_icmp .eq 5, 3) := by decide +kernel
theorem dL_law_945 : decode cL_law 945 = .ok (.iconst 0, 1) := by decide +kernel
theorem dL_law_946 : decode cL_law 946 = .ok (.ireturn, 1) := by decide +kernel
theorem dL_law_947 : decode cL_law 947 = .ok (.iinc 19 1, 3) := by decide +kernel
theorem dL_law_950 : decode cL_law 950 = .ok (.goto (-330), 3) := by decide +kernel
theorem dL_law_953 : decode cL_law 953 = .ok (.iconst 0, 1) := by decide +kernel
theorem dL_law_954 : decode cL_law 954 = .ok (.istore 19, 2) := by decide +kernel
theorem dL_law_956 : decode cL_law 956 = .ok (.iconst 0, 1) := by decide +kernel
theorem dL_law_957 : decode cL_law 957 = .ok (.istore 20, 2) := by decide +kernel
theorem dL_law_959 : decode cL_law 959 = .ok (.iload 20, 2) := by decide +kernel
theorem dL_law_961 : decode cL_law 961 = .ok (.iload 6, 2) := by decide +kernel
theorem dL_law_963 : decode cL_law 963 = .ok (.if_icmp .ge 43, 3) := by decide +kernel
theorem dL_law_966 : decode cL_law 966 = .ok (.aload_n 1, 1) := by decide +kernel
theorem dL_law_967 : decode cL_law 967 = .ok (.iload 20, 2) := by decide +kernel
theorem dL_law_969 : decode cL_law 969 = .ok (.invokevirtual 105, 3) := by decide +kernel
theorem dL_law_972 : decode cL_law 972 = .ok (.aload 18, 2) := by decide +kernel
theorem dL_law_974 : decode cL_law 974 = .ok (.iload 20, 2) := by decide +kernel
theorem dL_law_976 : decode cL_law 976 = .ok (.iaload, 1) := by decide +kernel
theorem dL_law_977 : decode cL_law 977 = .ok (.if_icmp .eq 5, 3) := by decide +kernel
theorem dL_law_980 : decode cL_law 980 = .ok (.iconst 0, 1) := by decide +kernel
theorem dL_law_981 : decode cL_law 981 = .ok (.ireturn, 1) := by decide +kernel
theorem dL_law_982 : decode cL_law 982 = .ok (.iload 19, 2) := by decide +kernel
theorem dL_law_984 : decode cL_law 984 = .ok (.aload 18, 2) := by decide +kernel
theorem dL_law_986 : decode cL_law 986 = .ok (.iload 20, 2) := by decide +kernel
theorem dL_law_988 : decode cL_law 988 = .ok (.iaload, 1) := by decide +kernel
theorem dL_law_989 : decode cL_law 989 = .ok (.ifCond .le 7, 3) := by decide +kernel
theorem dL_law_992 : decode cL_law 992 = .ok (.iconst 1, 1) := by decide +kernel
theorem dL_law_993 : decode cL_law 993 = .ok (.goto 4, 3) := by decide +kernel
theorem dL_law_996 : decode cL_law 996 = .ok (.iconst 0, 1) := by decide +kernel
theorem dL_law_997 : decode cL_law 997 = .ok (.iadd, 1) := by decide +kernel
theorem dL_law_998 : decode cL_law 998 = .ok (.istore 19, 2) := by decide +kernel
theorem dL_law_1000 : decode cL_law 1000 = .ok (.iinc 20 1, 3) := by decide +kernel
theorem dL_law_1003 : decode cL_law 1003 = .ok (.goto (-44), 3) := by decide +kernel
theorem dL_law_1006 : decode cL_law 1006 = .ok (.iload 14, 2) := by decide +kernel
theorem dL_law_1008 : decode cL_law 1008 = .ok (.aload_n 1, 1) := by decide +kernel
theorem dL_law_1009 : decode cL_law 1009 = .ok (.iconst 2, 1) := by decide +kernel
theorem dL_law_1010 : decode cL_law 1010 = .ok (.invokevirtual 77, 3) := by decide +kernel
theorem dL_law_1013 : decode cL_law 1013 = .ok (.if_icmp .ne 66, 3) := by decide +kernel
theorem dL_law_1016 : decode cL_law 1016 = .ok (.iload 17, 2) := by decide +kernel
theorem dL_law_1018 : decode cL_law 1018 = .ok (.iconst 2, 1) := by decide +kernel
theorem dL_law_1019 : decode cL_law 1019 = .ok (.aload_n 1, 1) := by decide +kernel
theorem dL_law_1020 : decode cL_law 1020 = .ok (.iconst 3, 1) := by decide +kernel
theorem dL_law_1021 : decode cL_law 1021 = .ok (.invokevirtual 77, 3) := by decide +kernel
theorem dL_law_1024 : decode cL_law 1024 = .ok (.imul, 1) := by decide +kernel
theorem dL_law_1025 : decode cL_law 1025 = .ok (.if_icmp .ne 54, 3) := by decide +kernel
theorem dL_law_1028 : decode cL_law 1028 = .ok (.iload 15, 2) := by decide +kernel
theorem dL_law_1030 : decode cL_law 1030 = .ok (.aload_n 1, 1) := by decide +kernel
theorem dL_law_1031 : decode cL_law 1031 = .ok (.iconst 4, 1) := by decide +kernel
theorem dL_law_1032 : decode cL_law 1032 = .ok (.invokevirtual 77, 3) := by decide +kernel
theorem dL_law_1035 : decode cL_law 1035 = .ok (.if_icmp .ne 44, 3) := by decide +kernel
theorem dL_law_1038 : decode cL_law 1038 = .ok (.iload 19, 2) := by decide +kernel
theorem dL_law_1040 : decode cL_law 1040 = .ok (.aload_n 1, 1) := by decide +kernel
theorem dL_law_1041 : decode cL_law 1041 = .ok (.iconst 5, 1) := by decide +kernel
theorem dL_law_1042 : decode cL_law 1042 = .ok (.invokevirtual 77, 3) := by decide +kernel
theorem dL_law_1045 : decode cL_law 1045 = .ok (.if_icmp .ne 34, 3) := by decide +kernel
theorem dL_law_1048 : decode cL_law 1048 = .ok (.iload 16, 2) := by decide +kernel
theorem dL_law_1050 : decode cL_law 1050 = .ok (.aload_n 1, 1) := by decide +kernel
theorem dL_law_1051 : decode cL_law 1051 = .ok (.bipush 8, 2) := by decide +kernel
theorem dL_law_1053 : decode cL_law 1053 = .ok (.invokevirtual 77, 3) := by decide +kernel
theorem dL_law_1056 : decode cL_law 1056 = .ok (.if_icmp .ne 23, 3) := by decide +kernel
theorem dL_law_1059 : decode cL_law 1059 = .ok (.aload_n 1, 1) := by decide +kernel
theorem dL_law_1060 : decode cL_law 1060 = .ok (.iload 6, 2) := by decide +kernel
theorem dL_law_1062 : decode cL_law 1062 = .ok (.invokevirtual 108, 3) := by decide +kernel
theorem dL_law_1065 : decode cL_law 1065 = .ok (.iload 15, 2) := by decide +kernel
theorem dL_law_1067 : decode cL_law 1067 = .ok (.if_icmp .ne 12, 3) := by decide +kernel
theorem dL_law_1070 : decode cL_law 1070 = .ok (.aload_n 1, 1) := by decide +kernel
theorem dL_law_1071 : decode cL_law 1071 = .ok (.invokevirtual 94, 3) := by decide +kernel
theorem dL_law_1074 : decode cL_law 1074 = .ok (.iload 14, 2) := by decide +kernel
theorem dL_law_1076 : decode cL_law 1076 = .ok (.if_icmp .le 5, 3) := by decide +kernel
theorem dL_law_1079 : decode cL_law 1079 = .ok (.iconst 0, 1) := by decide +kernel
theorem dL_law_1080 : decode cL_law 1080 = .ok (.ireturn, 1) := by decide +kernel
theorem dL_law_1081 : decode cL_law 1081 = .ok (.aload_n 1, 1) := by decide +kernel
theorem dL_law_1082 : decode cL_law 1082 = .ok (.invokevirtual 111, 3) := by decide +kernel
theorem dL_law_1085 : decode cL_law 1085 = .ok (.istore 20, 2) := by decide +kernel
theorem dL_law_1087 : decode cL_law 1087 = .ok (.iload 20, 2) := by decide +kernel
theorem dL_law_1089 : decode cL_law 1089 = .ok (.ifCond .ne 7, 3) := by decide +kernel
theorem dL_law_1092 : decode cL_law 1092 = .ok (.iconst 1, 1) := by decide +kernel
theorem dL_law_1093 : decode cL_law 1093 = .ok (.goto 4, 3) := by decide +kernel
theorem dL_law_1096 : decode cL_law 1096 = .ok (.iconst 0, 1) := by decide +kernel
theorem dL_law_1097 : decode cL_law 1097 = .ok (.iload 14, 2) := by decide +kernel
theorem dL_law_1099 : decode cL_law 1099 = .ok (.ifCond .ne 7, 3) := by decide +kernel
theorem dL_law_1102 : decode cL_law 1102 = .ok (.iconst 1, 1) := by decide +kernel
theorem dL_law_1103 : decode cL_law 1103 = .ok (.goto 4, 3) := by decide +kernel
theorem dL_law_1106 : decode cL_law 1106 = .ok (.iconst 0, 1) := by decide +kernel
theorem dL_law_1107 : decode cL_law 1107 = .ok (.if_icmp .ne 58, 3) := by decide +kernel
theorem dL_law_1110 : decode cL_law 1110 = .ok (.iload 20, 2) := by decide +kernel
theorem dL_law_1112 : decode cL_law 1112 = .ok (.bipush 16, 2) := by decide +kernel
theorem dL_law_1114 : decode cL_law 1114 = .ok (.if_icmp .gt 51, 3) := by decide +kernel
theorem dL_law_1117 : decode cL_law 1117 = .ok (.iload 20, 2) := by decide +kernel
theorem dL_law_1119 : decode cL_law 1119 = .ok (.ifCond .le 12, 3) := by decide +kernel
theorem dL_law_1122 : decode cL_law 1122 = .ok (.aload_n 1, 1) := by decide +kernel
theorem dL_law_1123 : decode cL_law 1123 = .ok (.iload 20, 2) := by decide +kernel
theorem dL_law_1125 : decode cL_law 1125 = .ok (.invokevirtual 108, 3) := by decide +kernel
theorem dL_law_1128 : decode cL_law 1128 = .ok (.ifCond .ne 37, 3) := by decide +kernel
theorem dL_law_1131 : decode cL_law 1131 = .ok (.iload 20, 2) := by decide +kernel
theorem dL_law_1133 : decode cL_law 1133 = .ok (.iconst 1, 1) := by decide +kernel
theorem dL_law_1134 : decode cL_law 1134 = .ok (.if_icmp .le 14, 3) := by decide +kernel
theorem dL_law_1137 : decode cL_law 1137 = .ok (.aload_n 1, 1) := by decide +kernel
theorem dL_law_1138 : decode cL_law 1138 = .ok (.iload 20, 2) := by decide +kernel
theorem dL_law_1140 : decode cL_law 1140 = .ok (.iconst 1, 1) := by decide +kernel
theorem dL_law_1141 : decode cL_law 1141 = .ok (.isub, 1) := by decide +kernel
theorem dL_law_1142 : decode cL_law 1142 = .ok (.invokevirtual 108, 3) := by decide +kernel
theorem dL_law_1145 : decode cL_law 1145 = .ok (.ifCond .eq 20, 3) := by decide +kernel
theorem dL_law_1148 : decode cL_law 1148 = .ok (.iload 15, 2) := by decide +kernel
theorem dL_law_1150 : decode cL_law 1150 = .ok (.ifCond .ne 17, 3) := by decide +kernel
theorem dL_law_1153 : decode cL_law 1153 = .ok (.iload 14, 2) := by decide +kernel
theorem dL_law_1155 : decode cL_law 1155 = .ok (.ifCond .le 12, 3) := by decide +kernel
theorem dL_law_1158 : decode cL_law 1158 = .ok (.iload 20, 2) := by decide +kernel
theorem dL_law_1160 : decode cL_law 1160 = .ok (.iload 6, 2) := by decide +kernel
theorem dL_law_1162 : decode cL_law 1162 = .ok (.if_icmp .le 5, 3) := by decide +kernel
theorem dL_law_1165 : decode cL_law 1165 = .ok (.iconst 0, 1) := by decide +kernel
theorem dL_law_1166 : decode cL_law 1166 = .ok (.ireturn, 1) := by decide +kernel
theorem dL_law_1167 : decode cL_law 1167 = .ok (.aload_n 1, 1) := by decide +kernel
theorem dL_law_1168 : decode cL_law 1168 = .ok (.invokevirtual 114, 3) := by decide +kernel
theorem dL_law_1171 : decode cL_law 1171 = .ok (.istore 21, 2) := by decide +kernel
theorem dL_law_1173 : decode cL_law 1173 = .ok (.iload 21, 2) := by decide +kernel
theorem dL_law_1175 : decode cL_law 1175 = .ok (.ifCond .ge 7, 3) := by decide +kernel
theorem dL_law_1178 : decode cL_law 1178 = .ok (.iconst 1, 1) := by decide +kernel
theorem dL_law_1179 : decode cL_law 1179 = .ok (.goto 4, 3) := by decide +kernel
theorem dL_law_1182 : decode cL_law 1182 = .ok (.iconst 0, 1) := by decide +kernel
theorem dL_law_1183 : decode cL_law 1183 = .ok (.iload 5, 2) := by decide +kernel
theorem dL_law_1185 : decode cL_law 1185 = .ok (.ifCond .ne 7, 3) := by decide +kernel
theorem dL_law_1188 : decode cL_law 1188 = .ok (.iconst 1, 1) := by decide +kernel
theorem dL_law_1189 : decode cL_law 1189 = .ok (.goto 4, 3) := by decide +kernel
theorem dL_law_1192 : decode cL_law 1192 = .ok (.iconst 0, 1) := by decide +kernel
theorem dL_law_1193 : decode cL_law 1193 = .ok (.if_icmp .ne 20, 3) := by decide +kernel
theorem dL_law_1196 : decode cL_law 1196 = .ok (.iload 21, 2) := by decide +kernel
theorem dL_law_1198 : decode cL_law 1198 = .ok (.iload 5, 2) := by decide +kernel
theorem dL_law_1200 : decode cL_law 1200 = .ok (.if_icmp .ge 13, 3) := by decide +kernel
theorem dL_law_1203 : decode cL_law 1203 = .ok (.aload_n 1, 1) := by decide +kernel
theorem dL_law_1204 : decode cL_law 1204 = .ok (.invokevirtual 80, 3) := by decide +kernel
theorem dL_law_1207 : decode cL_law 1207 = .ok (.lload 7, 2) := by decide +kernel
theorem dL_law_1209 : decode cL_law 1209 = .ok (.lcmp, 1) := by decide +kernel
theorem dL_law_1210 : decode cL_law 1210 = .ok (.ifCond .eq 5, 3) := by decide +kernel
theorem dL_law_1213 : decode cL_law 1213 = .ok (.iconst 0, 1) := by decide +kernel
theorem dL_law_1214 : decode cL_law 1214 = .ok (.ireturn, 1) := by decide +kernel
theorem dL_law_1215 : decode cL_law 1215 = .ok (.iload 5, 2) := by decide +kernel
theorem dL_law_1217 : decode cL_law 1217 = .ok (.ifCond .ne 6, 3) := by decide +kernel
theorem dL_law_1220 : decode cL_law 1220 = .ok (.goto 53, 3) := by decide +kernel
theorem dL_law_1223 : decode cL_law 1223 = .ok (.iload 4, 2) := by decide +kernel
theorem dL_law_1225 : decode cL_law 1225 = .ok (.iconst 4, 1) := by decide +kernel
theorem dL_law_1226 : decode cL_law 1226 = .ok (.ishr, 1) := by decide +kernel
theorem dL_law_1227 : decode cL_law 1227 = .ok (.iload 5, 2) := by decide +kernel
theorem dL_law_1229 : decode cL_law 1229 = .ok (.invokestatic 15, 3) := by decide +kernel
theorem dL_law_1232 : decode cL_law 1232 = .ok (.istore 22, 2) := by decide +kernel
theorem dL_law_1234 : decode cL_law 1234 = .ok (.aload_n 1, 1) := by decide +kernel
theorem dL_law_1235 : decode cL_law 1235 = .ok (.iload 21, 2) := by decide +kernel
theorem dL_law_1237 : decode cL_law 1237 = .ok (.invokestatic 117, 3) := by decide +kernel
theorem dL_law_1240 : decode cL_law 1240 = .ok (.aload_n 1, 1) := by decide +kernel
theorem dL_law_1241 : decode cL_law 1241 = .ok (.iload 22, 2) := by decide +kernel
theorem dL_law_1243 : decode cL_law 1243 = .ok (.invokestatic 117, 3) := by decide +kernel
theorem dL_law_1246 : decode cL_law 1246 = .ok (.if_icmp .gt 25, 3) := by decide +kernel
theorem dL_law_1249 : decode cL_law 1249 = .ok (.iload 22, 2) := by decide +kernel
theorem dL_law_1251 : decode cL_law 1251 = .ok (.iload 21, 2) := by decide +kernel
theorem dL_law_1253 : decode cL_law 1253 = .ok (.if_icmp .ge 20, 3) := by decide +kernel
theorem dL_law_1256 : decode cL_law 1256 = .ok (.aload_n 1, 1) := by decide +kernel
theorem dL_law_1257 : decode cL_law 1257 = .ok (.iload 21, 2) := by decide +kernel
theorem dL_law_1259 : decode cL_law 1259 = .ok (.invokestatic 117, 3) := by decide +kernel
theorem dL_law_1262 : decode cL_law 1262 = .ok (.aload_n 1, 1) := by decide +kernel
theorem dL_law_1263 : decode cL_law 1263 = .ok (.iload 22, 2) := by decide +kernel
theorem dL_law_1265 : decode cL_law 1265 = .ok (.invokestatic 117, 3) := by decide +kernel
theorem dL_law_1268 : decode cL_law 1268 = .ok (.if_icmp .ne 5, 3) := by decide +kernel
theorem dL_law_1271 : decode cL_law 1271 = .ok (.iconst 0, 1) := by decide +kernel
theorem dL_law_1272 : decode cL_law 1272 = .ok (.ireturn, 1) := by decide +kernel
theorem dL_law_1273 : decode cL_law 1273 = .ok (.iinc 3 1, 3) := by decide +kernel
theorem dL_law_1276 : decode cL_law 1276 = .ok (.goto (-1254), 3) := by decide +kernel
theorem dL_law_1279 : decode cL_law 1279 = .ok (.aload_n 2, 1) := by decide +kernel
theorem dL_law_1280 : decode cL_law 1280 = .ok (.aload_n 1, 1) := by decide +kernel
theorem dL_law_1281 : decode cL_law 1281 = .ok (.invokevirtual 120, 3) := by decide +kernel
theorem dL_law_1284 : decode cL_law 1284 = .ok (.ireturn, 1) := by decide +kernel
theorem dL_without_0 : decode cL_without 0 = .ok (.new 26, 3) := by decide +kernel
theorem dL_without_3 : decode cL_without 3 = .ok (.dup, 1) := by decide +kernel
theorem dL_without_4 : decode cL_without 4 = .ok (.invokespecial 72, 3) := by decide +kernel
theorem dL_without_7 : decode cL_without 7 = .ok (.astore_n 2, 1) := by decide +kernel
theorem dL_without_8 : decode cL_without 8 = .ok (.aload_n 2, 1) := by decide +kernel
theorem dL_without_9 : decode cL_without 9 = .ok (.aload_n 0, 1) := by decide +kernel
theorem dL_without_10 : decode cL_without 10 = .ok (.iconst 1, 1) := by decide +kernel
theorem dL_without_11 : decode cL_without 11 = .ok (.invokevirtual 77, 3) := by decide +kernel
theorem dL_without_14 : decode cL_without 14 = .ok (.invokevirtual 57, 3) := by decide +kernel
theorem dL_without_17 : decode cL_without 17 = .ok (.pop, 1) := by decide +kernel
theorem dL_without_18 : decode cL_without 18 = .ok (.iconst 0, 1) := by decide +kernel
theorem dL_without_19 : decode cL_without 19 = .ok (.istore_n 3, 1) := by decide +kernel
theorem dL_without_20 : decode cL_without 20 = .ok (.iload_n 3, 1) := by decide +kernel
theorem dL_without_21 : decode cL_without 21 = .ok (.aload_n 0, 1) := by decide +kernel
theorem dL_without_22 : decode cL_without 22 = .ok (.iconst 0, 1) := by decide +kernel
theorem dL_without_23 : decode cL_without 23 = .ok (.invokevirtual 77, 3) := by decide +kernel
theorem dL_without_26 : decode cL_without 26 = .ok (.if_icmp .ge 82, 3) := by decide +kernel
theorem dL_without_29 : decode cL_without 29 = .ok (.iload_n 3, 1) := by decide +kernel
theorem dL_without_30 : decode cL_without 30 = .ok (.iload_n 1, 1) := by decide +kernel
theorem dL_without_31 : decode cL_without 31 = .ok (.if_icmp .ne 6, 3) := by decide +kernel
theorem dL_without_34 : decode cL_without 34 = .ok (.goto 68, 3) := by decide +kernel
theorem dL_without_37 : decode cL_without 37 = .ok (.aload_n 0, 1) := by decide +kernel
theorem dL_without_38 : decode cL_without 38 = .ok (.iload_n 3, 1) := by decide +kernel
theorem dL_without_39 : decode cL_without 39 = .ok (.iconst 4, 1) := by decide +kernel
theorem dL_without_40 : decode cL_without 40 = .ok (.invokevirtual 84, 3) := by decide +kernel
theorem dL_without_43 : decode cL_without 43 = .ok (.iconst 1, 1) := by decide +kernel
theorem dL_without_44 : decode cL_without 44 = .ok (.if_icmp .ne 29, 3) := by decide +kernel
theorem dL_without_47 : decode cL_without 47 = .ok (.aload_n 2, 1) := by decide +kernel
theorem dL_without_48 : decode cL_without 48 = .ok (.aload_n 0, 1) := by decide +kernel
theorem dL_without_49 : decode cL_without 49 = .ok (.iload_n 3, 1) := by decide +kernel
theorem dL_without_50 : decode cL_without 50 = .ok (.iconst 0, 1) := by decide +kernel
theorem dL_without_51 : decode cL_without 51 = .ok (.invokevirtual 84, 3) := by decide +kernel
theorem dL_without_54 : decode cL_without 54 = .ok (.aload_n 0, 1) := by decide +kernel
theorem dL_without_55 : decode cL_without 55 = .ok (.iload_n 3, 1) := by decide +kernel
theorem dL_without_56 : decode cL_without 56 = .ok (.iconst 1, 1) := by decide +kernel
theorem dL_without_57 : decode cL_without 57 = .ok (.invokevirtual 84, 3) := by decide +kernel
theorem dL_without_60 : decode cL_without 60 = .ok (.aload_n 0, 1) := by decide +kernel
theorem dL_without_61 : decode cL_without 61 = .ok (.iload_n 3, 1) := by decide +kernel
theorem dL_without_62 : decode cL_without 62 = .ok (.iconst 3, 1) := by decide +kernel
theorem dL_without_63 : decode cL_without 63 = .ok (.invokevirtual 84, 3) := by decide +kernel
theorem dL_without_66 : decode cL_without 66 = .ok (.invokevirtual 33, 3) := by decide +kernel
theorem dL_without_69 : decode cL_without 69 = .ok (.pop, 1) := by decide +kernel
theorem dL_without_70 : decode cL_without 70 = .ok (.goto 32, 3) := by decide +kernel
theorem dL_without_73 : decode cL_without 73 = .ok (.aload_n 2, 1) := by decide +kernel
theorem dL_without_74 : decode cL_without 74 = .ok (.aload_n 0, 1) := by decide +kernel
theorem dL_without_75 : decode cL_without 75 = .ok (.iload_n 3, 1) := by decide +kernel
theorem dL_without_76 : decode cL_without 76 = .ok (.iconst 0, 1) := by decide +kernel
theorem dL_without_77 : decode cL_without 77 = .ok (.invokevirtual 84, 3) := by decide +kernel
theorem dL_without_80 : decode cL_without 80 = .ok (.aload_n 0, 1) := by decide +kernel
theorem dL_without_81 : decode cL_without 81 = .ok (.iload_n 3, 1) := by decide +kernel
theorem dL_without_82 : decode cL_without 82 = .ok (.iconst 1, 1) := by decide +kernel
theorem dL_without_83 : decode cL_without 83 = .ok (.invokevirtual 84, 3) := by decide +kernel
theorem dL_without_86 : decode cL_without 86 = .ok (.aload_n 0, 1) := by decide +kernel
theorem dL_without_87 : decode cL_without 87 = .ok (.iload_n 3, 1) := by decide +kernel
theorem dL_without_88 : decode cL_without 88 = .ok (.iconst 2, 1) := by decide +kernel
theorem dL_without_89 : decode cL_without 89 = .ok (.invokevirtual 84, 3) := by decide +kernel
theorem dL_without_92 : decode cL_without 92 = .ok (.aload_n 0, 1) := by decide +kernel
theorem dL_without_93 : decode cL_without 93 = .ok (.iload_n 3, 1) := by decide +kernel
theorem dL_without_94 : decode cL_without 94 = .ok (.iconst 3, 1) := by decide +kernel
theorem dL_without_95 : decode cL_without 95 = .ok (.invokevirtual 84, 3) := by decide +kernel
theorem dL_without_98 : decode cL_without 98 = .ok (.invokevirtual 25, 3) := by decide +kernel
theorem dL_without_101 : decode cL_without 101 = .ok (.pop, 1) := by decide +kernel
theorem dL_without_102 : decode cL_without 102 = .ok (.iinc 3 1, 3) := by decide +kernel
theorem dL_without_105 : decode cL_without 105 = .ok (.goto (-85), 3) := by decide +kernel
theorem dL_without_108 : decode cL_without 108 = .ok (.iconst 0, 1) := by decide +kernel
theorem dL_without_109 : decode cL_without 109 = .ok (.istore_n 3, 1) := by decide +kernel
theorem dL_without_110 : decode cL_without 110 = .ok (.iload_n 3, 1) := by decide +kernel
theorem dL_without_111 : decode cL_without 111 = .ok (.bipush 16, 2) := by decide +kernel
theorem dL_without_113 : decode cL_without 113 = .ok (.if_icmp .ge 33, 3) := by decide +kernel
theorem dL_without_116 : decode cL_without 116 = .ok (.aload_n 0, 1) := by decide +kernel
theorem dL_without_117 : decode cL_without 117 = .ok (.iload_n 3, 1) := by decide +kernel
theorem dL_without_118 : decode cL_without 118 = .ok (.iconst 0, 1) := by decide +kernel
theorem dL_without_119 : decode cL_without 119 = .ok (.invokevirtual 49, 3) := by decide +kernel
theorem dL_without_122 : decode cL_without 122 = .ok (.istore 4, 2) := by decide +kernel
theorem dL_without_124 : decode cL_without 124 = .ok (.aload_n 0, 1) := by decide +kernel
theorem dL_without_125 : decode cL_without 125 = .ok (.iload_n 3, 1) := by decide +kernel
theorem dL_without_126 : decode cL_without 126 = .ok (.iload 4, 2) := by decide +kernel
theorem dL_without_128 : decode cL_without 128 = .ok (.invokevirtual 49, 3) := by decide +kernel
theorem dL_without_131 : decode cL_without 131 = .ok (.pop, 1) := by decide +kernel
theorem dL_without_132 : decode cL_without 132 = .ok (.aload_n 2, 1) := by decide +kernel
theorem dL_without_133 : decode cL_without 133 = .ok (.iload_n 3, 1) := by decide +kernel
theorem dL_without_134 : decode cL_without 134 = .ok (.iload 4, 2) := by decide +kernel
theorem dL_without_136 : decode cL_without 136 = .ok (.invokevirtual 49, 3) := by decide +kernel
theorem dL_without_139 : decode cL_without 139 = .ok (.pop, 1) := by decide +kernel
theorem dL_without_140 : decode cL_without 140 = .ok (.iinc 3 1, 3) := by decide +kernel
theorem dL_without_143 : decode cL_without 143 = .ok (.goto (-33), 3) := by decide +kernel
theorem dL_without_146 : decode cL_without 146 = .ok (.aload_n 2, 1) := by decide +kernel
theorem dL_without_147 : decode cL_without 147 = .ok (.bipush 8, 2) := by decide +kernel
theorem dL_without_149 : decode cL_without 149 = .ok (.invokevirtual 77, 3) := by decide +kernel
theorem dL_without_152 : decode cL_without 152 = .ok (.ireturn, 1) := by decide +kernel
