theorem dX12_fillsNeeds_144 : decode cX12_fillsNeeds 144 = .ok (.sipush 256, 3) := by decide +kernel
theorem dX12_fillsNeeds_147 : decode cX12_fillsNeeds 147 = .ok (.if_icmp .ge 98, 3) := by decide +kernel
theorem dX12_fillsNeeds_150 : decode cX12_fillsNeeds 150 = .ok (.aload_n 0, 1) := by decide +kernel
theorem dX12_fillsNeeds_151 : decode cX12_fillsNeeds 151 = .ok (.getfield 58, 3) := by decide +kernel
theorem dX12_fillsNeeds_154 : decode cX12_fillsNeeds 154 = .ok (.iload 4, 2) := by decide +kernel
theorem dX12_fillsNeeds_156 : decode cX12_fillsNeeds 156 = .ok (.iaload, 1) := by decide +kernel
theorem dX12_fillsNeeds_157 : decode cX12_fillsNeeds 157 = .ok (.ifCond .ge 82, 3) := by decide +kernel
theorem dX12_fillsNeeds_160 : decode cX12_fillsNeeds 160 = .ok (.iload 4, 2) := by decide +kernel
theorem dX12_fillsNeeds_162 : decode cX12_fillsNeeds 162 = .ok (.sipush 128, 3) := by decide +kernel
theorem dX12_fillsNeeds_165 : decode cX12_fillsNeeds 165 = .ok (.irem, 1) := by decide +kernel
theorem dX12_fillsNeeds_166 : decode cX12_fillsNeeds 166 = .ok (.iload_n 1, 1) := by decide +kernel
theorem dX12_fillsNeeds_167 : decode cX12_fillsNeeds 167 = .ok (.if_icmp .le 6, 3) := by decide +kernel
theorem dX12_fillsNeeds_170 : decode cX12_fillsNeeds 170 = .ok (.goto 69, 3) := by decide +kernel
theorem dX12_fillsNeeds_173 : decode cX12_fillsNeeds 173 = .ok (.iconst 0, 1) := by decide +kernel
theorem dX12_fillsNeeds_174 : decode cX12_fillsNeeds 174 = .ok (.istore 5, 2) := by decide +kernel
theorem dX12_fillsNeeds_176 : decode cX12_fillsNeeds 176 = .ok (.iload 5, 2) := by decide +kernel
theorem dX12_fillsNeeds_178 : decode cX12_fillsNeeds 178 = .ok (.iload_n 1, 1) := by decide +kernel
theorem dX12_fillsNeeds_179 : decode cX12_fillsNeeds 179 = .ok (.if_icmp .gt 60, 3) := by decide +kernel
theorem dX12_fillsNeeds_182 : decode cX12_fillsNeeds 182 = .ok (.aload_n 0, 1) := by decide +kernel
theorem dX12_fillsNeeds_183 : decode cX12_fillsNeeds 183 = .ok (.getfield 58, 3) := by decide +kernel
theorem dX12_fillsNeeds_186 : decode cX12_fillsNeeds 186 = .ok (.iload 4, 2) := by decide +kernel
theorem dX12_fillsNeeds_188 : decode cX12_fillsNeeds 188 = .ok (.iaload, 1) := by decide +kernel
theorem dX12_fillsNeeds_189 : decode cX12_fillsNeeds 189 = .ok (.ifCond .ge 50, 3) := by decide +kernel
theorem dX12_fillsNeeds_192 : decode cX12_fillsNeeds 192 = .ok (.aload_n 0, 1) := by decide +kernel
theorem dX12_fillsNeeds_193 : decode cX12_fillsNeeds 193 = .ok (.iload 4, 2) := by decide +kernel
theorem dX12_fillsNeeds_195 : decode cX12_fillsNeeds 195 = .ok (.iload 5, 2) := by decide +kernel
theorem dX12_fillsNeeds_197 : decode cX12_fillsNeeds 197 = .ok (.invokevirtual 397, 3) := by decide +kernel
theorem dX12_fillsNeeds_200 : decode cX12_fillsNeeds 200 = .ok (.istore 6, 2) := by decide +kernel
theorem dX12_fillsNeeds_202 : decode cX12_fillsNeeds 202 = .ok (.iload 6, 2) := by decide +kernel
theorem dX12_fillsNeeds_204 : decode cX12_fillsNeeds 204 = .ok (.ifCond .lt 29, 3) := by decide +kernel
theorem dX12_fillsNeeds_207 : decode cX12_fillsNeeds 207 = .ok (.aload_n 0, 1) := by decide +kernel
theorem dX12_fillsNeeds_208 : decode cX12_fillsNeeds 208 = .ok (.getfield 58, 3) := by decide +kernel
theorem dX12_fillsNeeds_211 : decode cX12_fillsNeeds 211 = .ok (.iload 6, 2) := by decide +kernel
theorem dX12_fillsNeeds_213 : decode cX12_fillsNeeds 213 = .ok (.iaload, 1) := by decide +kernel
theorem dX12_fillsNeeds_214 : decode cX12_fillsNeeds 214 = .ok (.iload_n 3, 1) := by decide +kernel
theorem dX12_fillsNeeds_215 : decode cX12_fillsNeeds 215 = .ok (.if_icmp .eq 6, 3) := by decide +kernel
theorem dX12_fillsNeeds_218 : decode cX12_fillsNeeds 218 = .ok (.goto 15, 3) := by decide +kernel
theorem dX12_fillsNeeds_221 : decode cX12_fillsNeeds 221 = .ok (.aload_n 0, 1) := by decide +kernel
theorem dX12_fillsNeeds_222 : decode cX12_fillsNeeds 222 = .ok (.getfield 58, 3) := by decide +kernel
theorem dX12_fillsNeeds_225 : decode cX12_fillsNeeds 225 = .ok (.iload 4, 2) := by decide +kernel
theorem dX12_fillsNeeds_227 : decode cX12_fillsNeeds 227 = .ok (.iload_n 3, 1) := by decide +kernel
theorem dX12_fillsNeeds_228 : decode cX12_fillsNeeds 228 = .ok (.iconst 1, 1) := by decide +kernel
theorem dX12_fillsNeeds_229 : decode cX12_fillsNeeds 229 = .ok (.iadd, 1) := by decide +kernel
theorem dX12_fillsNeeds_230 : decode cX12_fillsNeeds 230 = .ok (.iastore, 1) := by decide +kernel
theorem dX12_fillsNeeds_231 : decode cX12_fillsNeeds 231 = .ok (.iconst 1, 1) := by decide +kernel
theorem dX12_fillsNeeds_232 : decode cX12_fillsNeeds 232 = .ok (.istore_n 2, 1) := by decide +kernel
theorem dX12_fillsNeeds_233 : decode cX12_fillsNeeds 233 = .ok (.iinc 5 1, 3) := by decide +kernel
theorem dX12_fillsNeeds_236 : decode cX12_fillsNeeds 236 = .ok (.goto (-60), 3) := by decide +kernel
theorem dX12_fillsNeeds_239 : decode cX12_fillsNeeds 239 = .ok (.iinc 4 1, 3) := by decide +kernel
theorem dX12_fillsNeeds_242 : decode cX12_fillsNeeds 242 = .ok (.goto (-100), 3) := by decide +kernel
theorem dX12_fillsNeeds_245 : decode cX12_fillsNeeds 245 = .ok (.iinc 3 1, 3) := by decide +kernel
theorem dX12_fillsNeeds_248 : decode cX12_fillsNeeds 248 = .ok (.goto (-115), 3) := by decide +kernel
theorem dX12_fillsNeeds_251 : decode cX12_fillsNeeds 251 = .ok (.return_, 1) := by decide +kernel
theorem dX12_fewest_0 : decode cX12_fewest 0 = .ok (.aload_n 0, 1) := by decide +kernel
theorem dX12_fewest_1 : decode cX12_fewest 1 = .ok (.invokevirtual 297, 3) := by decide +kernel
theorem dX12_fewest_4 : decode cX12_fewest 4 = .ok (.ifCond .eq 13, 3) := by decide +kernel
theorem dX12_fewest_7 : decode cX12_fewest 7 = .ok (.iload_n 1, 1) := by decide +kernel
theorem dX12_fewest_8 : decode cX12_fewest 8 = .ok (.i2l, 1) := by decide +kernel
theorem dX12_fewest_9 : decode cX12_fewest 9 = .ok (.lconst 0, 1) := by decide +kernel
theorem dX12_fewest_10 : decode cX12_fewest 10 = .ok (.lconst 1, 1) := by decide +kernel
theorem dX12_fewest_11 : decode cX12_fewest 11 = .ok (.invokestatic 130, 3) := by decide +kernel
theorem dX12_fewest_14 : decode cX12_fewest 14 = .ok (.ifCond .ne 5, 3) := by decide +kernel
theorem dX12_fewest_17 : decode cX12_fewest 17 = .ok (.iconst (-1), 1) := by decide +kernel
theorem dX12_fewest_18 : decode cX12_fewest 18 = .ok (.ireturn, 1) := by decide +kernel
theorem dX12_fewest_19 : decode cX12_fewest 19 = .ok (.aload_n 0, 1) := by decide +kernel
theorem dX12_fewest_20 : decode cX12_fewest 20 = .ok (.invokevirtual 400, 3) := by decide +kernel
theorem dX12_fewest_23 : decode cX12_fewest 23 = .ok (.sipush 128, 3) := by decide +kernel
theorem dX12_fewest_26 : decode cX12_fewest 26 = .ok (.aload_n 0, 1) := by decide +kernel
theorem dX12_fewest_27 : decode cX12_fewest 27 = .ok (.getfield 39, 3) := by decide +kernel
theorem dX12_fewest_30 : decode cX12_fewest 30 = .ok (.bipush 11, 2) := by decide +kernel
theorem dX12_fewest_32 : decode cX12_fewest 32 = .ok (.iaload, 1) := by decide +kernel
theorem dX12_fewest_33 : decode cX12_fewest 33 = .ok (.imul, 1) := by decide +kernel
theorem dX12_fewest_34 : decode cX12_fewest 34 = .ok (.aload_n 0, 1) := by decide +kernel
theorem dX12_fewest_35 : decode cX12_fewest 35 = .ok (.iconst 1, 1) := by decide +kernel
theorem dX12_fewest_36 : decode cX12_fewest 36 = .ok (.invokevirtual 334, 3) := by decide +kernel
theorem dX12_fewest_39 : decode cX12_fewest 39 = .ok (.iadd, 1) := by decide +kernel
theorem dX12_fewest_40 : decode cX12_fewest 40 = .ok (.istore_n 2, 1) := by decide +kernel
theorem dX12_fewest_41 : decode cX12_fewest 41 = .ok (.aload_n 0, 1) := by decide +kernel
theorem dX12_fewest_42 : decode cX12_fewest 42 = .ok (.getfield 58, 3) := by decide +kernel
theorem dX12_fewest_45 : decode cX12_fewest 45 = .ok (.iload_n 2, 1) := by decide +kernel
theorem dX12_fewest_46 : decode cX12_fewest 46 = .ok (.iaload, 1) := by decide +kernel
theorem dX12_fewest_47 : decode cX12_fewest 47 = .ok (.ifCond .gt 19, 3) := by decide +kernel
theorem dX12_fewest_50 : decode cX12_fewest 50 = .ok (.aload_n 0, 1) := by decide +kernel
theorem dX12_fewest_51 : decode cX12_fewest 51 = .ok (.getfield 58, 3) := by decide +kernel
theorem dX12_fewest_54 : decode cX12_fewest 54 = .ok (.iload_n 2, 1) := by decide +kernel
theorem dX12_fewest_55 : decode cX12_fewest 55 = .ok (.iaload, 1) := by decide +kernel
theorem dX12_fewest_56 : decode cX12_fewest 56 = .ok (.ifCond .ge 8, 3) := by decide +kernel
theorem dX12_fewest_59 : decode cX12_fewest 59 = .ok (.bipush (-2), 2) := by decide +kernel
theorem dX12_fewest_61 : decode cX12_fewest 61 = .ok (.goto 4, 3) := by decide +kernel
theorem dX12_fewest_64 : decode cX12_fewest 64 = .ok (.iconst 0, 1) := by decide +kernel
theorem dX12_fewest_65 : decode cX12_fewest 65 = .ok (.ireturn, 1) := by decide +kernel
theorem dX12_fewest_66 : decode cX12_fewest 66 = .ok (.iload_n 1, 1) := by decide +kernel
theorem dX12_fewest_67 : decode cX12_fewest 67 = .ok (.ifCond .ne 10, 3) := by decide +kernel
theorem dX12_fewest_70 : decode cX12_fewest 70 = .ok (.aload_n 0, 1) := by decide +kernel
theorem dX12_fewest_71 : decode cX12_fewest 71 = .ok (.getfield 58, 3) := by decide +kernel
theorem dX12_fewest_74 : decode cX12_fewest 74 = .ok (.iload_n 2, 1) := by decide +kernel
theorem dX12_fewest_75 : decode cX12_fewest 75 = .ok (.iaload, 1) := by decide +kernel
theorem dX12_fewest_76 : decode cX12_fewest 76 = .ok (.ireturn, 1) := by decide +kernel
theorem dX12_fewest_77 : decode cX12_fewest 77 = .ok (.iconst 0, 1) := by decide +kernel
theorem dX12_fewest_78 : decode cX12_fewest 78 = .ok (.istore_n 3, 1) := by decide +kernel
theorem dX12_fewest_79 : decode cX12_fewest 79 = .ok (.aload_n 0, 1) := by decide +kernel
theorem dX12_fewest_80 : decode cX12_fewest 80 = .ok (.iload_n 2, 1) := by decide +kernel
theorem dX12_fewest_81 : decode cX12_fewest 81 = .ok (.iload_n 3, 1) := by decide +kernel
theorem dX12_fewest_82 : decode cX12_fewest 82 = .ok (.invokevirtual 397, 3) := by decide +kernel
theorem dX12_fewest_85 : decode cX12_fewest 85 = .ok (.ifCond .lt 25, 3) := by decide +kernel
theorem dX12_fewest_88 : decode cX12_fewest 88 = .ok (.aload_n 0, 1) := by decide +kernel
theorem dX12_fewest_89 : decode cX12_fewest 89 = .ok (.getfield 58, 3) := by decide +kernel
theorem dX12_fewest_92 : decode cX12_fewest 92 = .ok (.aload_n 0, 1) := by decide +kernel
theorem dX12_fewest_93 : decode cX12_fewest 93 = .ok (.iload_n 2, 1) := by decide +kernel
theorem dX12_fewest_94 : decode cX12_fewest 94 = .ok (.iload_n 3, 1) := by decide +kernel
theorem dX12_fewest_95 : decode cX12_fewest 95 = .ok (.invokevirtual 397, 3) := by decide +kernel
theorem dX12_fewest_98 : decode cX12_fewest 98 = .ok (.iaload, 1) := by decide +kernel
theorem dX12_fewest_99 : decode cX12_fewest 99 = .ok (.aload_n 0, 1) := by decide +kernel
theorem dX12_fewest_100 : decode cX12_fewest 100 = .ok (.getfield 58, 3) := by decide +kernel
theorem dX12_fewest_103 : decode cX12_fewest 103 = .ok (.iload_n 2, 1) := by decide +kernel
theorem dX12_fewest_104 : decode cX12_fewest 104 = .ok (.iaload, 1) := by decide +kernel
theorem dX12_fewest_105 : decode cX12_fewest 105 = .ok (.iconst 1, 1) := by decide +kernel
theorem dX12_fewest_106 : decode cX12_fewest 106 = .ok (.isub, 1) := by decide +kernel
theorem dX12_fewest_107 : decode cX12_fewest 107 = .ok (.if_icmp .eq 9, 3) := by decide +kernel
theorem dX12_fewest_110 : decode cX12_fewest 110 = .ok (.iinc 3 1, 3) := by decide +kernel
theorem dX12_fewest_113 : decode cX12_fewest 113 = .ok (.goto (-34), 3) := by decide +kernel
theorem dX12_fewest_116 : decode cX12_fewest 116 = .ok (.iload_n 3, 1) := by decide +kernel
theorem dX12_fewest_117 : decode cX12_fewest 117 = .ok (.ireturn, 1) := by decide +kernel
theorem dX12_isUsed_0 : decode cX12_isUsed 0 = .ok (.iconst 0, 1) := by decide +kernel
theorem dX12_isUsed_1 : decode cX12_isUsed 1 = .ok (.istore_n 3, 1) := by decide +kernel
theorem dX12_isUsed_2 : decode cX12_isUsed 2 = .ok (.iload_n 3, 1) := by decide +kernel
theorem dX12_isUsed_3 : decode cX12_isUsed 3 = .ok (.iload_n 1, 1) := by decide +kernel
theorem dX12_isUsed_4 : decode cX12_isUsed 4 = .ok (.if_icmp .ge 21, 3) := by decide +kernel
theorem dX12_isUsed_7 : decode cX12_isUsed 7 = .ok (.aload_n 0, 1) := by decide +kernel
theorem dX12_isUsed_8 : decode cX12_isUsed 8 = .ok (.getfield 65, 3) := by decide +kernel
theorem dX12_isUsed_11 : decode cX12_isUsed 11 = .ok (.iload_n 3, 1) := by decide +kernel
theorem dX12_isUsed_12 : decode cX12_isUsed 12 = .ok (.iaload, 1) := by decide +kernel
theorem dX12_isUsed_13 : decode cX12_isUsed 13 = .ok (.iload_n 2, 1) := by decide +kernel
theorem dX12_isUsed_14 : decode cX12_isUsed 14 = .ok (.if_icmp .ne 5, 3) := by decide +kernel
theorem dX12_isUsed_17 : decode cX12_isUsed 17 = .ok (.iconst 1, 1) := by decide +kernel
theorem dX12_isUsed_18 : decode cX12_isUsed 18 = .ok (.ireturn, 1) := by decide +kernel
theorem dX12_isUsed_19 : decode cX12_isUsed 19 = .ok (.iinc 3 1, 3) := by decide +kernel
theorem dX12_isUsed_22 : decode cX12_isUsed 22 = .ok (.goto (-20), 3) := by decide +kernel
theorem dX12_isUsed_25 : decode cX12_isUsed 25 = .ok (.iconst 0, 1) := by decide +kernel
theorem dX12_isUsed_26 : decode cX12_isUsed 26 = .ok (.ireturn, 1) := by decide +kernel
theorem dX12_keepsRow_0 : decode cX12_keepsRow 0 = .ok (.iconst 0, 1) := by decide +kernel
theorem dX12_keepsRow_1 : decode cX12_keepsRow 1 = .ok (.istore_n 2, 1) := by decide +kernel
theorem dX12_keepsRow_2 : decode cX12_keepsRow 2 = .ok (.iconst 1, 1) := by decide +kernel
theorem dX12_keepsRow_3 : decode cX12_keepsRow 3 = .ok (.istore_n 3, 1) := by decide +kernel
theorem dX12_keepsRow_4 : decode cX12_keepsRow 4 = .ok (.iload_n 3, 1) := by decide +kernel
theorem dX12_keepsRow_5 : decode cX12_keepsRow 5 = .ok (.iload_n 1, 1) := by decide +kernel
theorem dX12_keepsRow_6 : decode cX12_keepsRow 6 = .ok (.if_icmp .ge 30, 3) := by decide +kernel
theorem dX12_keepsRow_9 : decode cX12_keepsRow 9 = .ok (.iload_n 2, 1) := by decide +kernel
theorem dX12_keepsRow_10 : decode cX12_keepsRow 10 = .ok (.aload_n 0, 1) := by decide +kernel
theorem dX12_keepsRow_11 : decode cX12_keepsRow 11 = .ok (.aload_n 0, 1) := by decide +kernel
theorem dX12_keepsRow_12 : decode cX12_keepsRow 12 = .ok (.getfield 65, 3) := by decide +kernel
theorem dX12_keepsRow_15 : decode cX12_keepsRow 15 = .ok (.iload_n 3, 1) := by decide +kernel
theorem dX12_keepsRow_16 : decode cX12_keepsRow 16 = .ok (.iconst 1, 1) := by decide +kernel
theorem dX12_keepsRow_17 : decode cX12_keepsRow 17 = .ok (.isub, 1) := by decide +kernel
theorem dX12_keepsRow_18 : decode cX12_keepsRow 18 = .ok (.iaload, 1) := by decide +kernel
theorem dX12_keepsRow_19 : decode cX12_keepsRow 19 = .ok (.aload_n 0, 1) := by decide +kernel
theorem dX12_keepsRow_20 : decode cX12_keepsRow 20 = .ok (.getfield 65, 3) := by decide +kernel
theorem dX12_keepsRow_23 : decode cX12_keepsRow 23 = .ok (.iload_n 3, 1) := by decide +kernel
theorem dX12_keepsRow_24 : decode cX12_keepsRow 24 = .ok (.iaload, 1) := by decide +kernel
theorem dX12_keepsRow_25 : decode cX12_keepsRow 25 = .ok (.invokevirtual 314, 3) := by decide +kernel
theorem dX12_keepsRow_28 : decode cX12_keepsRow 28 = .ok (.iadd, 1) := by decide +kernel
theorem dX12_keepsRow_29 : decode cX12_keepsRow 29 = .ok (.istore_n 2, 1) := by decide +kernel
theorem dX12_keepsRow_30 : decode cX12_keepsRow 30 = .ok (.iinc 3 1, 3) := by decide +kernel
theorem dX12_keepsRow_33 : decode cX12_keepsRow 33 = .ok (.goto (-29), 3) := by decide +kernel
theorem dX12_keepsRow_36 : decode cX12_keepsRow 36 = .ok (.aload_n 0, 1) := by decide +kernel
theorem dX12_keepsRow_37 : decode cX12_keepsRow 37 = .ok (.getfield 403, 3) := by decide +kernel
theorem dX12_keepsRow_40 : decode cX12_keepsRow 40 = .ok (.ifCond .lt 12, 3) := by decide +kernel
theorem dX12_keepsRow_43 : decode cX12_keepsRow 43 = .ok (.iload_n 2, 1) := by decide +kernel
theorem dX12_keepsRow_44 : decode cX12_keepsRow 44 = .ok (.aload_n 0, 1) := by decide +kernel
theorem dX12_keepsRow_45 : decode cX12_keepsRow 45 = .ok (.getfield 403, 3) := by decide +kernel
theorem dX12_keepsRow_48 : decode cX12_keepsRow 48 = .ok (.if_icmp .lt 4, 3) := by decide +kernel
theorem dX12_keepsRow_51 : decode cX12_keepsRow 51 = .ok (.return_, 1) := by decide +kernel
theorem dX12_keepsRow_52 : decode cX12_keepsRow 52 = .ok (.aload_n 0, 1) := by decide +kernel
theorem dX12_keepsRow_53 : decode cX12_keepsRow 53 = .ok (.iload_n 2, 1) := by decide +kernel
theorem dX12_keepsRow_54 : decode cX12_keepsRow 54 = .ok (.putfield 403, 3) := by decide +kernel
theorem dX12_keepsRow_57 : decode cX12_keepsRow 57 = .ok (.iconst 0, 1) := by decide +kernel
theorem dX12_keepsRow_58 : decode cX12_keepsRow 58 = .ok (.istore_n 3, 1) := by decide +kernel
theorem dX12_keepsRow_59 : decode cX12_keepsRow 59 = .ok (.iload_n 3, 1) := by decide +kernel
theorem dX12_keepsRow_60 : decode cX12_keepsRow 60 = .ok (.iload_n 1, 1) := by decide +kernel
theorem dX12_keepsRow_61 : decode cX12_keepsRow 61 = .ok (.if_icmp .ge 21, 3) := by decide +kernel
theorem dX12_keepsRow_64 : decode cX12_keepsRow 64 = .ok (.aload_n 0, 1) := by decide +kernel
theorem dX12_keepsRow_65 : decode cX12_keepsRow 65 = .ok (.getfield 68, 3) := by decide +kernel
theorem dX12_keepsRow_68 : decode cX12_keepsRow 68 = .ok (.iload_n 3, 1) := by decide +kernel
theorem dX12_keepsRow_69 : decode cX12_keepsRow 69 = .ok (.aload_n 0, 1) := by decide +kernel
theorem dX12_keepsRow_70 : decode cX12_keepsRow 70 = .ok (.getfield 65, 3) := by decide +kernel
theorem dX12_keepsRow_73 : decode cX12_keepsRow 73 = .ok (.iload_n 3, 1) := by decide +kernel
theorem dX12_keepsRow_74 : decode cX12_keepsRow 74 = .ok (.iaload, 1) := by decide +kernel
theorem dX12_keepsRow_75 : decode cX12_keepsRow 75 = .ok (.iastore, 1) := by decide +kernel
theorem dX12_keepsRow_76 : decode cX12_keepsRow 76 = .ok (.iinc 3 1, 3) := by decide +kernel
theorem dX12_keepsRow_79 : decode cX12_keepsRow 79 = .ok (.goto (-20), 3) := by decide +kernel
theorem dX12_keepsRow_82 : decode cX12_keepsRow 82 = .ok (.return_, 1) := by decide +kernel
theorem dX12_findsRow_0 : decode cX12_findsRow 0 = .ok (.iload_n 1, 1) := by decide +kernel
theorem dX12_findsRow_1 : decode cX12_findsRow 1 = .ok (.invokestatic 337, 3) := by decide +kernel
theorem dX12_findsRow_4 : decode cX12_findsRow 4 = .ok (.istore_n 2, 1) := by decide +kernel
theorem dX12_findsRow_5 : decode cX12_findsRow 5 = .ok (.iconst 0, 1) := by decide +kernel
theorem dX12_findsRow_6 : decode cX12_findsRow 6 = .ok (.istore_n 3, 1) := by decide +kernel
theorem dX12_findsRow_7 : decode cX12_findsRow 7 = .ok (.aload_n 0, 1) := by decide +kernel
theorem dX12_findsRow_8 : decode cX12_findsRow 8 = .ok (.iconst (-1), 1) := by decide +kernel
theorem dX12_findsRow_9 : decode cX12_findsRow 9 = .ok (.putfield 403, 3) := by decide +kernel
theorem dX12_findsRow_12 : decode cX12_findsRow 12 = .ok (.aload_n 0, 1) := by decide +kernel
theorem dX12_findsRow_13 : decode cX12_findsRow 13 = .ok (.getfield 65, 3) := by decide +kernel
theorem dX12_findsRow_16 : decode cX12_findsRow 16 = .ok (.iconst 0, 1) := by decide +kernel
theorem dX12_findsRow_17 : decode cX12_findsRow 17 = .ok (.iconst (-1), 1) := by decide +kernel
theorem dX12_findsRow_18 : decode cX12_findsRow 18 = .ok (.iastore, 1) := by decide +kernel
theorem dX12_findsRow_19 : decode cX12_findsRow 19 = .ok (.iload_n 2, 1) := by decide +kernel
theorem dX12_findsRow_20 : decode cX12_findsRow 20 = .ok (.ifCond .ne 8, 3) := by decide +kernel
theorem dX12_findsRow_23 : decode cX12_findsRow 23 = .ok (.aload_n 0, 1) := by decide +kernel
theorem dX12_findsRow_24 : decode cX12_findsRow 24 = .ok (.iconst 0, 1) := by decide +kernel
theorem dX12_findsRow_25 : decode cX12_findsRow 25 = .ok (.putfield 403, 3) := by decide +kernel
theorem dX12_findsRow_28 : decode cX12_findsRow 28 = .ok (.iload_n 3, 1) := by decide +kernel
theorem dX12_findsRow_29 : decode cX12_findsRow 29 = .ok (.ifCond .lt 93, 3) := by decide +kernel
theorem dX12_findsRow_32 : decode cX12_findsRow 32 = .ok (.iload_n 2, 1) := by decide +kernel
theorem dX12_findsRow_33 : decode cX12_findsRow 33 = .ok (.ifCond .le 89, 3) := by decide +kernel
theorem dX12_findsRow_36 : decode cX12_findsRow 36 = .ok (.aload_n 0, 1) := by decide +kernel
theorem dX12_findsRow_37 : decode cX12_findsRow 37 = .ok (.getfield 65, 3) := by decide +kernel
theorem dX12_findsRow_40 : decode cX12_findsRow 40 = .ok (.iload_n 3, 1) := by decide +kernel
theorem dX12_findsRow_41 : decode cX12_findsRow 41 = .ok (.dup2, 1) := by decide +kernel
theorem dX12_findsRow_42 : decode cX12_findsRow 42 = .ok (.iaload, 1) := by decide +kernel
theorem dX12_findsRow_43 : decode cX12_findsRow 43 = .ok (.iconst 1, 1) := by decide +kernel
theorem dX12_findsRow_44 : decode cX12_findsRow 44 = .ok (.iadd, 1) := by decide +kernel
theorem dX12_findsRow_45 : decode cX12_findsRow 45 = .ok (.iastore, 1) := by decide +kernel
theorem dX12_findsRow_46 : decode cX12_findsRow 46 = .ok (.aload_n 0, 1) := by decide +kernel
theorem dX12_findsRow_47 : decode cX12_findsRow 47 = .ok (.getfield 65, 3) := by decide +kernel
theorem dX12_findsRow_50 : decode cX12_findsRow 50 = .ok (.iload_n 3, 1) := by decide +kernel
theorem dX12_findsRow_51 : decode cX12_findsRow 51 = .ok (.iaload, 1) := by decide +kernel
theorem dX12_findsRow_52 : decode cX12_findsRow 52 = .ok (.aload_n 0, 1) := by decide +kernel
theorem dX12_findsRow_53 : decode cX12_findsRow 53 = .ok (.getfield 39, 3) := by decide +kernel
theorem dX12_findsRow_56 : decode cX12_findsRow 56 = .ok (.iconst 4, 1) := by decide +kernel
theorem dX12_findsRow_57 : decode cX12_findsRow 57 = .ok (.iaload, 1) := by decide +kernel
theorem dX12_findsRow_58 : decode cX12_findsRow 58 = .ok (.if_icmp .lt 9, 3) := by decide +kernel
theorem dX12_findsRow_61 : decode cX12_findsRow 61 = .ok (.iinc 3 (-1), 3) := by decide +kernel
theorem dX12_findsRow_64 : decode cX12_findsRow 64 = .ok (.goto (-36), 3) := by decide +kernel
theorem dX12_findsRow_67 : decode cX12_findsRow 67 = .ok (.iload_n 1, 1) := by decide +kernel
theorem dX12_findsRow_68 : decode cX12_findsRow 68 = .ok (.aload_n 0, 1) := by decide +kernel
theorem dX12_findsRow_69 : decode cX12_findsRow 69 = .ok (.getfield 65, 3) := by decide +kernel
theorem dX12_findsRow_72 : decode cX12_findsRow 72 = .ok (.iload_n 3, 1) := by decide +kernel
theorem dX12_findsRow_73 : decode cX12_findsRow 73 = .ok (.iaload, 1) := by decide +kernel
theorem dX12_findsRow_74 : decode cX12_findsRow 74 = .ok (.invokestatic 308, 3) := by decide +kernel
theorem dX12_findsRow_77 : decode cX12_findsRow 77 = .ok (.ifCond .eq (-49), 3) := by decide +kernel
theorem dX12_findsRow_80 : decode cX12_findsRow 80 = .ok (.aload_n 0, 1) := by decide +kernel
theorem dX12_findsRow_81 : decode cX12_findsRow 81 = .ok (.iload_n 3, 1) := by decide +kernel
theorem dX12_findsRow_82 : decode cX12_findsRow 82 = .ok (.aload_n 0, 1) := by decide +kernel
theorem dX12_findsRow_83 : decode cX12_findsRow 83 = .ok (.getfield 65, 3) := by decide +kernel
theorem dX12_findsRow_86 : decode cX12_findsRow 86 = .ok (.iload_n 3, 1) := by decide +kernel
theorem dX12_findsRow_87 : decode cX12_findsRow 87 = .ok (.iaload, 1) := by decide +kernel
theorem dX12_findsRow_88 : decode cX12_findsRow 88 = .ok (.invokevirtual 406, 3) := by decide +kernel
theorem dX12_findsRow_91 : decode cX12_findsRow 91 = .ok (.ifCond .ne (-63), 3) := by decide +kernel
theorem dX12_findsRow_94 : decode cX12_findsRow 94 = .ok (.iload_n 3, 1) := by decide +kernel
theorem dX12_findsRow_95 : decode cX12_findsRow 95 = .ok (.iconst 1, 1) := by decide +kernel
theorem dX12_findsRow_96 : decode cX12_findsRow 96 = .ok (.iadd, 1) := by decide +kernel
theorem dX12_findsRow_97 : decode cX12_findsRow 97 = .ok (.iload_n 2, 1) := by decide +kernel
theorem dX12_findsRow_98 : decode cX12_findsRow 98 = .ok (.if_icmp .ne 11, 3) := by decide +kernel
theorem dX12_findsRow_101 : decode cX12_findsRow 101 = .ok (.aload_n 0, 1) := by decide +kernel
theorem dX12_findsRow_102 : decode cX12_findsRow 102 = .ok (.iload_n 2, 1) := by decide +kernel
theorem dX12_findsRow_103 : decode cX12_findsRow 103 = .ok (.invokevirtual 409, 3) := by decide +kernel
theorem dX12_findsRow_106 : decode cX12_findsRow 106 = .ok (.goto (-78), 3) := by decide +kernel
theorem dX12_findsRow_109 : decode cX12_findsRow 109 = .ok (.iinc 3 1, 3) := by decide +kernel
theorem dX12_findsRow_112 : decode cX12_findsRow 112 = .ok (.aload_n 0, 1) := by decide +kernel
theorem dX12_findsRow_113 : decode cX12_findsRow 113 = .ok (.getfield 65, 3) := by decide +kernel
theorem dX12_findsRow_116 : decode cX12_findsRow 116 = .ok (.iload_n 3, 1) := by decide +kernel
theorem dX12_findsRow_117 : decode cX12_findsRow 117 = .ok (.iconst (-1), 1) := by decide +kernel
theorem dX12_findsRow_118 : decode cX12_findsRow 118 = .ok (.iastore, 1) := by decide +kernel
theorem dX12_findsRow_119 : decode cX12_findsRow 119 = .ok (.goto (-91), 3) := by decide +kernel
theorem dX12_findsRow_122 : decode cX12_findsRow 122 = .ok (.return_, 1) := by decide +kernel
theorem dX12_row_0 : decode cX12_row 0 = .ok (.aload_n 0, 1) := by decide +kernel
theorem dX12_row_1 : decode cX12_row 1 = .ok (.invokevirtual 297, 3) := by decide +kernel
theorem dX12_row_4 : decode cX12_row 4 = .ok (.ifCond .eq 17, 3) := by decide +kernel
theorem dX12_row_7 : decode cX12_row 7 = .ok (.iload_n 1, 1) := by decide +kernel
theorem dX12_row_8 : decode cX12_row 8 = .ok (.i2l, 1) := by decide +kernel
theorem dX12_row_9 : decode cX12_row 9 = .ok (.ldc2_w 412, 3) := by decide +kernel
theorem dX12_row_12 : decode cX12_row 12 = .ok (.ldc2_w 414, 3) := by decide +kernel
theorem dX12_row_15 : decode cX12_row 15 = .ok (.invokestatic 130, 3) := by decide +kernel
theorem dX12_row_18 : decode cX12_row 18 = .ok (.ifCond .ne 6, 3) := by decide +kernel
theorem dX12_row_21 : decode cX12_row 21 = .ok (.bipush (-3), 2) := by decide +kernel
theorem dX12_row_23 : decode cX12_row 23 = .ok (.ireturn, 1) := by decide +kernel
theorem dX12_row_24 : decode cX12_row 24 = .ok (.aload_n 0, 1) := by decide +kernel
theorem dX12_row_25 : decode cX12_row 25 = .ok (.aload_n 0, 1) := by decide +kernel
theorem dX12_row_26 : decode cX12_row 26 = .ok (.getfield 39, 3) := by decide +kernel
theorem dX12_row_29 : decode cX12_row 29 = .ok (.bipush 11, 2) := by decide +kernel
theorem dX12_row_31 : decode cX12_row 31 = .ok (.iaload, 1) := by decide +kernel
theorem dX12_row_32 : decode cX12_row 32 = .ok (.invokevirtual 334, 3) := by decide +kernel
theorem dX12_row_35 : decode cX12_row 35 = .ok (.istore_n 2, 1) := by decide +kernel
theorem dX12_row_36 : decode cX12_row 36 = .ok (.aload_n 0, 1) := by decide +kernel
theorem dX12_row_37 : decode cX12_row 37 = .ok (.iload_n 2, 1) := by decide +kernel
theorem dX12_row_38 : decode cX12_row 38 = .ok (.invokevirtual 416, 3) := by decide +kernel
theorem dX12_row_41 : decode cX12_row 41 = .ok (.iload_n 1, 1) := by decide +kernel
theorem dX12_row_42 : decode cX12_row 42 = .ok (.iconst (-1), 1) := by decide +kernel
theorem dX12_row_43 : decode cX12_row 43 = .ok (.if_icmp .ne 10, 3) := by decide +kernel
theorem dX12_row_46 : decode cX12_row 46 = .ok (.aload_n 0, 1) := by decide +kernel
theorem dX12_row_47 : decode cX12_row 47 = .ok (.getfield 403, 3) := by decide +kernel
theorem dX12_row_50 : decode cX12_row 50 = .ok (.goto 22, 3) := by decide +kernel
theorem dX12_row_53 : decode cX12_row 53 = .ok (.iload_n 1, 1) := by decide +kernel
theorem dX12_row_54 : decode cX12_row 54 = .ok (.iload_n 2, 1) := by decide +kernel
theorem dX12_row_55 : decode cX12_row 55 = .ok (.invokestatic 337, 3) := by decide +kernel
theorem dX12_row_58 : decode cX12_row 58 = .ok (.if_icmp .ge 12, 3) := by decide +kernel
theorem dX12_row_61 : decode cX12_row 61 = .ok (.aload_n 0, 1) := by decide +kernel
theorem dX12_row_62 : decode cX12_row 62 = .ok (.getfield 68, 3) := by decide +kernel
theorem dX12_row_65 : decode cX12_row 65 = .ok (.iload_n 1, 1) := by decide +kernel
theorem dX12_row_66 : decode cX12_row 66 = .ok (.iaload, 1) := by decide +kernel
theorem dX12_row_67 : decode cX12_row 67 = .ok (.goto 5, 3) := by decide +kernel
theorem dX12_row_70 : decode cX12_row 70 = .ok (.bipush (-2), 2) := by decide +kernel
theorem dX12_row_72 : decode cX12_row 72 = .ok (.ireturn, 1) := by decide +kernel
theorem dX12_fare_0 : decode cX12_fare 0 = .ok (.aload_n 0, 1) := by decide +kernel
theorem dX12_fare_1 : decode cX12_fare 1 = .ok (.iload_n 1, 1) := by decide +kernel
theorem dX12_fare_2 : decode cX12_fare 2 = .ok (.invokevirtual 376, 3) := by decide +kernel
theorem dX12_fare_5 : decode cX12_fare 5 = .ok (.ifCond .eq 31, 3) := by decide +kernel
theorem dX12_fare_8 : decode cX12_fare 8 = .ok (.aload_n 0, 1) := by decide +kernel
theorem dX12_fare_9 : decode cX12_fare 9 = .ok (.iload_n 3, 1) := by decide +kernel
theorem dX12_fare_10 : decode cX12_fare 10 = .ok (.invokevirtual 349, 3) := by decide +kernel
theorem dX12_fare_13 : decode cX12_fare 13 = .ok (.ifCond .eq 23, 3) := by decide +kernel
theorem dX12_fare_16 : decode cX12_fare 16 = .ok (.iload_n 1, 1) := by decide +kernel
theorem dX12_fare_17 : decode cX12_fare 17 = .ok (.iload_n 3, 1) := by decide +kernel
theorem dX12_fare_18 : decode cX12_fare 18 = .ok (.invokestatic 308, 3) := by decide +kernel
theorem dX12_fare_21 : decode cX12_fare 21 = .ok (.ifCond .eq 15, 3) := by decide +kernel
theorem dX12_fare_24 : decode cX12_fare 24 = .ok (.iload_n 2, 1) := by decide +kernel
theorem dX12_fare_25 : decode cX12_fare 25 = .ok (.i2l, 1) := by decide +kernel
theorem dX12_fare_26 : decode cX12_fare 26 = .ok (.lconst 0, 1) := by decide +kernel
theorem dX12_fare_27 : decode cX12_fare 27 = .ok (.ldc2_w 419, 3) := by decide +kernel
theorem dX12_fare_30 : decode cX12_fare 30 = .ok (.invokestatic 130, 3) := by decide +kernel
theorem dX12_fare_33 : decode cX12_fare 33 = .ok (.ifCond .ne 5, 3) := by decide +kernel
theorem dX12_fare_36 : decode cX12_fare 36 = .ok (.iconst (-1), 1) := by decide +kernel
theorem dX12_fare_37 : decode cX12_fare 37 = .ok (.ireturn, 1) := by decide +kernel
theorem dX12_fare_38 : decode cX12_fare 38 = .ok (.aload_n 0, 1) := by decide +kernel
theorem dX12_fare_39 : decode cX12_fare 39 = .ok (.iload_n 1, 1) := by decide +kernel
theorem dX12_fare_40 : decode cX12_fare 40 = .ok (.iconst 0, 1) := by decide +kernel
theorem dX12_fare_41 : decode cX12_fare 41 = .ok (.invokevirtual 323, 3) := by decide +kernel
theorem dX12_fare_44 : decode cX12_fare 44 = .ok (.istore 4, 2) := by decide +kernel
theorem dX12_fare_46 : decode cX12_fare 46 = .ok (.iload 4, 2) := by decide +kernel
theorem dX12_fare_48 : decode cX12_fare 48 = .ok (.ifCond .ne 7, 3) := by decide +kernel
theorem dX12_fare_51 : decode cX12_fare 51 = .ok (.iconst 1, 1) := by decide +kernel
theorem dX12_fare_52 : decode cX12_fare 52 = .ok (.goto 4, 3) := by decide +kernel
theorem dX12_fare_55 : decode cX12_fare 55 = .ok (.iconst 0, 1) := by decide +kernel
theorem dX12_fare_56 : decode cX12_fare 56 = .ok (.istore 5, 2) := by decide +kernel
theorem dX12_fare_58 : decode cX12_fare 58 = .ok (.iload 5, 2) := by decide +kernel
theorem dX12_fare_60 : decode cX12_fare 60 = .ok (.ifCond .eq 9, 3) := by decide +kernel
theorem dX12_fare_63 : decode cX12_fare 63 = .ok (.iload_n 1, 1) := by decide +kernel
theorem dX12_fare_64 : decode cX12_fare 64 = .ok (.invokestatic 337, 3) := by decide +kernel
theorem dX12_fare_67 : decode cX12_fare 67 = .ok (.istore 4, 2) := by decide +kernel
theorem dX12_fare_69 : decode cX12_fare 69 = .ok (.iload 5, 2) := by decide +kernel
theorem dX12_fare_71 : decode cX12_fare 71 = .ok (.ifCond .eq 7, 3) := by decide +kernel
theorem dX12_fare_74 : decode cX12_fare 74 = .ok (.iconst 1, 1) := by decide +kernel
theorem dX12_fare_75 : decode cX12_fare 75 = .ok (.goto 12, 3) := by decide +kernel
theorem dX12_fare_78 : decode cX12_fare 78 = .ok (.aload_n 0, 1) := by decide +kernel
theorem dX12_fare_79 : decode cX12_fare 79 = .ok (.getfield 39, 3) := by decide +kernel
theorem dX12_fare_82 : decode cX12_fare 82 = .ok (.bipush 14, 2) := by decide +kernel
theorem dX12_fare_84 : decode cX12_fare 84 = .ok (.iload_n 3, 1) := by decide +kernel
theorem dX12_fare_85 : decode cX12_fare 85 = .ok (.iadd, 1) := by decide +kernel
theorem dX12_fare_86 : decode cX12_fare 86 = .ok (.iaload, 1) := by decide +kernel
theorem dX12_fare_87 : decode cX12_fare 87 = .ok (.istore 6, 2) := by decide +kernel
theorem dX12_fare_89 : decode cX12_fare 89 = .ok (.iload_n 2, 1) := by decide +kernel
theorem dX12_fare_90 : decode cX12_fare 90 = .ok (.iload 6, 2) := by decide +kernel
theorem dX12_fare_92 : decode cX12_fare 92 = .ok (.imul, 1) := by decide +kernel
theorem dX12_fare_93 : decode cX12_fare 93 = .ok (.iload 4, 2) := by decide +kernel
theorem dX12_fare_95 : decode cX12_fare 95 = .ok (.irem, 1) := by decide +kernel
theorem dX12_fare_96 : decode cX12_fare 96 = .ok (.istore 7, 2) := by decide +kernel
theorem dX12_fare_98 : decode cX12_fare 98 = .ok (.iload_n 2, 1) := by decide +kernel
theorem dX12_fare_99 : decode cX12_fare 99 = .ok (.istore 8, 2) := by decide +kernel
theorem dX12_fare_101 : decode cX12_fare 101 = .ok (.iconst 0, 1) := by decide +kernel
theorem dX12_fare_102 : decode cX12_fare 102 = .ok (.istore 9, 2) := by decide +kernel
theorem dX12_fare_104 : decode cX12_fare 104 = .ok (.iconst 0, 1) := by decide +kernel
theorem dX12_fare_105 : decode cX12_fare 105 = .ok (.istore 10, 2) := by decide +kernel
theorem dX12_fare_107 : decode cX12_fare 107 = .ok (.iload 10, 2) := by decide +kernel
theorem dX12_fare_109 : decode cX12_fare 109 = .ok (.aload_n 0, 1) := by decide +kernel
theorem dX12_fare_110 : decode cX12_fare 110 = .ok (.getfield 39, 3) := by decide +kernel
theorem dX12_fare_113 : decode cX12_fare 113 = .ok (.iconst 4, 1) := by decide +kernel
theorem dX12_fare_114 : decode cX12_fare 114 = .ok (.iaload, 1) := by decide +kernel
theorem dX12_fare_115 : decode cX12_fare 115 = .ok (.if_icmp .ge 93, 3) := by decide +kernel
theorem dX12_fare_118 : decode cX12_fare 118 = .ok (.iload_n 1, 1) := by decide +kernel
theorem dX12_fare_119 : decode cX12_fare 119 = .ok (.iload 10, 2) := by decide +kernel
theorem dX12_fare_121 : decode cX12_fare 121 = .ok (.invokestatic 308, 3) := by decide +kernel
theorem dX12_fare_124 : decode cX12_fare 124 = .ok (.ifCond .ne 6, 3) := by decide +kernel
theorem dX12_fare_127 : decode cX12_fare 127 = .ok (.goto 75, 3) := by decide +kernel
theorem dX12_fare_130 : decode cX12_fare 130 = .ok (.iload 5, 2) := by decide +kernel
theorem dX12_fare_132 : decode cX12_fare 132 = .ok (.ifCond .eq 7, 3) := by decide +kernel
theorem dX12_fare_135 : decode cX12_fare 135 = .ok (.iconst 1, 1) := by decide +kernel
theorem dX12_fare_136 : decode cX12_fare 136 = .ok (.goto 13, 3) := by decide +kernel
theorem dX12_fare_139 : decode cX12_fare 139 = .ok (.aload_n 0, 1) := by decide +kernel
theorem dX12_fare_140 : decode cX12_fare 140 = .ok (.getfield 39, 3) := by decide +kernel
theorem dX12_fare_143 : decode cX12_fare 143 = .ok (.bipush 14, 2) := by decide +kernel
theorem dX12_fare_145 : decode cX12_fare 145 = .ok (.iload 10, 2) := by decide +kernel
theorem dX12_fare_147 : decode cX12_fare 147 = .ok (.iadd, 1) := by decide +kernel
theorem dX12_fare_148 : decode cX12_fare 148 = .ok (.iaload, 1) := by decide +kernel
theorem dX12_fare_149 : decode cX12_fare 149 = .ok (.istore 11, 2) := by decide +kernel
theorem dX12_fare_151 : decode cX12_fare 151 = .ok (.iload 8, 2) := by decide +kernel
theorem dX12_fare_153 : decode cX12_fare 153 = .ok (.iload_n 2, 1) := by decide +kernel
theorem dX12_fare_154 : decode cX12_fare 154 = .ok (.iload 11, 2) := by decide +kernel
theorem dX12_fare_156 : decode cX12_fare 156 = .ok (.imul, 1) := by decide +kernel
theorem dX12_fare_157 : decode cX12_fare 157 = .ok (.iload 4, 2) := by decide +kernel
theorem dX12_fare_159 : decode cX12_fare 159 = .ok (.idiv, 1) := by decide +kernel
theorem dX12_fare_160 : decode cX12_fare 160 = .ok (.isub, 1) := by decide +kernel
theorem dX12_fare_161 : decode cX12_fare 161 = .ok (.istore 8, 2) := by decide +kernel
theorem dX12_fare_163 : decode cX12_fare 163 = .ok (.iload_n 2, 1) := by decide +kernel
theorem dX12_fare_164 : decode cX12_fare 164 = .ok (.iload 11, 2) := by decide +kernel
theorem dX12_fare_166 : decode cX12_fare 166 = .ok (.imul, 1) := by decide +kernel
theorem dX12_fare_167 : decode cX12_fare 167 = .ok (.iload 4, 2) := by decide +kernel
theorem dX12_fare_169 : decode cX12_fare 169 = .ok (.irem, 1) := by decide +kernel
theorem dX12_fare_170 : decode cX12_fare 170 = .ok (.istore 12, 2) := by decide +kernel
theorem dX12_fare_172 : decode cX12_fare 172 = .ok (.iload 9, 2) := by decide +kernel
theorem dX12_fare_174 : decode cX12_fare 174 = .ok (.iload 12, 2) := by decide +kernel
theorem dX12_fare_176 : decode cX12_fare 176 = .ok (.iload 7, 2) := by decide +kernel
theorem dX12_fare_178 : decode cX12_fare 178 = .ok (.if_icmp .gt 16, 3) := by decide +kernel
theorem dX12_fare_181 : decode cX12_fare 181 = .ok (.iload 12, 2) := by decide +kernel
theorem dX12_fare_183 : decode cX12_fare 183 = .ok (.iload 7, 2) := by decide +kernel
theorem dX12_fare_185 : decode cX12_fare 185 = .ok (.if_icmp .ne 13, 3) := by decide +kernel
theorem dX12_fare_188 : decode cX12_fare 188 = .ok (.iload 10, 2) := by decide +kernel
theorem dX12_fare_190 : decode cX12_fare 190 = .ok (.iload_n 3, 1) := by decide +kernel
theorem dX12_fare_191 : decode cX12_fare 191 = .ok (.if_icmp .ge 7, 3) := by decide +kernel
theorem dX12_fare_194 : decode cX12_fare 194 = .ok (.iconst 1, 1) := by decide +kernel
theorem dX12_fare_195 : decode cX12_fare 195 = .ok (.goto 4, 3) := by decide +kernel
theorem dX12_fare_198 : decode cX12_fare 198 = .ok (.iconst 0, 1) := by decide +kernel
theorem dX12_fare_199 : decode cX12_fare 199 = .ok (.iadd, 1) := by decide +kernel
theorem dX12_fare_200 : decode cX12_fare 200 = .ok (.istore 9, 2) := by decide +kernel
theorem dX12_fare_202 : decode cX12_fare 202 = .ok (.iinc 10 1, 3) := by decide +kernel
theorem dX12_fare_205 : decode cX12_fare 205 = .ok (.goto (-98), 3) := by decide +kernel
theorem dX12_fare_208 : decode cX12_fare 208 = .ok (.iload_n 2, 1) := by decide +kernel
theorem dX12_fare_209 : decode cX12_fare 209 = .ok (.iload 6, 2) := by decide +kernel
theorem dX12_fare_211 : decode cX12_fare 211 = .ok (.imul, 1) := by decide +kernel
theorem dX12_fare_212 : decode cX12_fare 212 = .ok (.iload 4, 2) := by decide +kernel
theorem dX12_fare_214 : decode cX12_fare 214 = .ok (.idiv, 1) := by decide +kernel
theorem dX12_fare_215 : decode cX12_fare 215 = .ok (.iload 9, 2) := by decide +kernel
theorem dX12_fare_217 : decode cX12_fare 217 = .ok (.iload 8, 2) := by decide +kernel
theorem dX12_fare_219 : decode cX12_fare 219 = .ok (.if_icmp .ge 7, 3) := by decide +kernel
theorem dX12_fare_222 : decode cX12_fare 222 = .ok (.iconst 1, 1) := by decide +kernel
theorem dX12_fare_223 : decode cX12_fare 223 = .ok (.goto 4, 3) := by decide +kernel
theorem dX12_fare_226 : decode cX12_fare 226 = .ok (.iconst 0, 1) := by decide +kernel
theorem dX12_fare_227 : decode cX12_fare 227 = .ok (.iadd, 1) := by decide +kernel
theorem dX12_fare_228 : decode cX12_fare 228 = .ok (.ireturn, 1) := by decide +kernel
theorem dX12_stay_0 : decode cX12_stay 0 = .ok (.aload_n 0, 1) := by decide +kernel
theorem dX12_stay_1 : decode cX12_stay 1 = .ok (.invokevirtual 297, 3) := by decide +kernel
theorem dX12_stay_4 : decode cX12_stay 4 = .ok (.ifCond .eq 13, 3) := by decide +kernel
theorem dX12_stay_7 : decode cX12_stay 7 = .ok (.iload_n 1, 1) := by decide +kernel
theorem dX12_stay_8 : decode cX12_stay 8 = .ok (.i2l, 1) := by decide +kernel
theorem dX12_stay_9 : decode cX12_stay 9 = .ok (.lconst 0, 1) := by decide +kernel
theorem dX12_stay_10 : decode cX12_stay 10 = .ok (.lconst 1, 1) := by decide +kernel
theorem dX12_stay_11 : decode cX12_stay 11 = .ok (.invokestatic 130, 3) := by decide +kernel
theorem dX12_stay_14 : decode cX12_stay 14 = .ok (.ifCond .ne 5, 3) := by decide +kernel
theorem dX12_stay_17 : decode cX12_stay 17 = .ok (.iconst (-1), 1) := by decide +kernel
theorem dX12_stay_18 : decode cX12_stay 18 = .ok (.ireturn, 1) := by decide +kernel
theorem dX12_stay_19 : decode cX12_stay 19 = .ok (.aload_n 0, 1) := by decide +kernel
theorem dX12_stay_20 : decode cX12_stay 20 = .ok (.aload_n 0, 1) := by decide +kernel
theorem dX12_stay_21 : decode cX12_stay 21 = .ok (.getfield 39, 3) := by decide +kernel
theorem dX12_stay_24 : decode cX12_stay 24 = .ok (.bipush 11, 2) := by decide +kernel
theorem dX12_stay_26 : decode cX12_stay 26 = .ok (.iaload, 1) := by decide +kernel
theorem dX12_stay_27 : decode cX12_stay 27 = .ok (.invokevirtual 334, 3) := by decide +kernel
theorem dX12_stay_30 : decode cX12_stay 30 = .ok (.istore_n 2, 1) := by decide +kernel
theorem dX12_stay_31 : decode cX12_stay 31 = .ok (.bipush (-2), 2) := by decide +kernel
theorem dX12_stay_33 : decode cX12_stay 33 = .ok (.istore_n 3, 1) := by decide +kernel
theorem dX12_stay_34 : decode cX12_stay 34 = .ok (.bipush (-2), 2) := by decide +kernel
theorem dX12_stay_36 : decode cX12_stay 36 = .ok (.istore 4, 2) := by decide +kernel
theorem dX12_stay_38 : decode cX12_stay 38 = .ok (.iconst 0, 1) := by decide +kernel
theorem dX12_stay_39 : decode cX12_stay 39 = .ok (.istore 5, 2) := by decide +kernel
theorem dX12_stay_41 : decode cX12_stay 41 = .ok (.iload 5, 2) := by decide +kernel
theorem dX12_stay_43 : decode cX12_stay 43 = .ok (.aload_n 0, 1) := by decide +kernel
theorem dX12_stay_44 : decode cX12_stay 44 = .ok (.getfield 39, 3) := by decide +kernel
theorem dX12_stay_47 : decode cX12_stay 47 = .ok (.iconst 4, 1) := by decide +kernel
theorem dX12_stay_48 : decode cX12_stay 48 = .ok (.iaload, 1) := by decide +kernel
theorem dX12_stay_49 : decode cX12_stay 49 = .ok (.if_icmp .ge 57, 3) := by decide +kernel
theorem dX12_stay_52 : decode cX12_stay 52 = .ok (.iload_n 2, 1) := by decide +kernel
theorem dX12_stay_53 : decode cX12_stay 53 = .ok (.iload 5, 2) := by decide +kernel
theorem dX12_stay_55 : decode cX12_stay 55 = .ok (.invokestatic 308, 3) := by decide +kernel
theorem dX12_stay_58 : decode cX12_stay 58 = .ok (.ifCond .ne 6, 3) := by decide +kernel
theorem dX12_stay_61 : decode cX12_stay 61 = .ok (.goto 39, 3) := by decide +kernel
theorem dX12_stay_64 : decode cX12_stay 64 = .ok (.aload_n 0, 1) := by decide +kernel
theorem dX12_stay_65 : decode cX12_stay 65 = .ok (.iload_n 2, 1) := by decide +kernel
theorem dX12_stay_66 : decode cX12_stay 66 = .ok (.iconst 1, 1) := by decide +kernel
theorem dX12_stay_67 : decode cX12_stay 67 = .ok (.iload 5, 2) := by decide +kernel
theorem dX12_stay_69 : decode cX12_stay 69 = .ok (.ishl, 1) := by decide +kernel
theorem dX12_stay_70 : decode cX12_stay 70 = .ok (.iconst (-1), 1) := by decide +kernel
theorem dX12_stay_71 : decode cX12_stay 71 = .ok (.ixor, 1) := by decide +kernel
theorem dX12_stay_72 : decode cX12_stay 72 = .ok (.iand, 1) := by decide +kernel
theorem dX12_stay_73 : decode cX12_stay 73 = .ok (.iconst 0, 1) := by decide +kernel
theorem dX12_stay_74 : decode cX12_stay 74 = .ok (.invokevirtual 340, 3) := by decide +kernel
theorem dX12_stay_77 : decode cX12_stay 77 = .ok (.istore 6, 2) := by decide +kernel
theorem dX12_stay_79 : decode cX12_stay 79 = .ok (.iload_n 3, 1) := by decide +kernel
theorem dX12_stay_80 : decode cX12_stay 80 = .ok (.ifCond .lt 13, 3) := by decide +kernel
theorem dX12_stay_83 : decode cX12_stay 83 = .ok (.iload 6, 2) := by decide +kernel
theorem dX12_stay_85 : decode cX12_stay 85 = .ok (.iload 4, 2) := by decide +kernel
theorem dX12_stay_87 : decode cX12_stay 87 = .ok (.if_icmp .lt 6, 3) := by decide +kernel
theorem dX12_stay_90 : decode cX12_stay 90 = .ok (.goto 10, 3) := by decide +kernel
theorem dX12_stay_93 : decode cX12_stay 93 = .ok (.iload 5, 2) := by decide +kernel
theorem dX12_stay_95 : decode cX12_stay 95 = .ok (.istore_n 3, 1) := by decide +kernel
theorem dX12_stay_96 : decode cX12_stay 96 = .ok (.iload 6, 2) := by decide +kernel
theorem dX12_stay_98 : decode cX12_stay 98 = .ok (.istore 4, 2) := by decide +kernel
theorem dX12_stay_100 : decode cX12_stay 100 = .ok (.iinc 5 1, 3) := by decide +kernel
theorem dX12_stay_103 : decode cX12_stay 103 = .ok (.goto (-62), 3) := by decide +kernel
theorem dX12_stay_106 : decode cX12_stay 106 = .ok (.iload_n 1, 1) := by decide +kernel
theorem dX12_stay_107 : decode cX12_stay 107 = .ok (.ifCond .ne 7, 3) := by decide +kernel
theorem dX12_stay_110 : decode cX12_stay 110 = .ok (.iload_n 3, 1) := by decide +kernel
theorem dX12_stay_111 : decode cX12_stay 111 = .ok (.goto 5, 3) := by decide +kernel
theorem dX12_stay_114 : decode cX12_stay 114 = .ok (.iload 4, 2) := by decide +kernel
theorem dX12_stay_116 : decode cX12_stay 116 = .ok (.ireturn, 1) := by decide +kernel
theorem dX12_lies_0 : decode cX12_lies 0 = .ok (.aload_n 0, 1) := by decide +kernel
theorem dX12_lies_1 : decode cX12_lies 1 = .ok (.iload_n 1, 1) := by decide +kernel
theorem dX12_lies_2 : decode cX12_lies 2 = .ok (.invokevirtual 349, 3) := by decide +kernel
theorem dX12_lies_5 : decode cX12_lies 5 = .ok (.ifCond .eq 39, 3) := by decide +kernel
theorem dX12_lies_8 : decode cX12_lies 8 = .ok (.aload_n 0, 1) := by decide +kernel
theorem dX12_lies_9 : decode cX12_lies 9 = .ok (.iload_n 2, 1) := by decide +kernel
theorem dX12_lies_10 : decode cX12_lies 10 = .ok (.invokevirtual 349, 3) := by decide +kernel
theorem dX12_lies_13 : decode cX12_lies 13 = .ok (.ifCond .eq 31, 3) := by decide +kernel
theorem dX12_lies_16 : decode cX12_lies 16 = .ok (.iload_n 1, 1) := by decide +kernel
theorem dX12_lies_17 : decode cX12_lies 17 = .ok (.iload_n 2, 1) := by decide +kernel
theorem dX12_lies_18 : decode cX12_lies 18 = .ok (.if_icmp .eq 26, 3) := by decide +kernel
theorem dX12_lies_21 : decode cX12_lies 21 = .ok (.iload_n 3, 1) := by decide +kernel
theorem dX12_lies_22 : decode cX12_lies 22 = .ok (.i2l, 1) := by decide +kernel
theorem dX12_lies_23 : decode cX12_lies 23 = .ok (.lconst 1, 1) := by decide +kernel
theorem dX12_lies_24 : decode cX12_lies 24 = .ok (.ldc2_w 379, 3) := by decide +kernel
theorem dX12_lies_27 : decode cX12_lies 27 = .ok (.invokestatic 130, 3) := by decide +kernel
theorem dX12_lies_30 : decode cX12_lies 30 = .ok (.ifCond .eq 14, 3) := by decide +kernel
theorem dX12_lies_33 : decode cX12_lies 33 = .ok (.iload 4, 2) := by decide +kernel
theorem dX12_lies_35 : decode cX12_lies 35 = .ok (.i2l, 1) := by decide +kernel
theorem dX12_lies_36 : decode cX12_lies 36 = .ok (.lconst 0, 1) := by decide +kernel
theorem dX12_lies_37 : decode cX12_lies 37 = .ok (.lconst 1, 1) := by decide +kernel
theorem dX12_lies_38 : decode cX12_lies 38 = .ok (.invokestatic 130, 3) := by decide +kernel
theorem dX12_lies_41 : decode cX12_lies 41 = .ok (.ifCond .ne 5, 3) := by decide +kernel
theorem dX12_lies_44 : decode cX12_lies 44 = .ok (.iconst (-1), 1) := by decide +kernel
theorem dX12_lies_45 : decode cX12_lies 45 = .ok (.ireturn, 1) := by decide +kernel
theorem dX12_lies_46 : decode cX12_lies 46 = .ok (.aload_n 0, 1) := by decide +kernel
theorem dX12_lies_47 : decode cX12_lies 47 = .ok (.invokevirtual 385, 3) := by decide +kernel
theorem dX12_lies_50 : decode cX12_lies 50 = .ok (.iconst 0, 1) := by decide +kernel
theorem dX12_lies_51 : decode cX12_lies 51 = .ok (.istore 5, 2) := by decide +kernel
theorem dX12_lies_53 : decode cX12_lies 53 = .ok (.iload 5, 2) := by decide +kernel
theorem dX12_lies_55 : decode cX12_lies 55 = .ok (.iconst 4, 1) := by decide +kernel
theorem dX12_lies_56 : decode cX12_lies 56 = .ok (.if_icmp .ge 127, 3) := by decide +kernel
theorem dX12_lies_59 : decode cX12_lies 59 = .ok (.iload 5, 2) := by decide +kernel
theorem dX12_lies_61 : decode cX12_lies 61 = .ok (.iconst 2, 1) := by decide +kernel
theorem dX12_lies_62 : decode cX12_lies 62 = .ok (.idiv, 1) := by decide +kernel
theorem dX12_lies_63 : decode cX12_lies 63 = .ok (.iconst 1, 1) := by decide +kernel
theorem dX12_lies_64 : decode cX12_lies 64 = .ok (.if_icmp .ne 16, 3) := by decide +kernel
theorem dX12_lies_67 : decode cX12_lies 67 = .ok (.aload_n 0, 1) := by decide +kernel
theorem dX12_lies_68 : decode cX12_lies 68 = .ok (.getfield 39, 3) := by decide +kernel
theorem dX12_lies_71 : decode cX12_lies 71 = .ok (.bipush 14, 2) := by decide +kernel
theorem dX12_lies_73 : decode cX12_lies 73 = .ok (.iload_n 1, 1) := by decide +kernel
theorem dX12_lies_74 : decode cX12_lies 74 = .ok (.iadd, 1) := by decide +kernel
theorem dX12_lies_75 : decode cX12_lies 75 = .ok (.dup2, 1) := by decide +kernel
theorem dX12_lies_76 : decode cX12_lies 76 = .ok (.iaload, 1) := by decide +kernel
theorem dX12_lies_77 : decode cX12_lies 77 = .ok (.iconst 2, 1) := by decide +kernel
theorem dX12_lies_78 : decode cX12_lies 78 = .ok (.idiv, 1) := by decide +kernel
theorem dX12_lies_79 : decode cX12_lies 79 = .ok (.iastore, 1) := by decide +kernel
theorem dX12_lies_80 : decode cX12_lies 80 = .ok (.iload 5, 2) := by decide +kernel
theorem dX12_lies_82 : decode cX12_lies 82 = .ok (.iconst 2, 1) := by decide +kernel
theorem dX12_lies_83 : decode cX12_lies 83 = .ok (.irem, 1) := by decide +kernel
theorem dX12_lies_84 : decode cX12_lies 84 = .ok (.iconst 1, 1) := by decide +kernel
theorem dX12_lies_85 : decode cX12_lies 85 = .ok (.if_icmp .ne 16, 3) := by decide +kernel
theorem dX12_lies_88 : decode cX12_lies 88 = .ok (.aload_n 0, 1) := by decide +kernel
theorem dX12_lies_89 : decode cX12_lies 89 = .ok (.getfield 39, 3) := by decide +kernel
theorem dX12_lies_92 : decode cX12_lies 92 = .ok (.bipush 14, 2) := by decide +kernel
theorem dX12_lies_94 : decode cX12_lies 94 = .ok (.iload_n 2, 1) := by decide +kernel
theorem dX12_lies_95 : decode cX12_lies 95 = .ok (.iadd, 1) := by decide +kernel
theorem dX12_lies_96 : decode cX12_lies 96 = .ok (.dup2, 1) := by decide +kernel
theorem dX12_lies_97 : decode cX12_lies 97 = .ok (.iaload, 1) := by decide +kernel
theorem dX12_lies_98 : decode cX12_lies 98 = .ok (.iconst 2, 1) := by decide +kernel
theorem dX12_lies_99 : decode cX12_lies 99 = .ok (.idiv, 1) := by decide +kernel
theorem dX12_lies_100 : decode cX12_lies 100 = .ok (.iastore, 1) := by decide +kernel
theorem dX12_lies_101 : decode cX12_lies 101 = .ok (.iconst 0, 1) := by decide +kernel
theorem dX12_lies_102 : decode cX12_lies 102 = .ok (.istore 6, 2) := by decide +kernel
theorem dX12_lies_104 : decode cX12_lies 104 = .ok (.iload 6, 2) := by decide +kernel
theorem dX12_lies_106 : decode cX12_lies 106 = .ok (.iload_n 3, 1) := by decide +kernel
theorem dX12_lies_107 : decode cX12_lies 107 = .ok (.if_icmp .ge 14, 3) := by decide +kernel
theorem dX12_lies_110 : decode cX12_lies 110 = .ok (.aload_n 0, 1) := by decide +kernel
theorem dX12_lies_111 : decode cX12_lies 111 = .ok (.invokevirtual 373, 3) := by decide +kernel
theorem dX12_lies_114 : decode cX12_lies 114 = .ok (.pop, 1) := by decide +kernel
theorem dX12_lies_115 : decode cX12_lies 115 = .ok (.iinc 6 1, 3) := by decide +kernel
theorem dX12_lies_118 : decode cX12_lies 118 = .ok (.goto (-14), 3) := by decide +kernel
theorem dX12_lies_121 : decode cX12_lies 121 = .ok (.aload_n 0, 1) := by decide +kernel
theorem dX12_lies_122 : decode cX12_lies 122 = .ok (.getfield 71, 3) := by decide +kernel
theorem dX12_lies_125 : decode cX12_lies 125 = .ok (.iconst 2, 1) := by decide +kernel
theorem dX12_lies_126 : decode cX12_lies 126 = .ok (.iload 5, 2) := by decide +kernel
theorem dX12_lies_128 : decode cX12_lies 128 = .ok (.imul, 1) := by decide +kernel
theorem dX12_lies_129 : decode cX12_lies 129 = .ok (.iconst 3, 1) := by decide +kernel
theorem dX12_lies_130 : decode cX12_lies 130 = .ok (.aload_n 0, 1) := by decide +kernel
theorem dX12_lies_131 : decode cX12_lies 131 = .ok (.getfield 39, 3) := by decide +kernel
theorem dX12_lies_134 : decode cX12_lies 134 = .ok (.bipush 21, 2) := by decide +kernel
theorem dX12_lies_136 : decode cX12_lies 136 = .ok (.iload_n 1, 1) := by decide +kernel
theorem dX12_lies_137 : decode cX12_lies 137 = .ok (.iadd, 1) := by decide +kernel
theorem dX12_lies_138 : decode cX12_lies 138 = .ok (.iaload, 1) := by decide +kernel
theorem dX12_lies_139 : decode cX12_lies 139 = .ok (.imul, 1) := by decide +kernel
theorem dX12_lies_140 : decode cX12_lies 140 = .ok (.iload 5, 2) := by decide +kernel
theorem dX12_lies_142 : decode cX12_lies 142 = .ok (.iconst 2, 1) := by decide +kernel
theorem dX12_lies_143 : decode cX12_lies 143 = .ok (.idiv, 1) := by decide +kernel
theorem dX12_lies_144 : decode cX12_lies 144 = .ok (.isub, 1) := by decide +kernel
theorem dX12_lies_145 : decode cX12_lies 145 = .ok (.iastore, 1) := by decide +kernel
theorem dX12_lies_146 : decode cX12_lies 146 = .ok (.aload_n 0, 1) := by decide +kernel
theorem dX12_lies_147 : decode cX12_lies 147 = .ok (.getfield 71, 3) := by decide +kernel
theorem dX12_lies_150 : decode cX12_lies 150 = .ok (.iconst 2, 1) := by decide +kernel
theorem dX12_lies_151 : decode cX12_lies 151 = .ok (.iload 5, 2) := by decide +kernel
theorem dX12_lies_153 : decode cX12_lies 153 = .ok (.imul, 1) := by decide +kernel
theorem dX12_lies_154 : decode cX12_lies 154 = .ok (.iconst 1, 1) := by decide +kernel
theorem dX12_lies_155 : decode cX12_lies 155 = .ok (.iadd, 1) := by decide +kernel
theorem dX12_lies_156 : decode cX12_lies 156 = .ok (.iconst 3, 1) := by decide +kernel
theorem dX12_lies_157 : decode cX12_lies 157 = .ok (.aload_n 0, 1) := by decide +kernel
theorem dX12_lies_158 : decode cX12_lies 158 = .ok (.getfield 39, 3) := by decide +kernel
theorem dX12_lies_161 : decode cX12_lies 161 = .ok (.bipush 21, 2) := by decide +kernel
theorem dX12_lies_163 : decode cX12_lies 163 = .ok (.iload_n 2, 1) := by decide +kernel
theorem dX12_lies_164 : decode cX12_lies 164 = .ok (.iadd, 1) := by decide +kernel
theorem dX12_lies_165 : decode cX12_lies 165 = .ok (.iaload, 1) := by decide +kernel
theorem dX12_lies_166 : decode cX12_lies 166 = .ok (.imul, 1) := by decide +kernel
theorem dX12_lies_167 : decode cX12_lies 167 = .ok (.iload 5, 2) := by decide +kernel
theorem dX12_lies_169 : decode cX12_lies 169 = .ok (.iconst 2, 1) := by decide +kernel
theorem dX12_lies_170 : decode cX12_lies 170 = .ok (.irem, 1) := by decide +kernel
theorem dX12_lies_171 : decode cX12_lies 171 = .ok (.isub, 1) := by decide +kernel
theorem dX12_lies_172 : decode cX12_lies 172 = .ok (.iastore, 1) := by decide +kernel
theorem dX12_lies_173 : decode cX12_lies 173 = .ok (.aload_n 0, 1) := by decide +kernel
theorem dX12_lies_174 : decode cX12_lies 174 = .ok (.invokevirtual 388, 3) := by decide +kernel
theorem dX12_lies_177 : decode cX12_lies 177 = .ok (.iinc 5 1, 3) := by decide +kernel
theorem dX12_lies_180 : decode cX12_lies 180 = .ok (.goto (-127), 3) := by decide +kernel
theorem dX12_lies_183 : decode cX12_lies 183 = .ok (.iconst 0, 1) := by decide +kernel
theorem dX12_lies_184 : decode cX12_lies 184 = .ok (.istore 5, 2) := by decide +kernel
theorem dX12_lies_186 : decode cX12_lies 186 = .ok (.bipush (-2), 2) := by decide +kernel
theorem dX12_lies_188 : decode cX12_lies 188 = .ok (.istore 6, 2) := by decide +kernel
theorem dX12_lies_190 : decode cX12_lies 190 = .ok (.iconst 3, 1) := by decide +kernel
theorem dX12_lies_191 : decode cX12_lies 191 = .ok (.istore 7, 2) := by decide +kernel
theorem dX12_lies_193 : decode cX12_lies 193 = .ok (.iload 7, 2) := by decide +kernel
theorem dX12_lies_195 : decode cX12_lies 195 = .ok (.ifCond .lt 69, 3) := by decide +kernel
theorem dX12_lies_198 : decode cX12_lies 198 = .ok (.aload_n 0, 1) := by decide +kernel
theorem dX12_lies_199 : decode cX12_lies 199 = .ok (.getfield 71, 3) := by decide +kernel
theorem dX12_lies_202 : decode cX12_lies 202 = .ok (.iconst 2, 1) := by decide +kernel
theorem dX12_lies_203 : decode cX12_lies 203 = .ok (.iload 7, 2) := by decide +kernel
theorem dX12_lies_205 : decode cX12_lies 205 = .ok (.iconst 2, 1) := by decide +kernel
theorem dX12_lies_206 : decode cX12_lies 206 = .ok (.ixor, 1) := by decide +kernel
theorem dX12_lies_207 : decode cX12_lies 207 = .ok (.imul, 1) := by decide +kernel
theorem dX12_lies_208 : decode cX12_lies 208 = .ok (.iaload, 1) := by decide +kernel
theorem dX12_lies_209 : decode cX12_lies 209 = .ok (.aload_n 0, 1) := by decide +kernel
theorem dX12_lies_210 : decode cX12_lies 210 = .ok (.getfield 71, 3) := by decide +kernel
theorem dX12_lies_213 : decode cX12_lies 213 = .ok (.iconst 2, 1) := by decide +kernel
theorem dX12_lies_214 : decode cX12_lies 214 = .ok (.iload 7, 2) := by decide +kernel
theorem dX12_lies_216 : decode cX12_lies 216 = .ok (.imul, 1) := by decide +kernel
theorem dX12_lies_217 : decode cX12_lies 217 = .ok (.iaload, 1) := by decide +kernel
theorem dX12_lies_218 : decode cX12_lies 218 = .ok (.if_icmp .gt 40, 3) := by decide +kernel
theorem dX12_lies_221 : decode cX12_lies 221 = .ok (.aload_n 0, 1) := by decide +kernel
theorem dX12_lies_222 : decode cX12_lies 222 = .ok (.getfield 71, 3) := by decide +kernel
theorem dX12_lies_225 : decode cX12_lies 225 = .ok (.iconst 2, 1) := by decide +kernel
theorem dX12_lies_226 : decode cX12_lies 226 = .ok (.iload 7, 2) := by decide +kernel
theorem dX12_lies_228 : decode cX12_lies 228 = .ok (.iconst 1, 1) := by decide +kernel
theorem dX12_lies_229 : decode cX12_lies 229 = .ok (.ixor, 1) := by decide +kernel
theorem dX12_lies_230 : decode cX12_lies 230 = .ok (.imul, 1) := by decide +kernel
theorem dX12_lies_231 : decode cX12_lies 231 = .ok (.iconst 1, 1) := by decide +kernel
theorem dX12_lies_232 : decode cX12_lies 232 = .ok (.iadd, 1) := by decide +kernel
theorem dX12_lies_233 : decode cX12_lies 233 = .ok (.iaload, 1) := by decide +kernel
theorem dX12_lies_234 : decode cX12_lies 234 = .ok (.aload_n 0, 1) := by decide +kernel
theorem dX12_lies_235 : decode cX12_lies 235 = .ok (.getfield 71, 3) := by decide +kernel
theorem dX12_lies_238 : decode cX12_lies 238 = .ok (.iconst 2, 1) := by decide +kernel
theorem dX12_lies_239 : decode cX12_lies 239 = .ok (.iload 7, 2) := by decide +kernel
theorem dX12_lies_241 : decode cX12_lies 241 = .ok (.imul, 1) := by decide +kernel
theorem dX12_lies_242 : decode cX12_lies 242 = .ok (.iconst 1, 1) := by decide +kernel
theorem dX12_lies_243 : decode cX12_lies 243 = .ok (.iadd, 1) := by decide +kernel
theorem dX12_lies_244 : decode cX12_lies 244 = .ok (.iaload, 1) := by decide +kernel
theorem dX12_lies_245 : decode cX12_lies 245 = .ok (.if_icmp .le 6, 3) := by decide +kernel
theorem dX12_lies_248 : decode cX12_lies 248 = .ok (.goto 10, 3) := by decide +kernel
theorem dX12_lies_251 : decode cX12_lies 251 = .ok (.iinc 5 1, 3) := by decide +kernel
theorem dX12_lies_254 : decode cX12_lies 254 = .ok (.iload 7, 2) := by decide +kernel
theorem dX12_lies_256 : decode cX12_lies 256 = .ok (.istore 6, 2) := by decide +kernel
theorem dX12_lies_258 : decode cX12_lies 258 = .ok (.iinc 7 (-1), 3) := by decide +kernel
theorem dX12_lies_261 : decode cX12_lies 261 = .ok (.goto (-68), 3) := by decide +kernel
theorem dX12_lies_264 : decode cX12_lies 264 = .ok (.iload 4, 2) := by decide +kernel
theorem dX12_lies_266 : decode cX12_lies 266 = .ok (.ifCond .ne 8, 3) := by decide +kernel
theorem dX12_lies_269 : decode cX12_lies 269 = .ok (.iload 5, 2) := by decide +kernel
theorem dX12_lies_271 : decode cX12_lies 271 = .ok (.goto 5, 3) := by decide +kernel
theorem dX12_lies_274 : decode cX12_lies 274 = .ok (.iload 6, 2) := by decide +kernel
theorem dX12_lies_276 : decode cX12_lies 276 = .ok (.ireturn, 1) := by decide +kernel
theorem dX12_waits_0 : decode cX12_waits 0 = .ok (.aload_n 0, 1) := by decide +kernel
theorem dX12_waits_1 : decode cX12_waits 1 = .ok (.iload_n 1, 1) := by decide +kernel
theorem dX12_waits_2 : decode cX12_waits 2 = .ok (.invokevirtual 349, 3) := by decide +kernel
theorem dX12_waits_5 : decode cX12_waits 5 = .ok (.ifCond .ne 5, 3) := by decide +kernel
theorem dX12_waits_8 : decode cX12_waits 8 = .ok (.iconst (-1), 1) := by decide +kernel
theorem dX12_waits_9 : decode cX12_waits 9 = .ok (.ireturn, 1) := by decide +kernel
theorem dX12_waits_10 : decode cX12_waits 10 = .ok (.bipush (-2), 2) := by decide +kernel
theorem dX12_waits_12 : decode cX12_waits 12 = .ok (.istore_n 2, 1) := by decide +kernel
theorem dX12_waits_13 : decode cX12_waits 13 = .ok (.aload_n 0, 1) := by decide +kernel
theorem dX12_waits_14 : decode cX12_waits 14 = .ok (.invokevirtual 385, 3) := by decide +kernel
theorem dX12_waits_17 : decode cX12_waits 17 = .ok (.iconst 0, 1) := by decide +kernel
theorem dX12_waits_18 : decode cX12_waits 18 = .ok (.istore_n 3, 1) := by decide +kernel
theorem dX12_waits_19 : decode cX12_waits 19 = .ok (.iload_n 3, 1) := by decide +kernel
theorem dX12_waits_20 : decode cX12_waits 20 = .ok (.bipush 100, 2) := by decide +kernel
theorem dX12_waits_22 : decode cX12_waits 22 = .ok (.if_icmp .ge 36, 3) := by decide +kernel
theorem dX12_waits_25 : decode cX12_waits 25 = .ok (.iload_n 2, 1) := by decide +kernel
theorem dX12_waits_26 : decode cX12_waits 26 = .ok (.ifCond .ge 32, 3) := by decide +kernel
theorem dX12_waits_29 : decode cX12_waits 29 = .ok (.aload_n 0, 1) := by decide +kernel
theorem dX12_waits_30 : decode cX12_waits 30 = .ok (.getfield 39, 3) := by decide +kernel
theorem dX12_waits_33 : decode cX12_waits 33 = .ok (.bipush 10, 2) := by decide +kernel
theorem dX12_waits_35 : decode cX12_waits 35 = .ok (.iaload, 1) := by decide +kernel
theorem dX12_waits_36 : decode cX12_waits 36 = .ok (.istore 4, 2) := by decide +kernel
theorem dX12_waits_38 : decode cX12_waits 38 = .ok (.aload_n 0, 1) := by decide +kernel
theorem dX12_waits_39 : decode cX12_waits 39 = .ok (.invokevirtual 373, 3) := by decide +kernel
theorem dX12_waits_42 : decode cX12_waits 42 = .ok (.iload_n 1, 1) := by decide +kernel
theorem dX12_waits_43 : decode cX12_waits 43 = .ok (.invokestatic 308, 3) := by decide +kernel
theorem dX12_waits_46 : decode cX12_waits 46 = .ok (.ifCond .eq 6, 3) := by decide +kernel
theorem dX12_waits_49 : decode cX12_waits 49 = .ok (.iload 4, 2) := by decide +kernel
theorem dX12_waits_51 : decode cX12_waits 51 = .ok (.istore_n 2, 1) := by decide +kernel
theorem dX12_waits_52 : decode cX12_waits 52 = .ok (.iinc 3 1, 3) := by decide +kernel
theorem dX12_waits_55 : decode cX12_waits 55 = .ok (.goto (-36), 3) := by decide +kernel
theorem dX12_waits_58 : decode cX12_waits 58 = .ok (.aload_n 0, 1) := by decide +kernel
theorem dX12_waits_59 : decode cX12_waits 59 = .ok (.invokevirtual 388, 3) := by decide +kernel
theorem dX12_waits_62 : decode cX12_waits 62 = .ok (.iload_n 2, 1) := by decide +kernel
theorem dX12_waits_63 : decode cX12_waits 63 = .ok (.ireturn, 1) := by decide +kernel
theorem dX12_overIn_0 : decode cX12_overIn 0 = .ok (.iconst 0, 1) := by decide +kernel
theorem dX12_overIn_1 : decode cX12_overIn 1 = .ok (.istore_n 2, 1) := by decide +kernel
theorem dX12_overIn_2 : decode cX12_overIn 2 = .ok (.iload_n 2, 1) := by decide +kernel
theorem dX12_overIn_3 : decode cX12_overIn 3 = .ok (.iload_n 1, 1) := by decide +kernel
theorem dX12_overIn_4 : decode cX12_overIn 4 = .ok (.if_icmp .ge 14, 3) := by decide +kernel
theorem dX12_overIn_7 : decode cX12_overIn 7 = .ok (.aload_n 0, 1) := by decide +kernel
theorem dX12_overIn_8 : decode cX12_overIn 8 = .ok (.invokevirtual 373, 3) := by decide +kernel
theorem dX12_overIn_11 : decode cX12_overIn 11 = .ok (.pop, 1) := by decide +kernel
theorem dX12_overIn_12 : decode cX12_overIn 12 = .ok (.iinc 2 1, 3) := by decide +kernel
theorem dX12_overIn_15 : decode cX12_overIn 15 = .ok (.goto (-13), 3) := by decide +kernel
theorem dX12_overIn_18 : decode cX12_overIn 18 = .ok (.aload_n 0, 1) := by decide +kernel
theorem dX12_overIn_19 : decode cX12_overIn 19 = .ok (.iconst 1, 1) := by decide +kernel
theorem dX12_overIn_20 : decode cX12_overIn 20 = .ok (.invokevirtual 334, 3) := by decide +kernel
theorem dX12_overIn_23 : decode cX12_overIn 23 = .ok (.invokestatic 337, 3) := by decide +kernel
theorem dX12_overIn_26 : decode cX12_overIn 26 = .ok (.istore_n 2, 1) := by decide +kernel
theorem dX12_overIn_27 : decode cX12_overIn 27 = .ok (.aload_n 0, 1) := by decide +kernel
theorem dX12_overIn_28 : decode cX12_overIn 28 = .ok (.invokevirtual 388, 3) := by decide +kernel
theorem dX12_overIn_31 : decode cX12_overIn 31 = .ok (.iload_n 2, 1) := by decide +kernel
theorem dX12_overIn_32 : decode cX12_overIn 32 = .ok (.ireturn, 1) := by decide +kernel
theorem dX12_soothe_0 : decode cX12_soothe 0 = .ok (.aload_n 0, 1) := by decide +kernel
theorem dX12_soothe_1 : decode cX12_soothe 1 = .ok (.invokevirtual 297, 3) := by decide +kernel
theorem dX12_soothe_4 : decode cX12_soothe 4 = .ok (.ifCond .eq 25, 3) := by decide +kernel
theorem dX12_soothe_7 : decode cX12_soothe 7 = .ok (.iload_n 1, 1) := by decide +kernel
theorem dX12_soothe_8 : decode cX12_soothe 8 = .ok (.i2l, 1) := by decide +kernel
theorem dX12_soothe_9 : decode cX12_soothe 9 = .ok (.lconst 1, 1) := by decide +kernel
theorem dX12_soothe_10 : decode cX12_soothe 10 = .ok (.ldc2_w 421, 3) := by decide +kernel
theorem dX12_soothe_13 : decode cX12_soothe 13 = .ok (.invokestatic 130, 3) := by decide +kernel
theorem dX12_soothe_16 : decode cX12_soothe 16 = .ok (.ifCond .eq 13, 3) := by decide +kernel
theorem dX12_soothe_19 : decode cX12_soothe 19 = .ok (.iload_n 2, 1) := by decide +kernel
theorem dX12_soothe_20 : decode cX12_soothe 20 = .ok (.i2l, 1) := by decide +kernel
theorem dX12_soothe_21 : decode cX12_soothe 21 = .ok (.lconst 0, 1) := by decide +kernel
theorem dX12_soothe_22 : decode cX12_soothe 22 = .ok (.lconst 1, 1) := by decide +kernel
theorem dX12_soothe_23 : decode cX12_soothe 23 = .ok (.invokestatic 130, 3) := by decide +kernel
theorem dX12_soothe_26 : decode cX12_soothe 26 = .ok (.ifCond .ne 6, 3) := by decide +kernel
theorem dX12_soothe_29 : decode cX12_soothe 29 = .ok (.bipush (-2), 2) := by decide +kernel
theorem dX12_soothe_31 : decode cX12_soothe 31 = .ok (.ireturn, 1) := by decide +kernel
theorem dX12_soothe_32 : decode cX12_soothe 32 = .ok (.aload_n 0, 1) := by decide +kernel
theorem dX12_soothe_33 : decode cX12_soothe 33 = .ok (.invokevirtual 385, 3) := by decide +kernel
theorem dX12_soothe_36 : decode cX12_soothe 36 = .ok (.iconst (-1), 1) := by decide +kernel
theorem dX12_soothe_37 : decode cX12_soothe 37 = .ok (.istore_n 3, 1) := by decide +kernel
theorem dX12_soothe_38 : decode cX12_soothe 38 = .ok (.aload_n 0, 1) := by decide +kernel
theorem dX12_soothe_39 : decode cX12_soothe 39 = .ok (.iload_n 1, 1) := by decide +kernel
theorem dX12_soothe_40 : decode cX12_soothe 40 = .ok (.invokevirtual 423, 3) := by decide +kernel
theorem dX12_soothe_43 : decode cX12_soothe 43 = .ok (.istore 4, 2) := by decide +kernel
theorem dX12_soothe_45 : decode cX12_soothe 45 = .ok (.iconst 0, 1) := by decide +kernel
theorem dX12_soothe_46 : decode cX12_soothe 46 = .ok (.istore 5, 2) := by decide +kernel
theorem dX12_soothe_48 : decode cX12_soothe 48 = .ok (.iload 5, 2) := by decide +kernel
theorem dX12_soothe_50 : decode cX12_soothe 50 = .ok (.aload_n 0, 1) := by decide +kernel
theorem dX12_soothe_51 : decode cX12_soothe 51 = .ok (.getfield 39, 3) := by decide +kernel
theorem dX12_soothe_54 : decode cX12_soothe 54 = .ok (.iconst 4, 1) := by decide +kernel
theorem dX12_soothe_55 : decode cX12_soothe 55 = .ok (.iaload, 1) := by decide +kernel
theorem dX12_soothe_56 : decode cX12_soothe 56 = .ok (.if_icmp .ge 44, 3) := by decide +kernel
theorem dX12_soothe_59 : decode cX12_soothe 59 = .ok (.aload_n 0, 1) := by decide +kernel
theorem dX12_soothe_60 : decode cX12_soothe 60 = .ok (.getfield 39, 3) := by decide +kernel
theorem dX12_soothe_63 : decode cX12_soothe 63 = .ok (.bipush 14, 2) := by decide +kernel
theorem dX12_soothe_65 : decode cX12_soothe 65 = .ok (.iload 5, 2) := by decide +kernel
theorem dX12_soothe_67 : decode cX12_soothe 67 = .ok (.iadd, 1) := by decide +kernel
theorem dX12_soothe_68 : decode cX12_soothe 68 = .ok (.iconst 0, 1) := by decide +kernel
theorem dX12_soothe_69 : decode cX12_soothe 69 = .ok (.iastore, 1) := by decide +kernel
theorem dX12_soothe_70 : decode cX12_soothe 70 = .ok (.aload_n 0, 1) := by decide +kernel
theorem dX12_soothe_71 : decode cX12_soothe 71 = .ok (.iload_n 1, 1) := by decide +kernel
theorem dX12_soothe_72 : decode cX12_soothe 72 = .ok (.invokevirtual 423, 3) := by decide +kernel
theorem dX12_soothe_75 : decode cX12_soothe 75 = .ok (.istore 6, 2) := by decide +kernel
theorem dX12_soothe_77 : decode cX12_soothe 77 = .ok (.iload 6, 2) := by decide +kernel
theorem dX12_soothe_79 : decode cX12_soothe 79 = .ok (.iload 4, 2) := by decide +kernel
theorem dX12_soothe_81 : decode cX12_soothe 81 = .ok (.if_icmp .gt 6, 3) := by decide +kernel
theorem dX12_soothe_84 : decode cX12_soothe 84 = .ok (.goto 10, 3) := by decide +kernel
theorem dX12_soothe_87 : decode cX12_soothe 87 = .ok (.iload 5, 2) := by decide +kernel
theorem dX12_soothe_89 : decode cX12_soothe 89 = .ok (.istore_n 3, 1) := by decide +kernel
theorem dX12_soothe_90 : decode cX12_soothe 90 = .ok (.iload 6, 2) := by decide +kernel
theorem dX12_soothe_92 : decode cX12_soothe 92 = .ok (.istore 4, 2) := by decide +kernel
theorem dX12_soothe_94 : decode cX12_soothe 94 = .ok (.iinc 5 1, 3) := by decide +kernel
theorem dX12_soothe_97 : decode cX12_soothe 97 = .ok (.goto (-49), 3) := by decide +kernel
theorem dX12_soothe_100 : decode cX12_soothe 100 = .ok (.iload_n 2, 1) := by decide +kernel
theorem dX12_soothe_101 : decode cX12_soothe 101 = .ok (.ifCond .ne 7, 3) := by decide +kernel
theorem dX12_soothe_104 : decode cX12_soothe 104 = .ok (.iload_n 3, 1) := by decide +kernel
theorem dX12_soothe_105 : decode cX12_soothe 105 = .ok (.goto 5, 3) := by decide +kernel
theorem dX12_soothe_108 : decode cX12_soothe 108 = .ok (.iload 4, 2) := by decide +kernel
theorem dX12_soothe_110 : decode cX12_soothe 110 = .ok (.ireturn, 1) := by decide +kernel
theorem dX12_never_0 : decode cX12_never 0 = .ok (.aload_n 0, 1) := by decide +kernel
theorem dX12_never_1 : decode cX12_never 1 = .ok (.invokevirtual 297, 3) := by decide +kernel
theorem dX12_never_4 : decode cX12_never 4 = .ok (.ifCond .ne 5, 3) := by decide +kernel
theorem dX12_never_7 : decode cX12_never 7 = .ok (.iconst (-1), 1) := by decide +kernel
theorem dX12_never_8 : decode cX12_never 8 = .ok (.ireturn, 1) := by decide +kernel
theorem dX12_never_9 : decode cX12_never 9 = .ok (.iconst 0, 1) := by decide +kernel
theorem dX12_never_10 : decode cX12_never 10 = .ok (.istore_n 1, 1) := by decide +kernel
theorem dX12_never_11 : decode cX12_never 11 = .ok (.iconst 0, 1) := by decide +kernel
theorem dX12_never_12 : decode cX12_never 12 = .ok (.istore_n 2, 1) := by decide +kernel
theorem dX12_never_13 : decode cX12_never 13 = .ok (.iload_n 2, 1) := by decide +kernel
theorem dX12_never_14 : decode cX12_never 14 = .ok (.iconst 1, 1) := by decide +kernel
theorem dX12_never_15 : decode cX12_never 15 = .ok (.aload_n 0, 1) := by decide +kernel
theorem dX12_never_16 : decode cX12_never 16 = .ok (.getfield 39, 3) := by decide +kernel
theorem dX12_never_19 : decode cX12_never 19 = .ok (.iconst 4, 1) := by decide +kernel
theorem dX12_never_20 : decode cX12_never 20 = .ok (.iaload, 1) := by decide +kernel
theorem dX12_never_21 : decode cX12_never 21 = .ok (.ishl, 1) := by decide +kernel
theorem dX12_never_22 : decode cX12_never 22 = .ok (.if_icmp .ge 29, 3) := by decide +kernel
theorem dX12_never_25 : decode cX12_never 25 = .ok (.iload_n 2, 1) := by decide +kernel
theorem dX12_never_26 : decode cX12_never 26 = .ok (.iload_n 1, 1) := by decide +kernel
theorem dX12_never_27 : decode cX12_never 27 = .ok (.iconst (-1), 1) := by decide +kernel
theorem dX12_never_28 : decode cX12_never 28 = .ok (.ixor, 1) := by decide +kernel
theorem dX12_never_29 : decode cX12_never 29 = .ok (.iand, 1) := by decide +kernel
theorem dX12_never_30 : decode cX12_never 30 = .ok (.ifCond .eq 15, 3) := by decide +kernel
theorem dX12_never_33 : decode cX12_never 33 = .ok (.aload_n 0, 1) := by decide +kernel
theorem dX12_never_34 : decode cX12_never 34 = .ok (.iload_n 2, 1) := by decide +kernel
theorem dX12_never_35 : decode cX12_never 35 = .ok (.invokevirtual 391, 3) := by decide +kernel
theorem dX12_never_38 : decode cX12_never 38 = .ok (.ifCond .eq 7, 3) := by decide +kernel
theorem dX12_never_41 : decode cX12_never 41 = .ok (.iload_n 1, 1) := by decide +kernel
theorem dX12_never_42 : decode cX12_never 42 = .ok (.iload_n 2, 1) := by decide +kernel
theorem dX12_never_43 : decode cX12_never 43 = .ok (.ior, 1) := by decide +kernel
theorem dX12_never_44 : decode cX12_never 44 = .ok (.istore_n 1, 1) := by decide +kernel
theorem dX12_never_45 : decode cX12_never 45 = .ok (.iinc 2 1, 3) := by decide +kernel
theorem dX12_never_48 : decode cX12_never 48 = .ok (.goto (-35), 3) := by decide +kernel
theorem dX12_never_51 : decode cX12_never 51 = .ok (.aload_n 0, 1) := by decide +kernel
theorem dX12_never_52 : decode cX12_never 52 = .ok (.aload_n 0, 1) := by decide +kernel
theorem dX12_never_53 : decode cX12_never 53 = .ok (.getfield 39, 3) := by decide +kernel
theorem dX12_never_56 : decode cX12_never 56 = .ok (.bipush 11, 2) := by decide +kernel
theorem dX12_never_58 : decode cX12_never 58 = .ok (.iaload, 1) := by decide +kernel
theorem dX12_never_59 : decode cX12_never 59 = .ok (.invokevirtual 334, 3) := by decide +kernel
theorem dX12_never_62 : decode cX12_never 62 = .ok (.iload_n 1, 1) := by decide +kernel
theorem dX12_never_63 : decode cX12_never 63 = .ok (.iconst (-1), 1) := by decide +kernel
theorem dX12_never_64 : decode cX12_never 64 = .ok (.ixor, 1) := by decide +kernel
theorem dX12_never_65 : decode cX12_never 65 = .ok (.iand, 1) := by decide +kernel
theorem dX12_never_66 : decode cX12_never 66 = .ok (.ireturn, 1) := by decide +kernel
theorem dX12_note_0 : decode cX12_note 0 = .ok (.iload_n 1, 1) := by decide +kernel
theorem dX12_note_1 : decode cX12_note 1 = .ok (.iconst (-1), 1) := by decide +kernel
theorem dX12_note_2 : decode cX12_note 2 = .ok (.if_icmp .ne 14, 3) := by decide +kernel
theorem dX12_note_5 : decode cX12_note 5 = .ok (.aload_n 0, 1) := by decide +kernel
theorem dX12_note_6 : decode cX12_note 6 = .ok (.getfield 39, 3) := by decide +kernel
theorem dX12_note_9 : decode cX12_note 9 = .ok (.sipush 189, 3) := by decide +kernel
theorem dX12_note_12 : decode cX12_note 12 = .ok (.iconst 0, 1) := by decide +kernel
theorem dX12_note_13 : decode cX12_note 13 = .ok (.iastore, 1) := by decide +kernel
theorem dX12_note_14 : decode cX12_note 14 = .ok (.iconst 0, 1) := by decide +kernel
theorem dX12_note_15 : decode cX12_note 15 = .ok (.ireturn, 1) := by decide +kernel
theorem dX12_note_16 : decode cX12_note 16 = .ok (.iload_n 1, 1) := by decide +kernel
theorem dX12_note_17 : decode cX12_note 17 = .ok (.i2l, 1) := by decide +kernel
theorem dX12_note_18 : decode cX12_note 18 = .ok (.lconst 0, 1) := by decide +kernel
theorem dX12_note_19 : decode cX12_note 19 = .ok (.ldc2_w 426, 3) := by decide +kernel
theorem dX12_note_22 : decode cX12_note 22 = .ok (.invokestatic 130, 3) := by decide +kernel
theorem dX12_note_25 : decode cX12_note 25 = .ok (.ifCond .eq 34, 3) := by decide +kernel
theorem dX12_note_28 : decode cX12_note 28 = .ok (.aload_n 0, 1) := by decide +kernel
theorem dX12_note_29 : decode cX12_note 29 = .ok (.iload_n 2, 1) := by decide +kernel
theorem dX12_note_30 : decode cX12_note 30 = .ok (.invokevirtual 349, 3) := by decide +kernel
theorem dX12_note_33 : decode cX12_note 33 = .ok (.ifCond .eq 26, 3) := by decide +kernel
theorem dX12_note_36 : decode cX12_note 36 = .ok (.iload_n 3, 1) := by decide +kernel
theorem dX12_note_37 : decode cX12_note 37 = .ok (.i2l, 1) := by decide +kernel
theorem dX12_note_38 : decode cX12_note 38 = .ok (.lconst 0, 1) := by decide +kernel
theorem dX12_note_39 : decode cX12_note 39 = .ok (.lconst 1, 1) := by decide +kernel
theorem dX12_note_40 : decode cX12_note 40 = .ok (.invokestatic 130, 3) := by decide +kernel
theorem dX12_note_43 : decode cX12_note 43 = .ok (.ifCond .eq 16, 3) := by decide +kernel
theorem dX12_note_46 : decode cX12_note 46 = .ok (.aload_n 0, 1) := by decide +kernel
theorem dX12_note_47 : decode cX12_note 47 = .ok (.getfield 39, 3) := by decide +kernel
theorem dX12_note_50 : decode cX12_note 50 = .ok (.sipush 189, 3) := by decide +kernel
theorem dX12_note_53 : decode cX12_note 53 = .ok (.iaload, 1) := by decide +kernel
theorem dX12_note_54 : decode cX12_note 54 = .ok (.bipush 10, 2) := by decide +kernel
theorem dX12_note_56 : decode cX12_note 56 = .ok (.if_icmp .ne 6, 3) := by decide +kernel
theorem dX12_note_59 : decode cX12_note 59 = .ok (.bipush (-2), 2) := by decide +kernel
theorem dX12_note_61 : decode cX12_note 61 = .ok (.ireturn, 1) := by decide +kernel
theorem dX12_note_62 : decode cX12_note 62 = .ok (.sipush 159, 3) := by decide +kernel
theorem dX12_note_65 : decode cX12_note 65 = .ok (.iconst 3, 1) := by decide +kernel
theorem dX12_note_66 : decode cX12_note 66 = .ok (.aload_n 0, 1) := by decide +kernel
theorem dX12_note_67 : decode cX12_note 67 = .ok (.getfield 39, 3) := by decide +kernel
theorem dX12_note_70 : decode cX12_note 70 = .ok (.sipush 189, 3) := by decide +kernel
theorem dX12_note_73 : decode cX12_note 73 = .ok (.iaload, 1) := by decide +kernel
theorem dX12_note_74 : decode cX12_note 74 = .ok (.imul, 1) := by decide +kernel
theorem dX12_note_75 : decode cX12_note 75 = .ok (.iadd, 1) := by decide +kernel
theorem dX12_note_76 : decode cX12_note 76 = .ok (.istore 4, 2) := by decide +kernel
theorem dX12_note_78 : decode cX12_note 78 = .ok (.aload_n 0, 1) := by decide +kernel
theorem dX12_note_79 : decode cX12_note 79 = .ok (.getfield 39, 3) := by decide +kernel
theorem dX12_note_82 : decode cX12_note 82 = .ok (.iload 4, 2) := by decide +kernel
theorem dX12_note_84 : decode cX12_note 84 = .ok (.iload_n 1, 1) := by decide +kernel
theorem dX12_note_85 : decode cX12_note 85 = .ok (.iastore, 1) := by decide +kernel
theorem dX12_note_86 : decode cX12_note 86 = .ok (.aload_n 0, 1) := by decide +kernel
theorem dX12_note_87 : decode cX12_note 87 = .ok (.getfield 39, 3) := by decide +kernel
theorem dX12_note_90 : decode cX12_note 90 = .ok (.iload 4, 2) := by decide +kernel
theorem dX12_note_92 : decode cX12_note 92 = .ok (.iconst 1, 1) := by decide +kernel
theorem dX12_note_93 : decode cX12_note 93 = .ok (.iadd, 1) := by decide +kernel
theorem dX12_note_94 : decode cX12_note 94 = .ok (.iload_n 2, 1) := by decide +kernel
theorem dX12_note_95 : decode cX12_note 95 = .ok (.iastore, 1) := by decide +kernel
theorem dX12_note_96 : decode cX12_note 96 = .ok (.aload_n 0, 1) := by decide +kernel
theorem dX12_note_97 : decode cX12_note 97 = .ok (.getfield 39, 3) := by decide +kernel
theorem dX12_note_100 : decode cX12_note 100 = .ok (.iload 4, 2) := by decide +kernel
theorem dX12_note_102 : decode cX12_note 102 = .ok (.iconst 2, 1) := by decide +kernel
theorem dX12_note_103 : decode cX12_note 103 = .ok (.iadd, 1) := by decide +kernel
theorem dX12_note_104 : decode cX12_note 104 = .ok (.iload_n 3, 1) := by decide +kernel
theorem dX12_note_105 : decode cX12_note 105 = .ok (.iastore, 1) := by decide +kernel
theorem dX12_note_106 : decode cX12_note 106 = .ok (.aload_n 0, 1) := by decide +kernel
theorem dX12_note_107 : decode cX12_note 107 = .ok (.getfield 39, 3) := by decide +kernel
theorem dX12_note_110 : decode cX12_note 110 = .ok (.sipush 189, 3) := by decide +kernel
theorem dX12_note_113 : decode cX12_note 113 = .ok (.dup2, 1) := by decide +kernel
theorem dX12_note_114 : decode cX12_note 114 = .ok (.iaload, 1) := by decide +kernel
theorem dX12_note_115 : decode cX12_note 115 = .ok (.iconst 1, 1) := by decide +kernel
theorem dX12_note_116 : decode cX12_note 116 = .ok (.iadd, 1) := by decide +kernel
theorem dX12_note_117 : decode cX12_note 117 = .ok (.iastore, 1) := by decide +kernel
theorem dX12_note_118 : decode cX12_note 118 = .ok (.aload_n 0, 1) := by decide +kernel
theorem dX12_note_119 : decode cX12_note 119 = .ok (.getfield 39, 3) := by decide +kernel
theorem dX12_note_122 : decode cX12_note 122 = .ok (.sipush 189, 3) := by decide +kernel
theorem dX12_note_125 : decode cX12_note 125 = .ok (.iaload, 1) := by decide +kernel
theorem dX12_note_126 : decode cX12_note 126 = .ok (.ireturn, 1) := by decide +kernel
theorem dX12_areNotesSo_0 : decode cX12_areNotesSo 0 = .ok (.iconst 0, 1) := by decide +kernel
theorem dX12_areNotesSo_1 : decode cX12_areNotesSo 1 = .ok (.istore_n 2, 1) := by decide +kernel
theorem dX12_areNotesSo_2 : decode cX12_areNotesSo 2 = .ok (.iload_n 2, 1) := by decide +kernel
theorem dX12_areNotesSo_3 : decode cX12_areNotesSo 3 = .ok (.iconst 3, 1) := by decide +kernel
theorem dX12_areNotesSo_4 : decode cX12_areNotesSo 4 = .ok (.aload_n 0, 1) := by decide +kernel
theorem dX12_areNotesSo_5 : decode cX12_areNotesSo 5 = .ok (.getfield 39, 3) := by decide +kernel
theorem dX12_areNotesSo_8 : decode cX12_areNotesSo 8 = .ok (.sipush 189, 3) := by decide +kernel
theorem dX12_areNotesSo_11 : decode cX12_areNotesSo 11 = .ok (.iaload, 1) := by decide +kernel
theorem dX12_areNotesSo_12 : decode cX12_areNotesSo 12 = .ok (.imul, 1) := by decide +kernel
theorem dX12_areNotesSo_13 : decode cX12_areNotesSo 13 = .ok (.if_icmp .ge 60, 3) := by decide +kernel
theorem dX12_areNotesSo_16 : decode cX12_areNotesSo 16 = .ok (.aload_n 0, 1) := by decide +kernel
theorem dX12_areNotesSo_17 : decode cX12_areNotesSo 17 = .ok (.getfield 39, 3) := by decide +kernel
theorem dX12_areNotesSo_20 : decode cX12_areNotesSo 20 = .ok (.sipush 159, 3) := by decide +kernel
theorem dX12_areNotesSo_23 : decode cX12_areNotesSo 23 = .ok (.iload_n 2, 1) := by decide +kernel
theorem dX12_areNotesSo_24 : decode cX12_areNotesSo 24 = .ok (.iadd, 1) := by decide +kernel
theorem dX12_areNotesSo_25 : decode cX12_areNotesSo 25 = .ok (.iaload, 1) := by decide +kernel
theorem dX12_areNotesSo_26 : decode cX12_areNotesSo 26 = .ok (.iload_n 1, 1) := by decide +kernel
theorem dX12_areNotesSo_27 : decode cX12_areNotesSo 27 = .ok (.if_icmp .ne 40, 3) := by decide +kernel
theorem dX12_areNotesSo_30 : decode cX12_areNotesSo 30 = .ok (.aload_n 0, 1) := by decide +kernel
theorem dX12_areNotesSo_31 : decode cX12_areNotesSo 31 = .ok (.getfield 39, 3) := by decide +kernel
theorem dX12_areNotesSo_34 : decode cX12_areNotesSo 34 = .ok (.bipush 21, 2) := by decide +kernel
theorem dX12_areNotesSo_36 : decode cX12_areNotesSo 36 = .ok (.aload_n 0, 1) := by decide +kernel
theorem dX12_areNotesSo_37 : decode cX12_areNotesSo 37 = .ok (.getfield 39, 3) := by decide +kernel
theorem dX12_areNotesSo_40 : decode cX12_areNotesSo 40 = .ok (.sipush 159, 3) := by decide +kernel
theorem dX12_areNotesSo_43 : decode cX12_areNotesSo 43 = .ok (.iload_n 2, 1) := by decide +kernel
theorem dX12_areNotesSo_44 : decode cX12_areNotesSo 44 = .ok (.iadd, 1) := by decide +kernel
theorem dX12_areNotesSo_45 : decode cX12_areNotesSo 45 = .ok (.iconst 1, 1) := by decide +kernel
theorem dX12_areNotesSo_46 : decode cX12_areNotesSo 46 = .ok (.iadd, 1) := by decide +kernel
theorem dX12_areNotesSo_47 : decode cX12_areNotesSo 47 = .ok (.iaload, 1) := by decide +kernel
theorem dX12_areNotesSo_48 : decode cX12_areNotesSo 48 = .ok (.iadd, 1) := by decide +kernel
theorem dX12_areNotesSo_49 : decode cX12_areNotesSo 49 = .ok (.iaload, 1) := by decide +kernel
theorem dX12_areNotesSo_50 : decode cX12_areNotesSo 50 = .ok (.aload_n 0, 1) := by decide +kernel
theorem dX12_areNotesSo_51 : decode cX12_areNotesSo 51 = .ok (.getfield 39, 3) := by decide +kernel
theorem dX12_areNotesSo_54 : decode cX12_areNotesSo 54 = .ok (.sipush 159, 3) := by decide +kernel
theorem dX12_areNotesSo_57 : decode cX12_areNotesSo 57 = .ok (.iload_n 2, 1) := by decide +kernel
theorem dX12_areNotesSo_58 : decode cX12_areNotesSo 58 = .ok (.iadd, 1) := by decide +kernel
theorem dX12_areNotesSo_59 : decode cX12_areNotesSo 59 = .ok (.iconst 2, 1) := by decide +kernel
theorem dX12_areNotesSo_60 : decode cX12_areNotesSo 60 = .ok (.iadd, 1) := by decide +kernel
theorem dX12_areNotesSo_61 : decode cX12_areNotesSo 61 = .ok (.iaload, 1) := by decide +kernel
theorem dX12_areNotesSo_62 : decode cX12_areNotesSo 62 = .ok (.if_icmp .eq 5, 3) := by decide +kernel
theorem dX12_areNotesSo_65 : decode cX12_areNotesSo 65 = .ok (.iconst 0, 1) := by decide +kernel
theorem dX12_areNotesSo_66 : decode cX12_areNotesSo 66 = .ok (.ireturn, 1) := by decide +kernel
theorem dX12_areNotesSo_67 : decode cX12_areNotesSo 67 = .ok (.iinc 2 3, 3) := by decide +kernel
theorem dX12_areNotesSo_70 : decode cX12_areNotesSo 70 = .ok (.goto (-68), 3) := by decide +kernel
theorem dX12_areNotesSo_73 : decode cX12_areNotesSo 73 = .ok (.iconst 1, 1) := by decide +kernel
theorem dX12_areNotesSo_74 : decode cX12_areNotesSo 74 = .ok (.ireturn, 1) := by decide +kernel
theorem dX12_fillsFits_0 : decode cX12_fillsFits 0 = .ok (.aload_n 0, 1) := by decide +kernel
theorem dX12_fillsFits_1 : decode cX12_fillsFits 1 = .ok (.getfield 42, 3) := by decide +kernel
theorem dX12_fillsFits_4 : decode cX12_fillsFits 4 = .ok (.istore_n 2, 1) := by decide +kernel
theorem dX12_fillsFits_5 : decode cX12_fillsFits 5 = .ok (.aload_n 0, 1) := by decide +kernel
theorem dX12_fillsFits_6 : decode cX12_fillsFits 6 = .ok (.invokevirtual 385, 3) := by decide +kernel
theorem dX12_fillsFits_9 : decode cX12_fillsFits 9 = .ok (.iconst 0, 1) := by decide +kernel
theorem dX12_fillsFits_10 : decode cX12_fillsFits 10 = .ok (.istore_n 3, 1) := by decide +kernel
theorem dX12_fillsFits_11 : decode cX12_fillsFits 11 = .ok (.iload_n 3, 1) := by decide +kernel
theorem dX12_fillsFits_12 : decode cX12_fillsFits 12 = .ok (.aload_n 0, 1) := by decide +kernel
theorem dX12_fillsFits_13 : decode cX12_fillsFits 13 = .ok (.getfield 270, 3) := by decide +kernel
theorem dX12_fillsFits_16 : decode cX12_fillsFits 16 = .ok (.if_icmp .gt 117, 3) := by decide +kernel
theorem dX12_fillsFits_19 : decode cX12_fillsFits 19 = .ok (.aload_n 0, 1) := by decide +kernel
theorem dX12_fillsFits_20 : decode cX12_fillsFits 20 = .ok (.iload_n 3, 1) := by decide +kernel
theorem dX12_fillsFits_21 : decode cX12_fillsFits 21 = .ok (.iconst 1, 1) := by decide +kernel
theorem dX12_fillsFits_22 : decode cX12_fillsFits 22 = .ok (.isub, 1) := by decide +kernel
theorem dX12_fillsFits_23 : decode cX12_fillsFits 23 = .ok (.putfield 42, 3) := by decide +kernel
theorem dX12_fillsFits_26 : decode cX12_fillsFits 26 = .ok (.aload_n 0, 1) := by decide +kernel
theorem dX12_fillsFits_27 : decode cX12_fillsFits 27 = .ok (.invokevirtual 276, 3) := by decide +kernel
theorem dX12_fillsFits_30 : decode cX12_fillsFits 30 = .ok (.iconst 1, 1) := by decide +kernel
theorem dX12_fillsFits_31 : decode cX12_fillsFits 31 = .ok (.istore 4, 2) := by decide +kernel
theorem dX12_fillsFits_33 : decode cX12_fillsFits 33 = .ok (.iconst 0, 1) := by decide +kernel
theorem dX12_fillsFits_34 : decode cX12_fillsFits 34 = .ok (.istore 5, 2) := by decide +kernel
theorem dX12_fillsFits_36 : decode cX12_fillsFits 36 = .ok (.iload 5, 2) := by decide +kernel
theorem dX12_fillsFits_38 : decode cX12_fillsFits 38 = .ok (.bipush 60, 2) := by decide +kernel
theorem dX12_fillsFits_40 : decode cX12_fillsFits 40 = .ok (.if_icmp .gt 79, 3) := by decide +kernel
theorem dX12_fillsFits_43 : decode cX12_fillsFits 43 = .ok (.aload_n 0, 1) := by decide +kernel
theorem dX12_fillsFits_44 : decode cX12_fillsFits 44 = .ok (.invokevirtual 373, 3) := by decide +kernel
theorem dX12_fillsFits_47 : decode cX12_fillsFits 47 = .ok (.pop, 1) := by decide +kernel
theorem dX12_fillsFits_48 : decode cX12_fillsFits 48 = .ok (.iload 4, 2) := by decide +kernel
theorem dX12_fillsFits_50 : decode cX12_fillsFits 50 = .ok (.ifCond .eq 16, 3) := by decide +kernel
theorem dX12_fillsFits_53 : decode cX12_fillsFits 53 = .ok (.aload_n 0, 1) := by decide +kernel
theorem dX12_fillsFits_54 : decode cX12_fillsFits 54 = .ok (.iload 5, 2) := by decide +kernel
theorem dX12_fillsFits_56 : decode cX12_fillsFits 56 = .ok (.invokevirtual 428, 3) := by decide +kernel
theorem dX12_fillsFits_59 : decode cX12_fillsFits 59 = .ok (.ifCond .eq 7, 3) := by decide +kernel
theorem dX12_fillsFits_62 : decode cX12_fillsFits 62 = .ok (.iconst 1, 1) := by decide +kernel
theorem dX12_fillsFits_63 : decode cX12_fillsFits 63 = .ok (.goto 4, 3) := by decide +kernel
theorem dX12_fillsFits_66 : decode cX12_fillsFits 66 = .ok (.iconst 0, 1) := by decide +kernel
theorem dX12_fillsFits_67 : decode cX12_fillsFits 67 = .ok (.istore 4, 2) := by decide +kernel
theorem dX12_fillsFits_69 : decode cX12_fillsFits 69 = .ok (.iconst 0, 1) := by decide +kernel
theorem dX12_fillsFits_70 : decode cX12_fillsFits 70 = .ok (.istore 6, 2) := by decide +kernel
theorem dX12_fillsFits_72 : decode cX12_fillsFits 72 = .ok (.iload 6, 2) := by decide +kernel
theorem dX12_fillsFits_74 : decode cX12_fillsFits 74 = .ok (.bipush 7, 2) := by decide +kernel
theorem dX12_fillsFits_76 : decode cX12_fillsFits 76 = .ok (.if_icmp .ge 37, 3) := by decide +kernel
theorem dX12_fillsFits_79 : decode cX12_fillsFits 79 = .ok (.iload 5, 2) := by decide +kernel
theorem dX12_fillsFits_81 : decode cX12_fillsFits 81 = .ok (.iload_n 1, 1) := by decide +kernel
theorem dX12_fillsFits_82 : decode cX12_fillsFits 82 = .ok (.if_icmp .ne 31, 3) := by decide +kernel
theorem dX12_fillsFits_85 : decode cX12_fillsFits 85 = .ok (.aload_n 0, 1) := by decide +kernel
theorem dX12_fillsFits_86 : decode cX12_fillsFits 86 = .ok (.getfield 77, 3) := by decide +kernel
theorem dX12_fillsFits_89 : decode cX12_fillsFits 89 = .ok (.bipush 7, 2) := by decide +kernel
theorem dX12_fillsFits_91 : decode cX12_fillsFits 91 = .ok (.iload_n 3, 1) := by decide +kernel
theorem dX12_fillsFits_92 : decode cX12_fillsFits 92 = .ok (.imul, 1) := by decide +kernel
theorem dX12_fillsFits_93 : decode cX12_fillsFits 93 = .ok (.iload 6, 2) := by decide +kernel
theorem dX12_fillsFits_95 : decode cX12_fillsFits 95 = .ok (.iadd, 1) := by decide +kernel
theorem dX12_fillsFits_96 : decode cX12_fillsFits 96 = .ok (.aload_n 0, 1) := by decide +kernel
theorem dX12_fillsFits_97 : decode cX12_fillsFits 97 = .ok (.getfield 39, 3) := by decide +kernel
theorem dX12_fillsFits_100 : decode cX12_fillsFits 100 = .ok (.bipush 21, 2) := by decide +kernel
theorem dX12_fillsFits_102 : decode cX12_fillsFits 102 = .ok (.iload 6, 2) := by decide +kernel
theorem dX12_fillsFits_104 : decode cX12_fillsFits 104 = .ok (.iadd, 1) := by decide +kernel
theorem dX12_fillsFits_105 : decode cX12_fillsFits 105 = .ok (.iaload, 1) := by decide +kernel
theorem dX12_fillsFits_106 : decode cX12_fillsFits 106 = .ok (.iastore, 1) := by decide +kernel
theorem dX12_fillsFits_107 : decode cX12_fillsFits 107 = .ok (.iinc 6 1, 3) := by decide +kernel
theorem dX12_fillsFits_110 : decode cX12_fillsFits 110 = .ok (.goto (-38), 3) := by decide +kernel
theorem dX12_fillsFits_113 : decode cX12_fillsFits 113 = .ok (.iinc 5 1, 3) := by decide +kernel
theorem dX12_fillsFits_116 : decode cX12_fillsFits 116 = .ok (.goto (-80), 3) := by decide +kernel
theorem dX12_fillsFits_119 : decode cX12_fillsFits 119 = .ok (.aload_n 0, 1) := by decide +kernel
theorem dX12_fillsFits_120 : decode cX12_fillsFits 120 = .ok (.getfield 74, 3) := by decide +kernel
theorem dX12_fillsFits_123 : decode cX12_fillsFits 123 = .ok (.iload_n 3, 1) := by decide +kernel
theorem dX12_fillsFits_124 : decode cX12_fillsFits 124 = .ok (.iload 4, 2) := by decide +kernel
theorem dX12_fillsFits_126 : decode cX12_fillsFits 126 = .ok (.bastore, 1) := by decide +kernel
theorem dX12_fillsFits_127 : decode cX12_fillsFits 127 = .ok (.iinc 3 1, 3) := by decide +kernel
theorem dX12_fillsFits_130 : decode cX12_fillsFits 130 = .ok (.goto (-119), 3) := by decide +kernel
theorem dX12_fillsFits_133 : decode cX12_fillsFits 133 = .ok (.aload_n 0, 1) := by decide +kernel
theorem dX12_fillsFits_134 : decode cX12_fillsFits 134 = .ok (.iload_n 2, 1) := by decide +kernel
theorem dX12_fillsFits_135 : decode cX12_fillsFits 135 = .ok (.putfield 42, 3) := by decide +kernel
theorem dX12_fillsFits_138 : decode cX12_fillsFits 138 = .ok (.aload_n 0, 1) := by decide +kernel
theorem dX12_fillsFits_139 : decode cX12_fillsFits 139 = .ok (.invokevirtual 388, 3) := by decide +kernel
theorem dX12_fillsFits_142 : decode cX12_fillsFits 142 = .ok (.return_, 1) := by decide +kernel
theorem dX12_ruled_0 : decode cX12_ruled 0 = .ok (.aload_n 0, 1) := by decide +kernel
theorem dX12_ruled_1 : decode cX12_ruled 1 = .ok (.invokevirtual 297, 3) := by decide +kernel
theorem dX12_ruled_4 : decode cX12_ruled 4 = .ok (.ifCond .eq 13, 3) := by decide +kernel
theorem dX12_ruled_7 : decode cX12_ruled 7 = .ok (.iload_n 1, 1) := by decide +kernel
theorem dX12_ruled_8 : decode cX12_ruled 8 = .ok (.i2l, 1) := by decide +kernel
theorem dX12_ruled_9 : decode cX12_ruled 9 = .ok (.lconst 0, 1) := by decide +kernel
theorem dX12_ruled_10 : decode cX12_ruled 10 = .ok (.lconst 1, 1) := by decide +kernel
theorem dX12_ruled_11 : decode cX12_ruled 11 = .ok (.invokestatic 130, 3) := by decide +kernel
theorem dX12_ruled_14 : decode cX12_ruled 14 = .ok (.ifCond .ne 6, 3) := by decide +kernel
theorem dX12_ruled_17 : decode cX12_ruled 17 = .ok (.bipush (-3), 2) := by decide +kernel
theorem dX12_ruled_19 : decode cX12_ruled 19 = .ok (.ireturn, 1) := by decide +kernel
theorem dX12_ruled_20 : decode cX12_ruled 20 = .ok (.aload_n 0, 1) := by decide +kernel
theorem dX12_ruled_21 : decode cX12_ruled 21 = .ok (.iconst 0, 1) := by decide +kernel
theorem dX12_ruled_22 : decode cX12_ruled 22 = .ok (.invokevirtual 431, 3) := by decide +kernel
theorem dX12_ruled_25 : decode cX12_ruled 25 = .ok (.iconst 0, 1) := by decide +kernel
theorem dX12_ruled_26 : decode cX12_ruled 26 = .ok (.istore_n 2, 1) := by decide +kernel
theorem dX12_ruled_27 : decode cX12_ruled 27 = .ok (.bipush (-2), 2) := by decide +kernel
theorem dX12_ruled_29 : decode cX12_ruled 29 = .ok (.istore_n 3, 1) := by decide +kernel
theorem dX12_ruled_30 : decode cX12_ruled 30 = .ok (.aload_n 0, 1) := by decide +kernel
theorem dX12_ruled_31 : decode cX12_ruled 31 = .ok (.getfield 270, 3) := by decide +kernel
theorem dX12_ruled_34 : decode cX12_ruled 34 = .ok (.istore 4, 2) := by decide +kernel
theorem dX12_ruled_36 : decode cX12_ruled 36 = .ok (.iload 4, 2) := by decide +kernel
theorem dX12_ruled_38 : decode cX12_ruled 38 = .ok (.ifCond .lt 30, 3) := by decide +kernel
theorem dX12_ruled_41 : decode cX12_ruled 41 = .ok (.aload_n 0, 1) := by decide +kernel
theorem dX12_ruled_42 : decode cX12_ruled 42 = .ok (.getfield 74, 3) := by decide +kernel
theorem dX12_ruled_45 : decode cX12_ruled 45 = .ok (.iload 4, 2) := by decide +kernel
theorem dX12_ruled_47 : decode cX12_ruled 47 = .ok (.baload, 1) := by decide +kernel
theorem dX12_ruled_48 : decode cX12_ruled 48 = .ok (.ifCond .ne 6, 3) := by decide +kernel
theorem dX12_ruled_51 : decode cX12_ruled 51 = .ok (.goto 11, 3) := by decide +kernel
theorem dX12_ruled_54 : decode cX12_ruled 54 = .ok (.iload 4, 2) := by decide +kernel
theorem dX12_ruled_56 : decode cX12_ruled 56 = .ok (.iconst 1, 1) := by decide +kernel
theorem dX12_ruled_57 : decode cX12_ruled 57 = .ok (.isub, 1) := by decide +kernel
theorem dX12_ruled_58 : decode cX12_ruled 58 = .ok (.istore_n 3, 1) := by decide +kernel
theorem dX12_ruled_59 : decode cX12_ruled 59 = .ok (.iinc 2 1, 3) := by decide +kernel
theorem dX12_ruled_62 : decode cX12_ruled 62 = .ok (.iinc 4 (-1), 3) := by decide +kernel
theorem dX12_ruled_65 : decode cX12_ruled 65 = .ok (.goto (-29), 3) := by decide +kernel
theorem dX12_ruled_68 : decode cX12_ruled 68 = .ok (.iload_n 1, 1) := by decide +kernel
theorem dX12_ruled_69 : decode cX12_ruled 69 = .ok (.ifCond .ne 7, 3) := by decide +kernel
theorem dX12_ruled_72 : decode cX12_ruled 72 = .ok (.iload_n 2, 1) := by decide +kernel
theorem dX12_ruled_73 : decode cX12_ruled 73 = .ok (.goto 4, 3) := by decide +kernel
theorem dX12_ruled_76 : decode cX12_ruled 76 = .ok (.iload_n 3, 1) := by decide +kernel
theorem dX12_ruled_77 : decode cX12_ruled 77 = .ok (.ireturn, 1) := by decide +kernel
theorem dX12_alikeAt_0 : decode cX12_alikeAt 0 = .ok (.iconst 0, 1) := by decide +kernel
theorem dX12_alikeAt_1 : decode cX12_alikeAt 1 = .ok (.istore_n 2, 1) := by decide +kernel
theorem dX12_alikeAt_2 : decode cX12_alikeAt 2 = .ok (.iconst 0, 1) := by decide +kernel
theorem dX12_alikeAt_3 : decode cX12_alikeAt 3 = .ok (.istore_n 3, 1) := by decide +kernel
theorem dX12_alikeAt_4 : decode cX12_alikeAt 4 = .ok (.iconst 0, 1) := by decide +kernel
theorem dX12_alikeAt_5 : decode cX12_alikeAt 5 = .ok (.istore 4, 2) := by decide +kernel
theorem dX12_alikeAt_7 : decode cX12_alikeAt 7 = .ok (.iload 4, 2) := by decide +kernel
theorem dX12_alikeAt_9 : decode cX12_alikeAt 9 = .ok (.aload_n 0, 1) := by decide +kernel
theorem dX12_alikeAt_10 : decode cX12_alikeAt 10 = .ok (.getfield 270, 3) := by decide +kernel
theorem dX12_alikeAt_13 : decode cX12_alikeAt 13 = .ok (.if_icmp .gt 47, 3) := by decide +kernel
theorem dX12_alikeAt_16 : decode cX12_alikeAt 16 = .ok (.aload_n 0, 1) := by decide +kernel
theorem dX12_alikeAt_17 : decode cX12_alikeAt 17 = .ok (.getfield 74, 3) := by decide +kernel
theorem dX12_alikeAt_20 : decode cX12_alikeAt 20 = .ok (.iload 4, 2) := by decide +kernel
theorem dX12_alikeAt_22 : decode cX12_alikeAt 22 = .ok (.baload, 1) := by decide +kernel
theorem dX12_alikeAt_23 : decode cX12_alikeAt 23 = .ok (.ifCond .ne 6, 3) := by decide +kernel
theorem dX12_alikeAt_26 : decode cX12_alikeAt 26 = .ok (.goto 28, 3) := by decide +kernel
theorem dX12_alikeAt_29 : decode cX12_alikeAt 29 = .ok (.aload_n 0, 1) := by decide +kernel
theorem dX12_alikeAt_30 : decode cX12_alikeAt 30 = .ok (.getfield 77, 3) := by decide +kernel
theorem dX12_alikeAt_33 : decode cX12_alikeAt 33 = .ok (.bipush 7, 2) := by decide +kernel
theorem dX12_alikeAt_35 : decode cX12_alikeAt 35 = .ok (.iload 4, 2) := by decide +kernel
theorem dX12_alikeAt_37 : decode cX12_alikeAt 37 = .ok (.imul, 1) := by decide +kernel
theorem dX12_alikeAt_38 : decode cX12_alikeAt 38 = .ok (.iload_n 1, 1) := by decide +kernel
theorem dX12_alikeAt_39 : decode cX12_alikeAt 39 = .ok (.iadd, 1) := by decide +kernel
theorem dX12_alikeAt_40 : decode cX12_alikeAt 40 = .ok (.iaload, 1) := by decide +kernel
theorem dX12_alikeAt_41 : decode cX12_alikeAt 41 = .ok (.iconst 1, 1) := by decide +kernel
theorem dX12_alikeAt_42 : decode cX12_alikeAt 42 = .ok (.if_icmp .ne 9, 3) := by decide +kernel
theorem dX12_alikeAt_45 : decode cX12_alikeAt 45 = .ok (.iinc 2 1, 3) := by decide +kernel
theorem dX12_alikeAt_48 : decode cX12_alikeAt 48 = .ok (.goto 6, 3) := by decide +kernel
theorem dX12_alikeAt_51 : decode cX12_alikeAt 51 = .ok (.iinc 3 1, 3) := by decide +kernel
theorem dX12_alikeAt_54 : decode cX12_alikeAt 54 = .ok (.iinc 4 1, 3) := by decide +kernel
theorem dX12_alikeAt_57 : decode cX12_alikeAt 57 = .ok (.goto (-50), 3) := by decide +kernel
theorem dX12_alikeAt_60 : decode cX12_alikeAt 60 = .ok (.iload_n 2, 1) := by decide +kernel
theorem dX12_alikeAt_61 : decode cX12_alikeAt 61 = .ok (.iload_n 3, 1) := by decide +kernel
theorem dX12_alikeAt_62 : decode cX12_alikeAt 62 = .ok (.if_icmp .le 7, 3) := by decide +kernel
theorem dX12_alikeAt_65 : decode cX12_alikeAt 65 = .ok (.iload_n 2, 1) := by decide +kernel
theorem dX12_alikeAt_66 : decode cX12_alikeAt 66 = .ok (.goto 4, 3) := by decide +kernel
theorem dX12_alikeAt_69 : decode cX12_alikeAt 69 = .ok (.iload_n 3, 1) := by decide +kernel
theorem dX12_alikeAt_70 : decode cX12_alikeAt 70 = .ok (.ireturn, 1) := by decide +kernel
theorem dX12_look_0 : decode cX12_look 0 = .ok (.aload_n 0, 1) := by decide +kernel
theorem dX12_look_1 : decode cX12_look 1 = .ok (.invokevirtual 297, 3) := by decide +kernel
theorem dX12_look_4 : decode cX12_look 4 = .ok (.ifCond .eq 25, 3) := by decide +kernel
theorem dX12_look_7 : decode cX12_look 7 = .ok (.iload_n 1, 1) := by decide +kernel
theorem dX12_look_8 : decode cX12_look 8 = .ok (.i2l, 1) := by decide +kernel
theorem dX12_look_9 : decode cX12_look 9 = .ok (.lconst 0, 1) := by decide +kernel
theorem dX12_look_10 : decode cX12_look 10 = .ok (.ldc2_w 426, 3) := by decide +kernel
theorem dX12_look_13 : decode cX12_look 13 = .ok (.invokestatic 130, 3) := by decide +kernel
theorem dX12_look_16 : decode cX12_look 16 = .ok (.ifCond .eq 13, 3) := by decide +kernel
theorem dX12_look_19 : decode cX12_look 19 = .ok (.iload_n 2, 1) := by decide +kernel
theorem dX12_look_20 : decode cX12_look 20 = .ok (.i2l, 1) := by decide +kernel
theorem dX12_look_21 : decode cX12_look 21 = .ok (.lconst 0, 1) := by decide +kernel
theorem dX12_look_22 : decode cX12_look 22 = .ok (.lconst 1, 1) := by decide +kernel
theorem dX12_look_23 : decode cX12_look 23 = .ok (.invokestatic 130, 3) := by decide +kernel
theorem dX12_look_26 : decode cX12_look 26 = .ok (.ifCond .ne 5, 3) := by decide +kernel
theorem dX12_look_29 : decode cX12_look 29 = .ok (.iconst (-1), 1) := by decide +kernel
theorem dX12_look_30 : decode cX12_look 30 = .ok (.ireturn, 1) := by decide +kernel
theorem dX12_look_31 : decode cX12_look 31 = .ok (.aload_n 0, 1) := by decide +kernel
theorem dX12_look_32 : decode cX12_look 32 = .ok (.iload_n 1, 1) := by decide +kernel
theorem dX12_look_33 : decode cX12_look 33 = .ok (.invokevirtual 431, 3) := by decide +kernel
theorem dX12_look_36 : decode cX12_look 36 = .ok (.bipush (-2), 2) := by decide +kernel
theorem dX12_look_38 : decode cX12_look 38 = .ok (.istore_n 3, 1) := by decide +kernel
theorem dX12_look_39 : decode cX12_look 39 = .ok (.bipush (-2), 2) := by decide +kernel
theorem dX12_look_41 : decode cX12_look 41 = .ok (.istore 4, 2) := by decide +kernel
theorem dX12_look_43 : decode cX12_look 43 = .ok (.iconst 0, 1) := by decide +kernel
theorem dX12_look_44 : decode cX12_look 44 = .ok (.istore 5, 2) := by decide +kernel
theorem dX12_look_46 : decode cX12_look 46 = .ok (.iload 5, 2) := by decide +kernel
theorem dX12_look_48 : decode cX12_look 48 = .ok (.aload_n 0, 1) := by decide +kernel
theorem dX12_look_49 : decode cX12_look 49 = .ok (.getfield 39, 3) := by decide +kernel
theorem dX12_look_52 : decode cX12_look 52 = .ok (.iconst 4, 1) := by decide +kernel
theorem dX12_look_53 : decode cX12_look 53 = .ok (.iaload, 1) := by decide +kernel
theorem dX12_look_54 : decode cX12_look 54 = .ok (.if_icmp .ge 43, 3) := by decide +kernel
theorem dX12_look_57 : decode cX12_look 57 = .ok (.aload_n 0, 1) := by decide +kernel
theorem dX12_look_58 : decode cX12_look 58 = .ok (.iload 5, 2) := by decide +kernel
theorem dX12_look_60 : decode cX12_look 60 = .ok (.invokevirtual 434, 3) := by decide +kernel
theorem dX12_look_63 : decode cX12_look 63 = .ok (.istore 6, 2) := by decide +kernel
theorem dX12_look_65 : decode cX12_look 65 = .ok (.iload 6, 2) := by decide +kernel
theorem dX12_look_67 : decode cX12_look 67 = .ok (.ifCond .eq 24, 3) := by decide +kernel
theorem dX12_look_70 : decode cX12_look 70 = .ok (.iload_n 3, 1) := by decide +kernel
theorem dX12_look_71 : decode cX12_look 71 = .ok (.ifCond .lt 13, 3) := by decide +kernel
theorem dX12_look_74 : decode cX12_look 74 = .ok (.iload 6, 2) := by decide +kernel
theorem dX12_look_76 : decode cX12_look 76 = .ok (.iload 4, 2) := by decide +kernel
theorem dX12_look_78 : decode cX12_look 78 = .ok (.if_icmp .lt 6, 3) := by decide +kernel
theorem dX12_look_81 : decode cX12_look 81 = .ok (.goto 10, 3) := by decide +kernel
theorem dX12_look_84 : decode cX12_look 84 = .ok (.iload 5, 2) := by decide +kernel
theorem dX12_look_86 : decode cX12_look 86 = .ok (.istore_n 3, 1) := by decide +kernel
theorem dX12_look_87 : decode cX12_look 87 = .ok (.iload 6, 2) := by decide +kernel
theorem dX12_look_89 : decode cX12_look 89 = .ok (.istore 4, 2) := by decide +kernel
theorem dX12_look_91 : decode cX12_look 91 = .ok (.iinc 5 1, 3) := by decide +kernel
theorem dX12_look_94 : decode cX12_look 94 = .ok (.goto (-48), 3) := by decide +kernel
theorem dX12_look_97 : decode cX12_look 97 = .ok (.iload_n 2, 1) := by decide +kernel
theorem dX12_look_98 : decode cX12_look 98 = .ok (.ifCond .ne 7, 3) := by decide +kernel
theorem dX12_look_101 : decode cX12_look 101 = .ok (.iload_n 3, 1) := by decide +kernel
theorem dX12_look_102 : decode cX12_look 102 = .ok (.goto 5, 3) := by decide +kernel
theorem dX12_look_105 : decode cX12_look 105 = .ok (.iload 4, 2) := by decide +kernel
theorem dX12_look_107 : decode cX12_look 107 = .ok (.ireturn, 1) := by decide +kernel
theorem dX12_seed_0 : decode cX12_seed 0 = .ok (.iload_n 1, 1) := by decide +kernel
theorem dX12_seed_1 : decode cX12_seed 1 = .ok (.ifCond .ge 5, 3) := by decide +kernel
theorem dX12_seed_4 : decode cX12_seed 4 = .ok (.iconst (-1), 1) := by decide +kernel
theorem dX12_seed_5 : decode cX12_seed 5 = .ok (.ireturn, 1) := by decide +kernel
theorem dX12_seed_6 : decode cX12_seed 6 = .ok (.aload_n 0, 1) := by decide +kernel
theorem dX12_seed_7 : decode cX12_seed 7 = .ok (.getfield 437, 3) := by decide +kernel
theorem dX12_seed_10 : decode cX12_seed 10 = .ok (.istore_n 2, 1) := by decide +kernel
theorem dX12_seed_11 : decode cX12_seed 11 = .ok (.aload_n 0, 1) := by decide +kernel
theorem dX12_seed_12 : decode cX12_seed 12 = .ok (.iload_n 1, 1) := by decide +kernel
theorem dX12_seed_13 : decode cX12_seed 13 = .ok (.putfield 437, 3) := by decide +kernel
theorem dX12_seed_16 : decode cX12_seed 16 = .ok (.iload_n 2, 1) := by decide +kernel
theorem dX12_seed_17 : decode cX12_seed 17 = .ok (.ireturn, 1) := by decide +kernel
theorem dX12_draw_0 : decode cX12_draw 0 = .ok (.aload_n 0, 1) := by decide +kernel
theorem dX12_draw_1 : decode cX12_draw 1 = .ok (.aload_n 0, 1) := by decide +kernel
theorem dX12_draw_2 : decode cX12_draw 2 = .ok (.getfield 440, 3) := by decide +kernel
theorem dX12_draw_5 : decode cX12_draw 5 = .ok (.ldc2_w 444, 3) := by decide +kernel
theorem dX12_draw_8 : decode cX12_draw 8 = .ok (.lmul, 1) := by decide +kernel
theorem dX12_draw_9 : decode cX12_draw 9 = .ok (.ldc2_w 446, 3) := by decide +kernel
theorem dX12_draw_12 : decode cX12_draw 12 = .ok (.ladd, 1) := by decide +kernel
theorem dX12_draw_13 : decode cX12_draw 13 = .ok (.ldc2_w 448, 3) := by decide +kernel
theorem dX12_draw_16 : decode cX12_draw 16 = .ok (.lrem, 1) := by decide +kernel
theorem dX12_draw_17 : decode cX12_draw 17 = .ok (.putfield 440, 3) := by decide +kernel
theorem dX12_draw_20 : decode cX12_draw 20 = .ok (.aload_n 0, 1) := by decide +kernel
theorem dX12_draw_21 : decode cX12_draw 21 = .ok (.getfield 440, 3) := by decide +kernel
theorem dX12_draw_24 : decode cX12_draw 24 = .ok (.ldc2_w 450, 3) := by decide +kernel
theorem dX12_draw_27 : decode cX12_draw 27 = .ok (.ldiv, 1) := by decide +kernel
theorem dX12_draw_28 : decode cX12_draw 28 = .ok (.iload_n 1, 1) := by decide +kernel
theorem dX12_draw_29 : decode cX12_draw 29 = .ok (.i2l, 1) := by decide +kernel
theorem dX12_draw_30 : decode cX12_draw 30 = .ok (.lrem, 1) := by decide +kernel
theorem dX12_draw_31 : decode cX12_draw 31 = .ok (.l2i, 1) := by decide +kernel
theorem dX12_draw_32 : decode cX12_draw 32 = .ok (.ireturn, 1) := by decide +kernel
theorem dX12_fogs_0 : decode cX12_fogs 0 = .ok (.aload_n 0, 1) := by decide +kernel
theorem dX12_fogs_1 : decode cX12_fogs 1 = .ok (.invokevirtual 297, 3) := by decide +kernel
theorem dX12_fogs_4 : decode cX12_fogs 4 = .ok (.ifCond .eq 50, 3) := by decide +kernel
theorem dX12_fogs_7 : decode cX12_fogs 7 = .ok (.iload_n 1, 1) := by decide +kernel
theorem dX12_fogs_8 : decode cX12_fogs 8 = .ok (.i2l, 1) := by decide +kernel
theorem dX12_fogs_9 : decode cX12_fogs 9 = .ok (.lconst 1, 1) := by decide +kernel
theorem dX12_fogs_10 : decode cX12_fogs 10 = .ok (.ldc2_w 452, 3) := by decide +kernel
theorem dX12_fogs_13 : decode cX12_fogs 13 = .ok (.invokestatic 130, 3) := by decide +kernel
theorem dX12_fogs_16 : decode cX12_fogs 16 = .ok (.ifCond .eq 38, 3) := by decide +kernel
theorem dX12_fogs_19 : decode cX12_fogs 19 = .ok (.iload_n 2, 1) := by decide +kernel
theorem dX12_fogs_20 : decode cX12_fogs 20 = .ok (.i2l, 1) := by decide +kernel
theorem dX12_fogs_21 : decode cX12_fogs 21 = .ok (.lconst 1, 1) := by decide +kernel
theorem dX12_fogs_22 : decode cX12_fogs 22 = .ok (.ldc2_w 426, 3) := by decide +kernel
theorem dX12_fogs_25 : decode cX12_fogs 25 = .ok (.invokestatic 130, 3) := by decide +kernel
theorem dX12_fogs_28 : decode cX12_fogs 28 = .ok (.ifCond .eq 26, 3) := by decide +kernel
theorem dX12_fogs_31 : decode cX12_fogs 31 = .ok (.iload_n 3, 1) := by decide +kernel
theorem dX12_fogs_32 : decode cX12_fogs 32 = .ok (.i2l, 1) := by decide +kernel
theorem dX12_fogs_33 : decode cX12_fogs 33 = .ok (.lconst 0, 1) := by decide +kernel
theorem dX12_fogs_34 : decode cX12_fogs 34 = .ok (.ldc2_w 381, 3) := by decide +kernel
theorem dX12_fogs_37 : decode cX12_fogs 37 = .ok (.invokestatic 130, 3) := by decide +kernel
theorem dX12_fogs_40 : decode cX12_fogs 40 = .ok (.ifCond .eq 14, 3) := by decide +kernel
theorem dX12_fogs_43 : decode cX12_fogs 43 = .ok (.iload 4, 2) := by decide +kernel
theorem dX12_fogs_45 : decode cX12_fogs 45 = .ok (.i2l, 1) := by decide +kernel
theorem dX12_fogs_46 : decode cX12_fogs 46 = .ok (.lconst 0, 1) := by decide +kernel
theorem dX12_fogs_47 : decode cX12_fogs 47 = .ok (.lconst 1, 1) := by decide +kernel
theorem dX12_fogs_48 : decode cX12_fogs 48 = .ok (.invokestatic 130, 3) := by decide +kernel
theorem dX12_fogs_51 : decode cX12_fogs 51 = .ok (.ifCond .ne 5, 3) := by decide +kernel
theorem dX12_fogs_54 : decode cX12_fogs 54 = .ok (.iconst (-1), 1) := by decide +kernel
theorem dX12_fogs_55 : decode cX12_fogs 55 = .ok (.ireturn, 1) := by decide +kernel
theorem dX12_fogs_56 : decode cX12_fogs 56 = .ok (.aload_n 0, 1) := by decide +kernel
theorem dX12_fogs_57 : decode cX12_fogs 57 = .ok (.aload_n 0, 1) := by decide +kernel
theorem dX12_fogs_58 : decode cX12_fogs 58 = .ok (.getfield 437, 3) := by decide +kernel
theorem dX12_fogs_61 : decode cX12_fogs 61 = .ok (.i2l, 1) := by decide +kernel
theorem dX12_fogs_62 : decode cX12_fogs 62 = .ok (.putfield 440, 3) := by decide +kernel
theorem dX12_fogs_65 : decode cX12_fogs 65 = .ok (.iconst 0, 1) := by decide +kernel
theorem dX12_fogs_66 : decode cX12_fogs 66 = .ok (.istore 5, 2) := by decide +kernel
theorem dX12_fogs_68 : decode cX12_fogs 68 = .ok (.iconst 0, 1) := by decide +kernel
theorem dX12_fogs_69 : decode cX12_fogs 69 = .ok (.istore 6, 2) := by decide +kernel
theorem dX12_fogs_71 : decode cX12_fogs 71 = .ok (.aload_n 0, 1) := by decide +kernel
theorem dX12_fogs_72 : decode cX12_fogs 72 = .ok (.invokevirtual 385, 3) := by decide +kernel
theorem dX12_fogs_75 : decode cX12_fogs 75 = .ok (.iconst 0, 1) := by decide +kernel
theorem dX12_fogs_76 : decode cX12_fogs 76 = .ok (.istore 7, 2) := by decide +kernel
theorem dX12_fogs_78 : decode cX12_fogs 78 = .ok (.iload 7, 2) := by decide +kernel
theorem dX12_fogs_80 : decode cX12_fogs 80 = .ok (.iload_n 1, 1) := by decide +kernel
theorem dX12_fogs_81 : decode cX12_fogs 81 = .ok (.if_icmp .ge 94, 3) := by decide +kernel
theorem dX12_fogs_84 : decode cX12_fogs 84 = .ok (.aload_n 0, 1) := by decide +kernel
theorem dX12_fogs_85 : decode cX12_fogs 85 = .ok (.getfield 39, 3) := by decide +kernel
theorem dX12_fogs_88 : decode cX12_fogs 88 = .ok (.bipush 12, 2) := by decide +kernel
theorem dX12_fogs_90 : decode cX12_fogs 90 = .ok (.iaload, 1) := by decide +kernel
theorem dX12_fogs_91 : decode cX12_fogs 91 = .ok (.istore 8, 2) := by decide +kernel
theorem dX12_fogs_93 : decode cX12_fogs 93 = .ok (.iconst 0, 1) := by decide +kernel
theorem dX12_fogs_94 : decode cX12_fogs 94 = .ok (.istore 9, 2) := by decide +kernel
theorem dX12_fogs_96 : decode cX12_fogs 96 = .ok (.iload 9, 2) := by decide +kernel
theorem dX12_fogs_98 : decode cX12_fogs 98 = .ok (.iload_n 2, 1) := by decide +kernel
theorem dX12_fogs_99 : decode cX12_fogs 99 = .ok (.if_icmp .ge 33, 3) := by decide +kernel
theorem dX12_fogs_102 : decode cX12_fogs 102 = .ok (.aload_n 0, 1) := by decide +kernel
theorem dX12_fogs_103 : decode cX12_fogs 103 = .ok (.aload_n 0, 1) := by decide +kernel
theorem dX12_fogs_104 : decode cX12_fogs 104 = .ok (.bipush 100, 2) := by decide +kernel
theorem dX12_fogs_106 : decode cX12_fogs 106 = .ok (.invokevirtual 454, 3) := by decide +kernel
theorem dX12_fogs_109 : decode cX12_fogs 109 = .ok (.iload_n 3, 1) := by decide +kernel
theorem dX12_fogs_110 : decode cX12_fogs 110 = .ok (.if_icmp .ge 7, 3) := by decide +kernel
theorem dX12_fogs_113 : decode cX12_fogs 113 = .ok (.iconst 1, 1) := by decide +kernel
theorem dX12_fogs_114 : decode cX12_fogs 114 = .ok (.goto 4, 3) := by decide +kernel
theorem dX12_fogs_117 : decode cX12_fogs 117 = .ok (.iconst 0, 1) := by decide +kernel
theorem dX12_fogs_118 : decode cX12_fogs 118 = .ok (.putfield 300, 3) := by decide +kernel
theorem dX12_fogs_121 : decode cX12_fogs 121 = .ok (.aload_n 0, 1) := by decide +kernel
theorem dX12_fogs_122 : decode cX12_fogs 122 = .ok (.invokevirtual 373, 3) := by decide +kernel
theorem dX12_fogs_125 : decode cX12_fogs 125 = .ok (.pop, 1) := by decide +kernel
theorem dX12_fogs_126 : decode cX12_fogs 126 = .ok (.iinc 9 1, 3) := by decide +kernel
theorem dX12_fogs_129 : decode cX12_fogs 129 = .ok (.goto (-33), 3) := by decide +kernel
theorem dX12_fogs_132 : decode cX12_fogs 132 = .ok (.aload_n 0, 1) := by decide +kernel
theorem dX12_fogs_133 : decode cX12_fogs 133 = .ok (.iconst 0, 1) := by decide +kernel
theorem dX12_fogs_134 : decode cX12_fogs 134 = .ok (.putfield 300, 3) := by decide +kernel
theorem dX12_fogs_137 : decode cX12_fogs 137 = .ok (.iload 5, 2) := by decide +kernel
theorem dX12_fogs_139 : decode cX12_fogs 139 = .ok (.aload_n 0, 1) := by decide +kernel
theorem dX12_fogs_140 : decode cX12_fogs 140 = .ok (.iconst 1, 1) := by decide +kernel
theorem dX12_fogs_141 : decode cX12_fogs 141 = .ok (.invokevirtual 334, 3) := by decide +kernel
theorem dX12_fogs_144 : decode cX12_fogs 144 = .ok (.invokestatic 337, 3) := by decide +kernel
theorem dX12_fogs_147 : decode cX12_fogs 147 = .ok (.iadd, 1) := by decide +kernel
theorem dX12_fogs_148 : decode cX12_fogs 148 = .ok (.istore 5, 2) := by decide +kernel
theorem dX12_fogs_150 : decode cX12_fogs 150 = .ok (.iload 6, 2) := by decide +kernel
theorem dX12_fogs_152 : decode cX12_fogs 152 = .ok (.aload_n 0, 1) := by decide +kernel
theorem dX12_fogs_153 : decode cX12_fogs 153 = .ok (.getfield 39, 3) := by decide +kernel
theorem dX12_fogs_156 : decode cX12_fogs 156 = .ok (.bipush 12, 2) := by decide +kernel
theorem dX12_fogs_158 : decode cX12_fogs 158 = .ok (.iaload, 1) := by decide +kernel
theorem dX12_fogs_159 : decode cX12_fogs 159 = .ok (.iload 8, 2) := by decide +kernel
theorem dX12_fogs_161 : decode cX12_fogs 161 = .ok (.isub, 1) := by decide +kernel
theorem dX12_fogs_162 : decode cX12_fogs 162 = .ok (.iadd, 1) := by decide +kernel
theorem dX12_fogs_163 : decode cX12_fogs 163 = .ok (.istore 6, 2) := by decide +kernel
theorem dX12_fogs_165 : decode cX12_fogs 165 = .ok (.aload_n 0, 1) := by decide +kernel
theorem dX12_fogs_166 : decode cX12_fogs 166 = .ok (.invokevirtual 388, 3) := by decide +kernel
theorem dX12_fogs_169 : decode cX12_fogs 169 = .ok (.iinc 7 1, 3) := by decide +kernel
theorem dX12_fogs_172 : decode cX12_fogs 172 = .ok (.goto (-94), 3) := by decide +kernel
theorem dX12_fogs_175 : decode cX12_fogs 175 = .ok (.iload 4, 2) := by decide +kernel
theorem dX12_fogs_177 : decode cX12_fogs 177 = .ok (.ifCond .ne 8, 3) := by decide +kernel
theorem dX12_fogs_180 : decode cX12_fogs 180 = .ok (.iload 5, 2) := by decide +kernel
theorem dX12_fogs_182 : decode cX12_fogs 182 = .ok (.goto 5, 3) := by decide +kernel
theorem dX12_fogs_185 : decode cX12_fogs 185 = .ok (.iload 6, 2) := by decide +kernel
theorem dX12_fogs_187 : decode cX12_fogs 187 = .ok (.ireturn, 1) := by decide +kernel
theorem dX12_count_0 : decode cX12_count 0 = .ok (.iload_n 1, 1) := by decide +kernel
theorem dX12_count_1 : decode cX12_count 1 = .ok (.tableswitch 173 0 15 #[79, 79, 79, 79, 88, 93, 98, 106, 114, 120, 128, 136, 149, 158, 163, 168], 79) := by decide +kernel
theorem dX12_count_80 : decode cX12_count 80 = .ok (.aload_n 0, 1) := by decide +kernel
theorem dX12_count_81 : decode cX12_count 81 = .ok (.getfield 39, 3) := by decide +kernel
theorem dX12_count_84 : decode cX12_count 84 = .ok (.iload_n 1, 1) := by decide +kernel
theorem dX12_count_85 : decode cX12_count 85 = .ok (.iconst 1, 1) := by decide +kernel
theorem dX12_count_86 : decode cX12_count 86 = .ok (.iadd, 1) := by decide +kernel
theorem dX12_count_87 : decode cX12_count 87 = .ok (.iaload, 1) := by decide +kernel
theorem dX12_count_88 : decode cX12_count 88 = .ok (.ireturn, 1) := by decide +kernel
theorem dX12_count_89 : decode cX12_count 89 = .ok (.aload_n 0, 1) := by decide +kernel
theorem dX12_count_90 : decode cX12_count 90 = .ok (.getfield 270, 3) := by decide +kernel
theorem dX12_count_93 : decode cX12_count 93 = .ok (.ireturn, 1) := by decide +kernel
theorem dX12_count_94 : decode cX12_count 94 = .ok (.aload_n 0, 1) := by decide +kernel
theorem dX12_count_95 : decode cX12_count 95 = .ok (.getfield 42, 3) := by decide +kernel
theorem dX12_count_98 : decode cX12_count 98 = .ok (.ireturn, 1) := by decide +kernel
theorem dX12_count_99 : decode cX12_count 99 = .ok (.aload_n 0, 1) := by decide +kernel
theorem dX12_count_100 : decode cX12_count 100 = .ok (.getfield 39, 3) := by decide +kernel
theorem dX12_count_103 : decode cX12_count 103 = .ok (.bipush 10, 2) := by decide +kernel
theorem dX12_count_105 : decode cX12_count 105 = .ok (.iaload, 1) := by decide +kernel
theorem dX12_count_106 : decode cX12_count 106 = .ok (.ireturn, 1) := by decide +kernel
theorem dX12_count_107 : decode cX12_count 107 = .ok (.aload_n 0, 1) := by decide +kernel
theorem dX12_count_108 : decode cX12_count 108 = .ok (.getfield 39, 3) := by decide +kernel
theorem dX12_count_111 : decode cX12_count 111 = .ok (.bipush 11, 2) := by decide +kernel
theorem dX12_count_113 : decode cX12_count 113 = .ok (.iaload, 1) := by decide +kernel
theorem dX12_count_114 : decode cX12_count 114 = .ok (.ireturn, 1) := by decide +kernel
theorem dX12_count_115 : decode cX12_count 115 = .ok (.aload_n 0, 1) := by decide +kernel
theorem dX12_count_116 : decode cX12_count 116 = .ok (.iconst 1, 1) := by decide +kernel
theorem dX12_count_117 : decode cX12_count 117 = .ok (.invokevirtual 334, 3) := by decide +kernel
theorem dX12_count_120 : decode cX12_count 120 = .ok (.ireturn, 1) := by decide +kernel
theorem dX12_count_121 : decode cX12_count 121 = .ok (.aload_n 0, 1) := by decide +kernel
theorem dX12_count_122 : decode cX12_count 122 = .ok (.getfield 39, 3) := by decide +kernel
theorem dX12_count_125 : decode cX12_count 125 = .ok (.bipush 12, 2) := by decide +kernel
theorem dX12_count_127 : decode cX12_count 127 = .ok (.iaload, 1) := by decide +kernel
theorem dX12_count_128 : decode cX12_count 128 = .ok (.ireturn, 1) := by decide +kernel
theorem dX12_count_129 : decode cX12_count 129 = .ok (.aload_n 0, 1) := by decide +kernel
theorem dX12_count_130 : decode cX12_count 130 = .ok (.getfield 39, 3) := by decide +kernel
theorem dX12_count_133 : decode cX12_count 133 = .ok (.bipush 13, 2) := by decide +kernel
theorem dX12_count_135 : decode cX12_count 135 = .ok (.iaload, 1) := by decide +kernel
theorem dX12_count_136 : decode cX12_count 136 = .ok (.ireturn, 1) := by decide +kernel
theorem dX12_count_137 : decode cX12_count 137 = .ok (.aload_n 0, 1) := by decide +kernel
theorem dX12_count_138 : decode cX12_count 138 = .ok (.invokevirtual 317, 3) := by decide +kernel
theorem dX12_count_141 : decode cX12_count 141 = .ok (.ifCond .eq 7, 3) := by decide +kernel
theorem dX12_count_144 : decode cX12_count 144 = .ok (.iconst 1, 1) := by decide +kernel
theorem dX12_count_145 : decode cX12_count 145 = .ok (.goto 4, 3) := by decide +kernel
theorem dX12_count_148 : decode cX12_count 148 = .ok (.iconst 0, 1) := by decide +kernel
theorem dX12_count_149 : decode cX12_count 149 = .ok (.ireturn, 1) := by decide +kernel
theorem dX12_count_150 : decode cX12_count 150 = .ok (.aload_n 0, 1) := by decide +kernel
theorem dX12_count_151 : decode cX12_count 151 = .ok (.getfield 39, 3) := by decide +kernel
theorem dX12_count_154 : decode cX12_count 154 = .ok (.sipush 189, 3) := by decide +kernel
theorem dX12_count_157 : decode cX12_count 157 = .ok (.iaload, 1) := by decide +kernel
theorem dX12_count_158 : decode cX12_count 158 = .ok (.ireturn, 1) := by decide +kernel
theorem dX12_count_159 : decode cX12_count 159 = .ok (.aload_n 0, 1) := by decide +kernel
theorem dX12_count_160 : decode cX12_count 160 = .ok (.getfield 279, 3) := by decide +kernel
theorem dX12_count_163 : decode cX12_count 163 = .ok (.ireturn, 1) := by decide +kernel
theorem dX12_count_164 : decode cX12_count 164 = .ok (.aload_n 0, 1) := by decide +kernel
theorem dX12_count_165 : decode cX12_count 165 = .ok (.getfield 437, 3) := by decide +kernel
theorem dX12_count_168 : decode cX12_count 168 = .ok (.ireturn, 1) := by decide +kernel
theorem dX12_count_169 : decode cX12_count 169 = .ok (.aload_n 0, 1) := by decide +kernel
theorem dX12_count_170 : decode cX12_count 170 = .ok (.getfield 92, 3) := by decide +kernel
theorem dX12_count_173 : decode cX12_count 173 = .ok (.ireturn, 1) := by decide +kernel
theorem dX12_count_174 : decode cX12_count 174 = .ok (.iconst (-1), 1) := by decide +kernel
theorem dX12_count_175 : decode cX12_count 175 = .ok (.ireturn, 1) := by decide +kernel
theorem dX12_image_0 : decode cX12_image 0 = .ok (.iload_n 1, 1) := by decide +kernel
theorem dX12_image_1 : decode cX12_image 1 = .ok (.i2l, 1) := by decide +kernel
theorem dX12_image_2 : decode cX12_image 2 = .ok (.lconst 0, 1) := by decide +kernel
theorem dX12_image_3 : decode cX12_image 3 = .ok (.ldc2_w 457, 3) := by decide +kernel
theorem dX12_image_6 : decode cX12_image 6 = .ok (.invokestatic 130, 3) := by decide +kernel
theorem dX12_image_9 : decode cX12_image 9 = .ok (.ifCond .ne 5, 3) := by decide +kernel
theorem dX12_image_12 : decode cX12_image 12 = .ok (.iconst (-1), 1) := by decide +kernel
theorem dX12_image_13 : decode cX12_image 13 = .ok (.ireturn, 1) := by decide +kernel
theorem dX12_image_14 : decode cX12_image 14 = .ok (.aload_n 0, 1) := by decide +kernel
theorem dX12_image_15 : decode cX12_image 15 = .ok (.getfield 89, 3) := by decide +kernel
theorem dX12_image_18 : decode cX12_image 18 = .ok (.iload_n 1, 1) := by decide +kernel
theorem dX12_image_19 : decode cX12_image 19 = .ok (.iconst 1, 1) := by decide +kernel
theorem dX12_image_20 : decode cX12_image 20 = .ok (.bastore, 1) := by decide +kernel
theorem dX12_image_21 : decode cX12_image 21 = .ok (.aload_n 0, 1) := by decide +kernel
theorem dX12_image_22 : decode cX12_image 22 = .ok (.getfield 83, 3) := by decide +kernel
theorem dX12_image_25 : decode cX12_image 25 = .ok (.iload_n 1, 1) := by decide +kernel
theorem dX12_image_26 : decode cX12_image 26 = .ok (.aload_n 0, 1) := by decide +kernel
theorem dX12_image_27 : decode cX12_image 27 = .ok (.getfield 42, 3) := by decide +kernel
theorem dX12_image_30 : decode cX12_image 30 = .ok (.iastore, 1) := by decide +kernel
theorem dX12_image_31 : decode cX12_image 31 = .ok (.aload_n 0, 1) := by decide +kernel
theorem dX12_image_32 : decode cX12_image 32 = .ok (.getfield 86, 3) := by decide +kernel
theorem dX12_image_35 : decode cX12_image 35 = .ok (.iload_n 1, 1) := by decide +kernel
theorem dX12_image_36 : decode cX12_image 36 = .ok (.aload_n 0, 1) := by decide +kernel
theorem dX12_image_37 : decode cX12_image 37 = .ok (.getfield 437, 3) := by decide +kernel
theorem dX12_image_40 : decode cX12_image 40 = .ok (.iastore, 1) := by decide +kernel
theorem dX12_image_41 : decode cX12_image 41 = .ok (.iconst 0, 1) := by decide +kernel
theorem dX12_image_42 : decode cX12_image 42 = .ok (.istore_n 2, 1) := by decide +kernel
theorem dX12_image_43 : decode cX12_image 43 = .ok (.iload_n 2, 1) := by decide +kernel
theorem dX12_image_44 : decode cX12_image 44 = .ok (.sipush 190, 3) := by decide +kernel
theorem dX12_image_47 : decode cX12_image 47 = .ok (.if_icmp .ge 27, 3) := by decide +kernel
theorem dX12_image_50 : decode cX12_image 50 = .ok (.aload_n 0, 1) := by decide +kernel
theorem dX12_image_51 : decode cX12_image 51 = .ok (.getfield 80, 3) := by decide +kernel
theorem dX12_image_54 : decode cX12_image 54 = .ok (.sipush 190, 3) := by decide +kernel
theorem dX12_image_57 : decode cX12_image 57 = .ok (.iload_n 1, 1) := by decide +kernel
theorem dX12_image_58 : decode cX12_image 58 = .ok (.imul, 1) := by decide +kernel
theorem dX12_image_59 : decode cX12_image 59 = .ok (.iload_n 2, 1) := by decide +kernel
theorem dX12_image_60 : decode cX12_image 60 = .ok (.iadd, 1) := by decide +kernel
theorem dX12_image_61 : decode cX12_image 61 = .ok (.aload_n 0, 1) := by decide +kernel
theorem dX12_image_62 : decode cX12_image 62 = .ok (.getfield 39, 3) := by decide +kernel
theorem dX12_image_65 : decode cX12_image 65 = .ok (.iload_n 2, 1) := by decide +kernel
theorem dX12_image_66 : decode cX12_image 66 = .ok (.iaload, 1) := by decide +kernel
theorem dX12_image_67 : decode cX12_image 67 = .ok (.iastore, 1) := by decide +kernel
theorem dX12_image_68 : decode cX12_image 68 = .ok (.iinc 2 1, 3) := by decide +kernel
theorem dX12_image_71 : decode cX12_image 71 = .ok (.goto (-28), 3) := by decide +kernel
theorem dX12_image_74 : decode cX12_image 74 = .ok (.aload_n 0, 1) := by decide +kernel
theorem dX12_image_75 : decode cX12_image 75 = .ok (.getfield 39, 3) := by decide +kernel
theorem dX12_image_78 : decode cX12_image 78 = .ok (.bipush 10, 2) := by decide +kernel
theorem dX12_image_80 : decode cX12_image 80 = .ok (.iaload, 1) := by decide +kernel
theorem dX12_image_81 : decode cX12_image 81 = .ok (.ireturn, 1) := by decide +kernel
theorem dX12_back_0 : decode cX12_back 0 = .ok (.iload_n 1, 1) := by decide +kernel
theorem dX12_back_1 : decode cX12_back 1 = .ok (.i2l, 1) := by decide +kernel
theorem dX12_back_2 : decode cX12_back 2 = .ok (.lconst 0, 1) := by decide +kernel
theorem dX12_back_3 : decode cX12_back 3 = .ok (.ldc2_w 457, 3) := by decide +kernel
theorem dX12_back_6 : decode cX12_back 6 = .ok (.invokestatic 130, 3) := by decide +kernel
theorem dX12_back_9 : decode cX12_back 9 = .ok (.ifCond .eq 12, 3) := by decide +kernel
theorem dX12_back_12 : decode cX12_back 12 = .ok (.aload_n 0, 1) := by decide +kernel
theorem dX12_back_13 : decode cX12_back 13 = .ok (.getfield 89, 3) := by decide +kernel
theorem dX12_back_16 : decode cX12_back 16 = .ok (.iload_n 1, 1) := by decide +kernel
theorem dX12_back_17 : decode cX12_back 17 = .ok (.baload, 1) := by decide +kernel
theorem dX12_back_18 : decode cX12_back 18 = .ok (.ifCond .ne 5, 3) := by decide +kernel
theorem dX12_back_21 : decode cX12_back 21 = .ok (.iconst (-1), 1) := by decide +kernel
theorem dX12_back_22 : decode cX12_back 22 = .ok (.ireturn, 1) := by decide +kernel
theorem dX12_back_23 : decode cX12_back 23 = .ok (.aload_n 0, 1) := by decide +kernel
theorem dX12_back_24 : decode cX12_back 24 = .ok (.aload_n 0, 1) := by decide +kernel
theorem dX12_back_25 : decode cX12_back 25 = .ok (.getfield 83, 3) := by decide +kernel
theorem dX12_back_28 : decode cX12_back 28 = .ok (.iload_n 1, 1) := by decide +kernel
theorem dX12_back_29 : decode cX12_back 29 = .ok (.iaload, 1) := by decide +kernel
theorem dX12_back_30 : decode cX12_back 30 = .ok (.putfield 42, 3) := by decide +kernel
theorem dX12_back_33 : decode cX12_back 33 = .ok (.aload_n 0, 1) := by decide +kernel
theorem dX12_back_34 : decode cX12_back 34 = .ok (.aload_n 0, 1) := by decide +kernel
theorem dX12_back_35 : decode cX12_back 35 = .ok (.getfield 86, 3) := by decide +kernel
theorem dX12_back_38 : decode cX12_back 38 = .ok (.iload_n 1, 1) := by decide +kernel
theorem dX12_back_39 : decode cX12_back 39 = .ok (.iaload, 1) := by decide +kernel
theorem dX12_back_40 : decode cX12_back 40 = .ok (.putfield 437, 3) := by decide +kernel
theorem dX12_back_43 : decode cX12_back 43 = .ok (.aload_n 0, 1) := by decide +kernel
theorem dX12_back_44 : decode cX12_back 44 = .ok (.iconst 0, 1) := by decide +kernel
theorem dX12_back_45 : decode cX12_back 45 = .ok (.putfield 279, 3) := by decide +kernel
theorem dX12_back_48 : decode cX12_back 48 = .ok (.iconst 0, 1) := by decide +kernel
theorem dX12_back_49 : decode cX12_back 49 = .ok (.istore_n 2, 1) := by decide +kernel
theorem dX12_back_50 : decode cX12_back 50 = .ok (.iload_n 2, 1) := by decide +kernel
theorem dX12_back_51 : decode cX12_back 51 = .ok (.sipush 190, 3) := by decide +kernel
theorem dX12_back_54 : decode cX12_back 54 = .ok (.if_icmp .ge 27, 3) := by decide +kernel
theorem dX12_back_57 : decode cX12_back 57 = .ok (.aload_n 0, 1) := by decide +kernel
theorem dX12_back_58 : decode cX12_back 58 = .ok (.getfield 39, 3) := by decide +kernel
theorem dX12_back_61 : decode cX12_back 61 = .ok (.iload_n 2, 1) := by decide +kernel
theorem dX12_back_62 : decode cX12_back 62 = .ok (.aload_n 0, 1) := by decide +kernel
theorem dX12_back_63 : decode cX12_back 63 = .ok (.getfield 80, 3) := by decide +kernel
theorem dX12_back_66 : decode cX12_back 66 = .ok (.sipush 190, 3) := by decide +kernel
theorem dX12_back_69 : decode cX12_back 69 = .ok (.iload_n 1, 1) := by decide +kernel
theorem dX12_back_70 : decode cX12_back 70 = .ok (.imul, 1) := by decide +kernel
theorem dX12_back_71 : decode cX12_back 71 = .ok (.iload_n 2, 1) := by decide +kernel
theorem dX12_back_72 : decode cX12_back 72 = .ok (.iadd, 1) := by decide +kernel
theorem dX12_back_73 : decode cX12_back 73 = .ok (.iaload, 1) := by decide +kernel
theorem dX12_back_74 : decode cX12_back 74 = .ok (.iastore, 1) := by decide +kernel
theorem dX12_back_75 : decode cX12_back 75 = .ok (.iinc 2 1, 3) := by decide +kernel
theorem dX12_back_78 : decode cX12_back 78 = .ok (.goto (-28), 3) := by decide +kernel
theorem dX12_back_81 : decode cX12_back 81 = .ok (.aload_n 0, 1) := by decide +kernel
theorem dX12_back_82 : decode cX12_back 82 = .ok (.getfield 39, 3) := by decide +kernel
theorem dX12_back_85 : decode cX12_back 85 = .ok (.bipush 10, 2) := by decide +kernel
theorem dX12_back_87 : decode cX12_back 87 = .ok (.iaload, 1) := by decide +kernel
theorem dX12_back_88 : decode cX12_back 88 = .ok (.ireturn, 1) := by decide +kernel
