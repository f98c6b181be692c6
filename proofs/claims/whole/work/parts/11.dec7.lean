theorem dX7_after_147 : decode cX7_after 147 = .ok (.iload 8, 2) := by decide +kernel
theorem dX7_after_149 : decode cX7_after 149 = .ok (.invokevirtual 81, 3) := by decide +kernel
theorem dX7_after_152 : decode cX7_after 152 = .ok (.ifCond .eq 7, 3) := by decide +kernel
theorem dX7_after_155 : decode cX7_after 155 = .ok (.lconst 0, 1) := by decide +kernel
theorem dX7_after_156 : decode cX7_after 156 = .ok (.goto 32, 3) := by decide +kernel
theorem dX7_after_159 : decode cX7_after 159 = .ok (.aload_n 0, 1) := by decide +kernel
theorem dX7_after_160 : decode cX7_after 160 = .ok (.getfield 24, 3) := by decide +kernel
theorem dX7_after_163 : decode cX7_after 163 = .ok (.iload 8, 2) := by decide +kernel
theorem dX7_after_165 : decode cX7_after 165 = .ok (.laload, 1) := by decide +kernel
theorem dX7_after_166 : decode cX7_after 166 = .ok (.aload_n 0, 1) := by decide +kernel
theorem dX7_after_167 : decode cX7_after 167 = .ok (.iload 8, 2) := by decide +kernel
theorem dX7_after_169 : decode cX7_after 169 = .ok (.iload 7, 2) := by decide +kernel
theorem dX7_after_171 : decode cX7_after 171 = .ok (.invokevirtual 47, 3) := by decide +kernel
theorem dX7_after_174 : decode cX7_after 174 = .ok (.i2l, 1) := by decide +kernel
theorem dX7_after_175 : decode cX7_after 175 = .ok (.lmul, 1) := by decide +kernel
theorem dX7_after_176 : decode cX7_after 176 = .ok (.ldc2_w 112, 3) := by decide +kernel
theorem dX7_after_179 : decode cX7_after 179 = .ok (.aload_n 0, 1) := by decide +kernel
theorem dX7_after_180 : decode cX7_after 180 = .ok (.iload 8, 2) := by decide +kernel
theorem dX7_after_182 : decode cX7_after 182 = .ok (.invokevirtual 51, 3) := by decide +kernel
theorem dX7_after_185 : decode cX7_after 185 = .ok (.i2l, 1) := by decide +kernel
theorem dX7_after_186 : decode cX7_after 186 = .ok (.ldiv, 1) := by decide +kernel
theorem dX7_after_187 : decode cX7_after 187 = .ok (.lmul, 1) := by decide +kernel
theorem dX7_after_188 : decode cX7_after 188 = .ok (.ladd, 1) := by decide +kernel
theorem dX7_after_189 : decode cX7_after 189 = .ok (.lastore, 1) := by decide +kernel
theorem dX7_after_190 : decode cX7_after 190 = .ok (.iinc 8 1, 3) := by decide +kernel
theorem dX7_after_193 : decode cX7_after 193 = .ok (.goto (-64), 3) := by decide +kernel
theorem dX7_after_196 : decode cX7_after 196 = .ok (.iinc 7 1, 3) := by decide +kernel
theorem dX7_after_199 : decode cX7_after 199 = .ok (.goto (-113), 3) := by decide +kernel
theorem dX7_after_202 : decode cX7_after 202 = .ok (.iconst 0, 1) := by decide +kernel
theorem dX7_after_203 : decode cX7_after 203 = .ok (.istore 7, 2) := by decide +kernel
theorem dX7_after_205 : decode cX7_after 205 = .ok (.iload 7, 2) := by decide +kernel
theorem dX7_after_207 : decode cX7_after 207 = .ok (.aload_n 0, 1) := by decide +kernel
theorem dX7_after_208 : decode cX7_after 208 = .ok (.getfield 40, 3) := by decide +kernel
theorem dX7_after_211 : decode cX7_after 211 = .ok (.if_icmp .ge 23, 3) := by decide +kernel
theorem dX7_after_214 : decode cX7_after 214 = .ok (.aload_n 0, 1) := by decide +kernel
theorem dX7_after_215 : decode cX7_after 215 = .ok (.getfield 24, 3) := by decide +kernel
theorem dX7_after_218 : decode cX7_after 218 = .ok (.iload 7, 2) := by decide +kernel
theorem dX7_after_220 : decode cX7_after 220 = .ok (.aload_n 0, 1) := by decide +kernel
theorem dX7_after_221 : decode cX7_after 221 = .ok (.getfield 20, 3) := by decide +kernel
theorem dX7_after_224 : decode cX7_after 224 = .ok (.iload 7, 2) := by decide +kernel
theorem dX7_after_226 : decode cX7_after 226 = .ok (.laload, 1) := by decide +kernel
theorem dX7_after_227 : decode cX7_after 227 = .ok (.lastore, 1) := by decide +kernel
theorem dX7_after_228 : decode cX7_after 228 = .ok (.iinc 7 1, 3) := by decide +kernel
theorem dX7_after_231 : decode cX7_after 231 = .ok (.goto (-26), 3) := by decide +kernel
theorem dX7_after_234 : decode cX7_after 234 = .ok (.lload 4, 2) := by decide +kernel
theorem dX7_after_236 : decode cX7_after 236 = .ok (.ldc2_w 112, 3) := by decide +kernel
theorem dX7_after_239 : decode cX7_after 239 = .ok (.lmul, 1) := by decide +kernel
theorem dX7_after_240 : decode cX7_after 240 = .ok (.lstore 4, 2) := by decide +kernel
theorem dX7_after_242 : decode cX7_after 242 = .ok (.iinc 6 1, 3) := by decide +kernel
theorem dX7_after_245 : decode cX7_after 245 = .ok (.goto (-168), 3) := by decide +kernel
theorem dX7_after_248 : decode cX7_after 248 = .ok (.aload_n 0, 1) := by decide +kernel
theorem dX7_after_249 : decode cX7_after 249 = .ok (.aload_n 0, 1) := by decide +kernel
theorem dX7_after_250 : decode cX7_after 250 = .ok (.getfield 24, 3) := by decide +kernel
theorem dX7_after_253 : decode cX7_after 253 = .ok (.iload_n 2, 1) := by decide +kernel
theorem dX7_after_254 : decode cX7_after 254 = .ok (.laload, 1) := by decide +kernel
theorem dX7_after_255 : decode cX7_after 255 = .ok (.lload 4, 2) := by decide +kernel
theorem dX7_after_257 : decode cX7_after 257 = .ok (.invokevirtual 91, 3) := by decide +kernel
theorem dX7_after_260 : decode cX7_after 260 = .ok (.ireturn, 1) := by decide +kernel
theorem dX7_worth_0 : decode cX7_worth 0 = .ok (.aload_n 0, 1) := by decide +kernel
theorem dX7_worth_1 : decode cX7_worth 1 = .ok (.iconst 0, 1) := by decide +kernel
theorem dX7_worth_2 : decode cX7_worth 2 = .ok (.putfield 36, 3) := by decide +kernel
theorem dX7_worth_5 : decode cX7_worth 5 = .ok (.aload_n 0, 1) := by decide +kernel
theorem dX7_worth_6 : decode cX7_worth 6 = .ok (.iload_n 1, 1) := by decide +kernel
theorem dX7_worth_7 : decode cX7_worth 7 = .ok (.invokevirtual 58, 3) := by decide +kernel
theorem dX7_worth_10 : decode cX7_worth 10 = .ok (.ifCond .ne 5, 3) := by decide +kernel
theorem dX7_worth_13 : decode cX7_worth 13 = .ok (.iconst (-1), 1) := by decide +kernel
theorem dX7_worth_14 : decode cX7_worth 14 = .ok (.ireturn, 1) := by decide +kernel
theorem dX7_worth_15 : decode cX7_worth 15 = .ok (.aload_n 0, 1) := by decide +kernel
theorem dX7_worth_16 : decode cX7_worth 16 = .ok (.iload_n 1, 1) := by decide +kernel
theorem dX7_worth_17 : decode cX7_worth 17 = .ok (.aload_n 0, 1) := by decide +kernel
theorem dX7_worth_18 : decode cX7_worth 18 = .ok (.invokevirtual 114, 3) := by decide +kernel
theorem dX7_worth_21 : decode cX7_worth 21 = .ok (.invokevirtual 109, 3) := by decide +kernel
theorem dX7_worth_24 : decode cX7_worth 24 = .ok (.ifCond .ne 6, 3) := by decide +kernel
theorem dX7_worth_27 : decode cX7_worth 27 = .ok (.bipush (-3), 2) := by decide +kernel
theorem dX7_worth_29 : decode cX7_worth 29 = .ok (.ireturn, 1) := by decide +kernel
theorem dX7_worth_30 : decode cX7_worth 30 = .ok (.aload_n 0, 1) := by decide +kernel
theorem dX7_worth_31 : decode cX7_worth 31 = .ok (.iconst 1, 1) := by decide +kernel
theorem dX7_worth_32 : decode cX7_worth 32 = .ok (.iload_n 1, 1) := by decide +kernel
theorem dX7_worth_33 : decode cX7_worth 33 = .ok (.ishl, 1) := by decide +kernel
theorem dX7_worth_34 : decode cX7_worth 34 = .ok (.iconst 0, 1) := by decide +kernel
theorem dX7_worth_35 : decode cX7_worth 35 = .ok (.invokevirtual 66, 3) := by decide +kernel
theorem dX7_worth_38 : decode cX7_worth 38 = .ok (.istore_n 2, 1) := by decide +kernel
theorem dX7_worth_39 : decode cX7_worth 39 = .ok (.iconst 0, 1) := by decide +kernel
theorem dX7_worth_40 : decode cX7_worth 40 = .ok (.istore_n 3, 1) := by decide +kernel
theorem dX7_worth_41 : decode cX7_worth 41 = .ok (.iload_n 3, 1) := by decide +kernel
theorem dX7_worth_42 : decode cX7_worth 42 = .ok (.aload_n 0, 1) := by decide +kernel
theorem dX7_worth_43 : decode cX7_worth 43 = .ok (.getfield 40, 3) := by decide +kernel
theorem dX7_worth_46 : decode cX7_worth 46 = .ok (.if_icmp .ge 53, 3) := by decide +kernel
theorem dX7_worth_49 : decode cX7_worth 49 = .ok (.aload_n 0, 1) := by decide +kernel
theorem dX7_worth_50 : decode cX7_worth 50 = .ok (.iload_n 3, 1) := by decide +kernel
theorem dX7_worth_51 : decode cX7_worth 51 = .ok (.invokevirtual 81, 3) := by decide +kernel
theorem dX7_worth_54 : decode cX7_worth 54 = .ok (.ifCond .ne 11, 3) := by decide +kernel
theorem dX7_worth_57 : decode cX7_worth 57 = .ok (.iload_n 2, 1) := by decide +kernel
theorem dX7_worth_58 : decode cX7_worth 58 = .ok (.iload_n 3, 1) := by decide +kernel
theorem dX7_worth_59 : decode cX7_worth 59 = .ok (.invokestatic 62, 3) := by decide +kernel
theorem dX7_worth_62 : decode cX7_worth 62 = .ok (.ifCond .ne 12, 3) := by decide +kernel
theorem dX7_worth_65 : decode cX7_worth 65 = .ok (.aload_n 0, 1) := by decide +kernel
theorem dX7_worth_66 : decode cX7_worth 66 = .ok (.iload_n 3, 1) := by decide +kernel
theorem dX7_worth_67 : decode cX7_worth 67 = .ok (.lconst 0, 1) := by decide +kernel
theorem dX7_worth_68 : decode cX7_worth 68 = .ok (.invokevirtual 95, 3) := by decide +kernel
theorem dX7_worth_71 : decode cX7_worth 71 = .ok (.goto 22, 3) := by decide +kernel
theorem dX7_worth_74 : decode cX7_worth 74 = .ok (.aload_n 0, 1) := by decide +kernel
theorem dX7_worth_75 : decode cX7_worth 75 = .ok (.iload_n 3, 1) := by decide +kernel
theorem dX7_worth_76 : decode cX7_worth 76 = .ok (.aload_n 0, 1) := by decide +kernel
theorem dX7_worth_77 : decode cX7_worth 77 = .ok (.iload_n 3, 1) := by decide +kernel
theorem dX7_worth_78 : decode cX7_worth 78 = .ok (.invokevirtual 51, 3) := by decide +kernel
theorem dX7_worth_81 : decode cX7_worth 81 = .ok (.i2l, 1) := by decide +kernel
theorem dX7_worth_82 : decode cX7_worth 82 = .ok (.aload_n 0, 1) := by decide +kernel
theorem dX7_worth_83 : decode cX7_worth 83 = .ok (.getfield 13, 3) := by decide +kernel
theorem dX7_worth_86 : decode cX7_worth 86 = .ok (.iload_n 3, 1) := by decide +kernel
theorem dX7_worth_87 : decode cX7_worth 87 = .ok (.iaload, 1) := by decide +kernel
theorem dX7_worth_88 : decode cX7_worth 88 = .ok (.i2l, 1) := by decide +kernel
theorem dX7_worth_89 : decode cX7_worth 89 = .ok (.lmul, 1) := by decide +kernel
theorem dX7_worth_90 : decode cX7_worth 90 = .ok (.invokevirtual 99, 3) := by decide +kernel
theorem dX7_worth_93 : decode cX7_worth 93 = .ok (.iinc 3 1, 3) := by decide +kernel
theorem dX7_worth_96 : decode cX7_worth 96 = .ok (.goto (-55), 3) := by decide +kernel
theorem dX7_worth_99 : decode cX7_worth 99 = .ok (.aload_n 0, 1) := by decide +kernel
theorem dX7_worth_100 : decode cX7_worth 100 = .ok (.iload_n 1, 1) := by decide +kernel
theorem dX7_worth_101 : decode cX7_worth 101 = .ok (.invokevirtual 106, 3) := by decide +kernel
theorem dX7_worth_104 : decode cX7_worth 104 = .ok (.ireturn, 1) := by decide +kernel
theorem dX7_ends_0 : decode cX7_ends 0 = .ok (.iconst 0, 1) := by decide +kernel
theorem dX7_ends_1 : decode cX7_ends 1 = .ok (.istore_n 1, 1) := by decide +kernel
theorem dX7_ends_2 : decode cX7_ends 2 = .ok (.iconst 0, 1) := by decide +kernel
theorem dX7_ends_3 : decode cX7_ends 3 = .ok (.istore_n 2, 1) := by decide +kernel
theorem dX7_ends_4 : decode cX7_ends 4 = .ok (.iload_n 2, 1) := by decide +kernel
theorem dX7_ends_5 : decode cX7_ends 5 = .ok (.aload_n 0, 1) := by decide +kernel
theorem dX7_ends_6 : decode cX7_ends 6 = .ok (.getfield 40, 3) := by decide +kernel
theorem dX7_ends_9 : decode cX7_ends 9 = .ok (.if_icmp .ge 27, 3) := by decide +kernel
theorem dX7_ends_12 : decode cX7_ends 12 = .ok (.aload_n 0, 1) := by decide +kernel
theorem dX7_ends_13 : decode cX7_ends 13 = .ok (.iload_n 2, 1) := by decide +kernel
theorem dX7_ends_14 : decode cX7_ends 14 = .ok (.invokevirtual 81, 3) := by decide +kernel
theorem dX7_ends_17 : decode cX7_ends 17 = .ok (.ifCond .eq 11, 3) := by decide +kernel
theorem dX7_ends_20 : decode cX7_ends 20 = .ok (.iload_n 1, 1) := by decide +kernel
theorem dX7_ends_21 : decode cX7_ends 21 = .ok (.iconst 1, 1) := by decide +kernel
theorem dX7_ends_22 : decode cX7_ends 22 = .ok (.iload_n 2, 1) := by decide +kernel
theorem dX7_ends_23 : decode cX7_ends 23 = .ok (.ishl, 1) := by decide +kernel
theorem dX7_ends_24 : decode cX7_ends 24 = .ok (.ior, 1) := by decide +kernel
theorem dX7_ends_25 : decode cX7_ends 25 = .ok (.goto 4, 3) := by decide +kernel
theorem dX7_ends_28 : decode cX7_ends 28 = .ok (.iload_n 1, 1) := by decide +kernel
theorem dX7_ends_29 : decode cX7_ends 29 = .ok (.istore_n 1, 1) := by decide +kernel
theorem dX7_ends_30 : decode cX7_ends 30 = .ok (.iinc 2 1, 3) := by decide +kernel
theorem dX7_ends_33 : decode cX7_ends 33 = .ok (.goto (-29), 3) := by decide +kernel
theorem dX7_ends_36 : decode cX7_ends 36 = .ok (.iload_n 1, 1) := by decide +kernel
theorem dX7_ends_37 : decode cX7_ends 37 = .ok (.ireturn, 1) := by decide +kernel
theorem dX7_alike_0 : decode cX7_alike 0 = .ok (.aload_n 0, 1) := by decide +kernel
theorem dX7_alike_1 : decode cX7_alike 1 = .ok (.iconst 0, 1) := by decide +kernel
theorem dX7_alike_2 : decode cX7_alike 2 = .ok (.putfield 36, 3) := by decide +kernel
theorem dX7_alike_5 : decode cX7_alike 5 = .ok (.aload_n 0, 1) := by decide +kernel
theorem dX7_alike_6 : decode cX7_alike 6 = .ok (.iload_n 1, 1) := by decide +kernel
theorem dX7_alike_7 : decode cX7_alike 7 = .ok (.invokevirtual 58, 3) := by decide +kernel
theorem dX7_alike_10 : decode cX7_alike 10 = .ok (.ifCond .ne 5, 3) := by decide +kernel
theorem dX7_alike_13 : decode cX7_alike 13 = .ok (.iconst (-1), 1) := by decide +kernel
theorem dX7_alike_14 : decode cX7_alike 14 = .ok (.ireturn, 1) := by decide +kernel
theorem dX7_alike_15 : decode cX7_alike 15 = .ok (.aload_n 0, 1) := by decide +kernel
theorem dX7_alike_16 : decode cX7_alike 16 = .ok (.invokevirtual 134, 3) := by decide +kernel
theorem dX7_alike_19 : decode cX7_alike 19 = .ok (.iconst 0, 1) := by decide +kernel
theorem dX7_alike_20 : decode cX7_alike 20 = .ok (.istore_n 2, 1) := by decide +kernel
theorem dX7_alike_21 : decode cX7_alike 21 = .ok (.aload_n 0, 1) := by decide +kernel
theorem dX7_alike_22 : decode cX7_alike 22 = .ok (.getfield 33, 3) := by decide +kernel
theorem dX7_alike_25 : decode cX7_alike 25 = .ok (.iload_n 2, 1) := by decide +kernel
theorem dX7_alike_26 : decode cX7_alike 26 = .ok (.iaload, 1) := by decide +kernel
theorem dX7_alike_27 : decode cX7_alike 27 = .ok (.aload_n 0, 1) := by decide +kernel
theorem dX7_alike_28 : decode cX7_alike 28 = .ok (.getfield 33, 3) := by decide +kernel
theorem dX7_alike_31 : decode cX7_alike 31 = .ok (.iload_n 1, 1) := by decide +kernel
theorem dX7_alike_32 : decode cX7_alike 32 = .ok (.iaload, 1) := by decide +kernel
theorem dX7_alike_33 : decode cX7_alike 33 = .ok (.if_icmp .eq 9, 3) := by decide +kernel
theorem dX7_alike_36 : decode cX7_alike 36 = .ok (.iinc 2 1, 3) := by decide +kernel
theorem dX7_alike_39 : decode cX7_alike 39 = .ok (.goto (-18), 3) := by decide +kernel
theorem dX7_alike_42 : decode cX7_alike 42 = .ok (.iload_n 2, 1) := by decide +kernel
theorem dX7_alike_43 : decode cX7_alike 43 = .ok (.ireturn, 1) := by decide +kernel
theorem dX7_layGroups_0 : decode cX7_layGroups 0 = .ok (.aload_n 0, 1) := by decide +kernel
theorem dX7_layGroups_1 : decode cX7_layGroups 1 = .ok (.aload_n 0, 1) := by decide +kernel
theorem dX7_layGroups_2 : decode cX7_layGroups 2 = .ok (.getfield 40, 3) := by decide +kernel
theorem dX7_layGroups_5 : decode cX7_layGroups 5 = .ok (.iconst 1, 1) := by decide +kernel
theorem dX7_layGroups_6 : decode cX7_layGroups 6 = .ok (.iadd, 1) := by decide +kernel
theorem dX7_layGroups_7 : decode cX7_layGroups 7 = .ok (.putfield 124, 3) := by decide +kernel
theorem dX7_layGroups_10 : decode cX7_layGroups 10 = .ok (.iconst 0, 1) := by decide +kernel
theorem dX7_layGroups_11 : decode cX7_layGroups 11 = .ok (.istore_n 1, 1) := by decide +kernel
theorem dX7_layGroups_12 : decode cX7_layGroups 12 = .ok (.iload_n 1, 1) := by decide +kernel
theorem dX7_layGroups_13 : decode cX7_layGroups 13 = .ok (.bipush 7, 2) := by decide +kernel
theorem dX7_layGroups_15 : decode cX7_layGroups 15 = .ok (.if_icmp .ge 16, 3) := by decide +kernel
theorem dX7_layGroups_18 : decode cX7_layGroups 18 = .ok (.aload_n 0, 1) := by decide +kernel
theorem dX7_layGroups_19 : decode cX7_layGroups 19 = .ok (.getfield 30, 3) := by decide +kernel
theorem dX7_layGroups_22 : decode cX7_layGroups 22 = .ok (.iload_n 1, 1) := by decide +kernel
theorem dX7_layGroups_23 : decode cX7_layGroups 23 = .ok (.iconst 0, 1) := by decide +kernel
theorem dX7_layGroups_24 : decode cX7_layGroups 24 = .ok (.iastore, 1) := by decide +kernel
theorem dX7_layGroups_25 : decode cX7_layGroups 25 = .ok (.iinc 1 1, 3) := by decide +kernel
theorem dX7_layGroups_28 : decode cX7_layGroups 28 = .ok (.goto (-16), 3) := by decide +kernel
theorem dX7_layGroups_31 : decode cX7_layGroups 31 = .ok (.aload_n 0, 1) := by decide +kernel
theorem dX7_layGroups_32 : decode cX7_layGroups 32 = .ok (.getfield 40, 3) := by decide +kernel
theorem dX7_layGroups_35 : decode cX7_layGroups 35 = .ok (.ifCond .le 7, 3) := by decide +kernel
theorem dX7_layGroups_38 : decode cX7_layGroups 38 = .ok (.iconst 1, 1) := by decide +kernel
theorem dX7_layGroups_39 : decode cX7_layGroups 39 = .ok (.goto 4, 3) := by decide +kernel
theorem dX7_layGroups_42 : decode cX7_layGroups 42 = .ok (.iconst 0, 1) := by decide +kernel
theorem dX7_layGroups_43 : decode cX7_layGroups 43 = .ok (.istore_n 1, 1) := by decide +kernel
theorem dX7_layGroups_44 : decode cX7_layGroups 44 = .ok (.aload_n 0, 1) := by decide +kernel
theorem dX7_layGroups_45 : decode cX7_layGroups 45 = .ok (.iload_n 1, 1) := by decide +kernel
theorem dX7_layGroups_46 : decode cX7_layGroups 46 = .ok (.ifCond .eq 10, 3) := by decide +kernel
theorem dX7_layGroups_49 : decode cX7_layGroups 49 = .ok (.aload_n 0, 1) := by decide +kernel
theorem dX7_layGroups_50 : decode cX7_layGroups 50 = .ok (.getfield 124, 3) := by decide +kernel
theorem dX7_layGroups_53 : decode cX7_layGroups 53 = .ok (.goto 4, 3) := by decide +kernel
theorem dX7_layGroups_56 : decode cX7_layGroups 56 = .ok (.iconst 0, 1) := by decide +kernel
theorem dX7_layGroups_57 : decode cX7_layGroups 57 = .ok (.putfield 124, 3) := by decide +kernel
theorem dX7_layGroups_60 : decode cX7_layGroups 60 = .ok (.iload_n 1, 1) := by decide +kernel
theorem dX7_layGroups_61 : decode cX7_layGroups 61 = .ok (.ifCond .eq 101, 3) := by decide +kernel
theorem dX7_layGroups_64 : decode cX7_layGroups 64 = .ok (.iconst 0, 1) := by decide +kernel
theorem dX7_layGroups_65 : decode cX7_layGroups 65 = .ok (.istore_n 2, 1) := by decide +kernel
theorem dX7_layGroups_66 : decode cX7_layGroups 66 = .ok (.iconst 0, 1) := by decide +kernel
theorem dX7_layGroups_67 : decode cX7_layGroups 67 = .ok (.istore_n 3, 1) := by decide +kernel
theorem dX7_layGroups_68 : decode cX7_layGroups 68 = .ok (.iload_n 3, 1) := by decide +kernel
theorem dX7_layGroups_69 : decode cX7_layGroups 69 = .ok (.aload_n 0, 1) := by decide +kernel
theorem dX7_layGroups_70 : decode cX7_layGroups 70 = .ok (.getfield 40, 3) := by decide +kernel
theorem dX7_layGroups_73 : decode cX7_layGroups 73 = .ok (.if_icmp .ge 32, 3) := by decide +kernel
theorem dX7_layGroups_76 : decode cX7_layGroups 76 = .ok (.aload_n 0, 1) := by decide +kernel
theorem dX7_layGroups_77 : decode cX7_layGroups 77 = .ok (.getfield 30, 3) := by decide +kernel
theorem dX7_layGroups_80 : decode cX7_layGroups 80 = .ok (.iload_n 3, 1) := by decide +kernel
theorem dX7_layGroups_81 : decode cX7_layGroups 81 = .ok (.iaload, 1) := by decide +kernel
theorem dX7_layGroups_82 : decode cX7_layGroups 82 = .ok (.iload_n 2, 1) := by decide +kernel
theorem dX7_layGroups_83 : decode cX7_layGroups 83 = .ok (.if_icmp .lt 14, 3) := by decide +kernel
theorem dX7_layGroups_86 : decode cX7_layGroups 86 = .ok (.aload_n 0, 1) := by decide +kernel
theorem dX7_layGroups_87 : decode cX7_layGroups 87 = .ok (.getfield 30, 3) := by decide +kernel
theorem dX7_layGroups_90 : decode cX7_layGroups 90 = .ok (.iload_n 3, 1) := by decide +kernel
theorem dX7_layGroups_91 : decode cX7_layGroups 91 = .ok (.iaload, 1) := by decide +kernel
theorem dX7_layGroups_92 : decode cX7_layGroups 92 = .ok (.iconst 1, 1) := by decide +kernel
theorem dX7_layGroups_93 : decode cX7_layGroups 93 = .ok (.iadd, 1) := by decide +kernel
theorem dX7_layGroups_94 : decode cX7_layGroups 94 = .ok (.goto 4, 3) := by decide +kernel
theorem dX7_layGroups_97 : decode cX7_layGroups 97 = .ok (.iload_n 2, 1) := by decide +kernel
theorem dX7_layGroups_98 : decode cX7_layGroups 98 = .ok (.istore_n 2, 1) := by decide +kernel
theorem dX7_layGroups_99 : decode cX7_layGroups 99 = .ok (.iinc 3 1, 3) := by decide +kernel
theorem dX7_layGroups_102 : decode cX7_layGroups 102 = .ok (.goto (-34), 3) := by decide +kernel
theorem dX7_layGroups_105 : decode cX7_layGroups 105 = .ok (.iload_n 2, 1) := by decide +kernel
theorem dX7_layGroups_106 : decode cX7_layGroups 106 = .ok (.aload_n 0, 1) := by decide +kernel
theorem dX7_layGroups_107 : decode cX7_layGroups 107 = .ok (.getfield 124, 3) := by decide +kernel
theorem dX7_layGroups_110 : decode cX7_layGroups 110 = .ok (.if_icmp .ge 44, 3) := by decide +kernel
theorem dX7_layGroups_113 : decode cX7_layGroups 113 = .ok (.aload_n 0, 1) := by decide +kernel
theorem dX7_layGroups_114 : decode cX7_layGroups 114 = .ok (.iload_n 2, 1) := by decide +kernel
theorem dX7_layGroups_115 : decode cX7_layGroups 115 = .ok (.invokevirtual 127, 3) := by decide +kernel
theorem dX7_layGroups_118 : decode cX7_layGroups 118 = .ok (.ifCond .eq 36, 3) := by decide +kernel
theorem dX7_layGroups_121 : decode cX7_layGroups 121 = .ok (.aload_n 0, 1) := by decide +kernel
theorem dX7_layGroups_122 : decode cX7_layGroups 122 = .ok (.iload_n 2, 1) := by decide +kernel
theorem dX7_layGroups_123 : decode cX7_layGroups 123 = .ok (.putfield 124, 3) := by decide +kernel
theorem dX7_layGroups_126 : decode cX7_layGroups 126 = .ok (.iconst 0, 1) := by decide +kernel
theorem dX7_layGroups_127 : decode cX7_layGroups 127 = .ok (.istore_n 3, 1) := by decide +kernel
theorem dX7_layGroups_128 : decode cX7_layGroups 128 = .ok (.iload_n 3, 1) := by decide +kernel
theorem dX7_layGroups_129 : decode cX7_layGroups 129 = .ok (.aload_n 0, 1) := by decide +kernel
theorem dX7_layGroups_130 : decode cX7_layGroups 130 = .ok (.getfield 40, 3) := by decide +kernel
theorem dX7_layGroups_133 : decode cX7_layGroups 133 = .ok (.if_icmp .ge 21, 3) := by decide +kernel
theorem dX7_layGroups_136 : decode cX7_layGroups 136 = .ok (.aload_n 0, 1) := by decide +kernel
theorem dX7_layGroups_137 : decode cX7_layGroups 137 = .ok (.getfield 33, 3) := by decide +kernel
theorem dX7_layGroups_140 : decode cX7_layGroups 140 = .ok (.iload_n 3, 1) := by decide +kernel
theorem dX7_layGroups_141 : decode cX7_layGroups 141 = .ok (.aload_n 0, 1) := by decide +kernel
theorem dX7_layGroups_142 : decode cX7_layGroups 142 = .ok (.getfield 30, 3) := by decide +kernel
theorem dX7_layGroups_145 : decode cX7_layGroups 145 = .ok (.iload_n 3, 1) := by decide +kernel
theorem dX7_layGroups_146 : decode cX7_layGroups 146 = .ok (.iaload, 1) := by decide +kernel
theorem dX7_layGroups_147 : decode cX7_layGroups 147 = .ok (.iastore, 1) := by decide +kernel
theorem dX7_layGroups_148 : decode cX7_layGroups 148 = .ok (.iinc 3 1, 3) := by decide +kernel
theorem dX7_layGroups_151 : decode cX7_layGroups 151 = .ok (.goto (-23), 3) := by decide +kernel
theorem dX7_layGroups_154 : decode cX7_layGroups 154 = .ok (.aload_n 0, 1) := by decide +kernel
theorem dX7_layGroups_155 : decode cX7_layGroups 155 = .ok (.invokevirtual 130, 3) := by decide +kernel
theorem dX7_layGroups_158 : decode cX7_layGroups 158 = .ok (.istore_n 1, 1) := by decide +kernel
theorem dX7_layGroups_159 : decode cX7_layGroups 159 = .ok (.goto (-99), 3) := by decide +kernel
theorem dX7_layGroups_162 : decode cX7_layGroups 162 = .ok (.return_, 1) := by decide +kernel
theorem dX7_isParting_0 : decode cX7_isParting 0 = .ok (.iconst 0, 1) := by decide +kernel
theorem dX7_isParting_1 : decode cX7_isParting 1 = .ok (.istore_n 2, 1) := by decide +kernel
theorem dX7_isParting_2 : decode cX7_isParting 2 = .ok (.iload_n 2, 1) := by decide +kernel
theorem dX7_isParting_3 : decode cX7_isParting 3 = .ok (.aload_n 0, 1) := by decide +kernel
theorem dX7_isParting_4 : decode cX7_isParting 4 = .ok (.getfield 40, 3) := by decide +kernel
theorem dX7_isParting_7 : decode cX7_isParting 7 = .ok (.if_icmp .ge 49, 3) := by decide +kernel
theorem dX7_isParting_10 : decode cX7_isParting 10 = .ok (.iconst 0, 1) := by decide +kernel
theorem dX7_isParting_11 : decode cX7_isParting 11 = .ok (.istore_n 3, 1) := by decide +kernel
theorem dX7_isParting_12 : decode cX7_isParting 12 = .ok (.iload_n 3, 1) := by decide +kernel
theorem dX7_isParting_13 : decode cX7_isParting 13 = .ok (.iload_n 2, 1) := by decide +kernel
theorem dX7_isParting_14 : decode cX7_isParting 14 = .ok (.if_icmp .ge 36, 3) := by decide +kernel
theorem dX7_isParting_17 : decode cX7_isParting 17 = .ok (.aload_n 0, 1) := by decide +kernel
theorem dX7_isParting_18 : decode cX7_isParting 18 = .ok (.getfield 30, 3) := by decide +kernel
theorem dX7_isParting_21 : decode cX7_isParting 21 = .ok (.iload_n 2, 1) := by decide +kernel
theorem dX7_isParting_22 : decode cX7_isParting 22 = .ok (.iaload, 1) := by decide +kernel
theorem dX7_isParting_23 : decode cX7_isParting 23 = .ok (.aload_n 0, 1) := by decide +kernel
theorem dX7_isParting_24 : decode cX7_isParting 24 = .ok (.getfield 30, 3) := by decide +kernel
theorem dX7_isParting_27 : decode cX7_isParting 27 = .ok (.iload_n 3, 1) := by decide +kernel
theorem dX7_isParting_28 : decode cX7_isParting 28 = .ok (.iaload, 1) := by decide +kernel
theorem dX7_isParting_29 : decode cX7_isParting 29 = .ok (.if_icmp .ne 15, 3) := by decide +kernel
theorem dX7_isParting_32 : decode cX7_isParting 32 = .ok (.aload_n 0, 1) := by decide +kernel
theorem dX7_isParting_33 : decode cX7_isParting 33 = .ok (.iload_n 2, 1) := by decide +kernel
theorem dX7_isParting_34 : decode cX7_isParting 34 = .ok (.iload_n 3, 1) := by decide +kernel
theorem dX7_isParting_35 : decode cX7_isParting 35 = .ok (.iload_n 1, 1) := by decide +kernel
theorem dX7_isParting_36 : decode cX7_isParting 36 = .ok (.invokevirtual 121, 3) := by decide +kernel
theorem dX7_isParting_39 : decode cX7_isParting 39 = .ok (.ifCond .ne 5, 3) := by decide +kernel
theorem dX7_isParting_42 : decode cX7_isParting 42 = .ok (.iconst 0, 1) := by decide +kernel
theorem dX7_isParting_43 : decode cX7_isParting 43 = .ok (.ireturn, 1) := by decide +kernel
theorem dX7_isParting_44 : decode cX7_isParting 44 = .ok (.iinc 3 1, 3) := by decide +kernel
theorem dX7_isParting_47 : decode cX7_isParting 47 = .ok (.goto (-35), 3) := by decide +kernel
theorem dX7_isParting_50 : decode cX7_isParting 50 = .ok (.iinc 2 1, 3) := by decide +kernel
theorem dX7_isParting_53 : decode cX7_isParting 53 = .ok (.goto (-51), 3) := by decide +kernel
theorem dX7_isParting_56 : decode cX7_isParting 56 = .ok (.iconst 1, 1) := by decide +kernel
theorem dX7_isParting_57 : decode cX7_isParting 57 = .ok (.ireturn, 1) := by decide +kernel
theorem dX7_fits_0 : decode cX7_fits 0 = .ok (.aload_n 0, 1) := by decide +kernel
theorem dX7_fits_1 : decode cX7_fits 1 = .ok (.iload_n 1, 1) := by decide +kernel
theorem dX7_fits_2 : decode cX7_fits 2 = .ok (.invokevirtual 81, 3) := by decide +kernel
theorem dX7_fits_5 : decode cX7_fits 5 = .ok (.aload_n 0, 1) := by decide +kernel
theorem dX7_fits_6 : decode cX7_fits 6 = .ok (.iload_n 2, 1) := by decide +kernel
theorem dX7_fits_7 : decode cX7_fits 7 = .ok (.invokevirtual 81, 3) := by decide +kernel
theorem dX7_fits_10 : decode cX7_fits 10 = .ok (.if_icmp .ne 18, 3) := by decide +kernel
theorem dX7_fits_13 : decode cX7_fits 13 = .ok (.aload_n 0, 1) := by decide +kernel
theorem dX7_fits_14 : decode cX7_fits 14 = .ok (.getfield 13, 3) := by decide +kernel
theorem dX7_fits_17 : decode cX7_fits 17 = .ok (.iload_n 1, 1) := by decide +kernel
theorem dX7_fits_18 : decode cX7_fits 18 = .ok (.iaload, 1) := by decide +kernel
theorem dX7_fits_19 : decode cX7_fits 19 = .ok (.aload_n 0, 1) := by decide +kernel
theorem dX7_fits_20 : decode cX7_fits 20 = .ok (.getfield 13, 3) := by decide +kernel
theorem dX7_fits_23 : decode cX7_fits 23 = .ok (.iload_n 2, 1) := by decide +kernel
theorem dX7_fits_24 : decode cX7_fits 24 = .ok (.iaload, 1) := by decide +kernel
theorem dX7_fits_25 : decode cX7_fits 25 = .ok (.if_icmp .eq 5, 3) := by decide +kernel
theorem dX7_fits_28 : decode cX7_fits 28 = .ok (.iconst 0, 1) := by decide +kernel
theorem dX7_fits_29 : decode cX7_fits 29 = .ok (.ireturn, 1) := by decide +kernel
theorem dX7_fits_30 : decode cX7_fits 30 = .ok (.iconst 0, 1) := by decide +kernel
theorem dX7_fits_31 : decode cX7_fits 31 = .ok (.istore 4, 2) := by decide +kernel
theorem dX7_fits_33 : decode cX7_fits 33 = .ok (.iload 4, 2) := by decide +kernel
theorem dX7_fits_35 : decode cX7_fits 35 = .ok (.iload_n 3, 1) := by decide +kernel
theorem dX7_fits_36 : decode cX7_fits 36 = .ok (.if_icmp .ge 40, 3) := by decide +kernel
theorem dX7_fits_39 : decode cX7_fits 39 = .ok (.aload_n 0, 1) := by decide +kernel
theorem dX7_fits_40 : decode cX7_fits 40 = .ok (.iload_n 1, 1) := by decide +kernel
theorem dX7_fits_41 : decode cX7_fits 41 = .ok (.iload 4, 2) := by decide +kernel
theorem dX7_fits_43 : decode cX7_fits 43 = .ok (.invokevirtual 118, 3) := by decide +kernel
theorem dX7_fits_46 : decode cX7_fits 46 = .ok (.aload_n 0, 1) := by decide +kernel
theorem dX7_fits_47 : decode cX7_fits 47 = .ok (.iload_n 2, 1) := by decide +kernel
theorem dX7_fits_48 : decode cX7_fits 48 = .ok (.invokevirtual 51, 3) := by decide +kernel
theorem dX7_fits_51 : decode cX7_fits 51 = .ok (.imul, 1) := by decide +kernel
theorem dX7_fits_52 : decode cX7_fits 52 = .ok (.aload_n 0, 1) := by decide +kernel
theorem dX7_fits_53 : decode cX7_fits 53 = .ok (.iload_n 2, 1) := by decide +kernel
theorem dX7_fits_54 : decode cX7_fits 54 = .ok (.iload 4, 2) := by decide +kernel
theorem dX7_fits_56 : decode cX7_fits 56 = .ok (.invokevirtual 118, 3) := by decide +kernel
theorem dX7_fits_59 : decode cX7_fits 59 = .ok (.aload_n 0, 1) := by decide +kernel
theorem dX7_fits_60 : decode cX7_fits 60 = .ok (.iload_n 1, 1) := by decide +kernel
theorem dX7_fits_61 : decode cX7_fits 61 = .ok (.invokevirtual 51, 3) := by decide +kernel
theorem dX7_fits_64 : decode cX7_fits 64 = .ok (.imul, 1) := by decide +kernel
theorem dX7_fits_65 : decode cX7_fits 65 = .ok (.if_icmp .eq 5, 3) := by decide +kernel
theorem dX7_fits_68 : decode cX7_fits 68 = .ok (.iconst 0, 1) := by decide +kernel
theorem dX7_fits_69 : decode cX7_fits 69 = .ok (.ireturn, 1) := by decide +kernel
theorem dX7_fits_70 : decode cX7_fits 70 = .ok (.iinc 4 1, 3) := by decide +kernel
theorem dX7_fits_73 : decode cX7_fits 73 = .ok (.goto (-40), 3) := by decide +kernel
theorem dX7_fits_76 : decode cX7_fits 76 = .ok (.iconst 1, 1) := by decide +kernel
theorem dX7_fits_77 : decode cX7_fits 77 = .ok (.ireturn, 1) := by decide +kernel
theorem dX7_weightTo_0 : decode cX7_weightTo 0 = .ok (.iconst 0, 1) := by decide +kernel
theorem dX7_weightTo_1 : decode cX7_weightTo 1 = .ok (.istore_n 3, 1) := by decide +kernel
theorem dX7_weightTo_2 : decode cX7_weightTo 2 = .ok (.iconst 0, 1) := by decide +kernel
theorem dX7_weightTo_3 : decode cX7_weightTo 3 = .ok (.istore 4, 2) := by decide +kernel
theorem dX7_weightTo_5 : decode cX7_weightTo 5 = .ok (.iload 4, 2) := by decide +kernel
theorem dX7_weightTo_7 : decode cX7_weightTo 7 = .ok (.aload_n 0, 1) := by decide +kernel
theorem dX7_weightTo_8 : decode cX7_weightTo 8 = .ok (.getfield 40, 3) := by decide +kernel
theorem dX7_weightTo_11 : decode cX7_weightTo 11 = .ok (.if_icmp .ge 34, 3) := by decide +kernel
theorem dX7_weightTo_14 : decode cX7_weightTo 14 = .ok (.iload_n 3, 1) := by decide +kernel
theorem dX7_weightTo_15 : decode cX7_weightTo 15 = .ok (.aload_n 0, 1) := by decide +kernel
theorem dX7_weightTo_16 : decode cX7_weightTo 16 = .ok (.getfield 30, 3) := by decide +kernel
theorem dX7_weightTo_19 : decode cX7_weightTo 19 = .ok (.iload 4, 2) := by decide +kernel
theorem dX7_weightTo_21 : decode cX7_weightTo 21 = .ok (.iaload, 1) := by decide +kernel
theorem dX7_weightTo_22 : decode cX7_weightTo 22 = .ok (.iload_n 2, 1) := by decide +kernel
theorem dX7_weightTo_23 : decode cX7_weightTo 23 = .ok (.if_icmp .ne 13, 3) := by decide +kernel
theorem dX7_weightTo_26 : decode cX7_weightTo 26 = .ok (.aload_n 0, 1) := by decide +kernel
theorem dX7_weightTo_27 : decode cX7_weightTo 27 = .ok (.iload_n 1, 1) := by decide +kernel
theorem dX7_weightTo_28 : decode cX7_weightTo 28 = .ok (.iload 4, 2) := by decide +kernel
theorem dX7_weightTo_30 : decode cX7_weightTo 30 = .ok (.invokevirtual 47, 3) := by decide +kernel
theorem dX7_weightTo_33 : decode cX7_weightTo 33 = .ok (.goto 4, 3) := by decide +kernel
theorem dX7_weightTo_36 : decode cX7_weightTo 36 = .ok (.iconst 0, 1) := by decide +kernel
theorem dX7_weightTo_37 : decode cX7_weightTo 37 = .ok (.iadd, 1) := by decide +kernel
theorem dX7_weightTo_38 : decode cX7_weightTo 38 = .ok (.istore_n 3, 1) := by decide +kernel
theorem dX7_weightTo_39 : decode cX7_weightTo 39 = .ok (.iinc 4 1, 3) := by decide +kernel
theorem dX7_weightTo_42 : decode cX7_weightTo 42 = .ok (.goto (-37), 3) := by decide +kernel
theorem dX7_weightTo_45 : decode cX7_weightTo 45 = .ok (.iload_n 3, 1) := by decide +kernel
theorem dX7_weightTo_46 : decode cX7_weightTo 46 = .ok (.ireturn, 1) := by decide +kernel
theorem dX7_next_0 : decode cX7_next 0 = .ok (.aload_n 0, 1) := by decide +kernel
theorem dX7_next_1 : decode cX7_next 1 = .ok (.getfield 40, 3) := by decide +kernel
theorem dX7_next_4 : decode cX7_next 4 = .ok (.iconst 1, 1) := by decide +kernel
theorem dX7_next_5 : decode cX7_next 5 = .ok (.isub, 1) := by decide +kernel
theorem dX7_next_6 : decode cX7_next 6 = .ok (.istore_n 1, 1) := by decide +kernel
theorem dX7_next_7 : decode cX7_next 7 = .ok (.iload_n 1, 1) := by decide +kernel
theorem dX7_next_8 : decode cX7_next 8 = .ok (.ifCond .le 94, 3) := by decide +kernel
theorem dX7_next_11 : decode cX7_next 11 = .ok (.iconst 0, 1) := by decide +kernel
theorem dX7_next_12 : decode cX7_next 12 = .ok (.istore_n 2, 1) := by decide +kernel
theorem dX7_next_13 : decode cX7_next 13 = .ok (.iconst 0, 1) := by decide +kernel
theorem dX7_next_14 : decode cX7_next 14 = .ok (.istore_n 3, 1) := by decide +kernel
theorem dX7_next_15 : decode cX7_next 15 = .ok (.iload_n 3, 1) := by decide +kernel
theorem dX7_next_16 : decode cX7_next 16 = .ok (.iload_n 1, 1) := by decide +kernel
theorem dX7_next_17 : decode cX7_next 17 = .ok (.if_icmp .ge 32, 3) := by decide +kernel
theorem dX7_next_20 : decode cX7_next 20 = .ok (.aload_n 0, 1) := by decide +kernel
theorem dX7_next_21 : decode cX7_next 21 = .ok (.getfield 30, 3) := by decide +kernel
theorem dX7_next_24 : decode cX7_next 24 = .ok (.iload_n 3, 1) := by decide +kernel
theorem dX7_next_25 : decode cX7_next 25 = .ok (.iaload, 1) := by decide +kernel
theorem dX7_next_26 : decode cX7_next 26 = .ok (.iload_n 2, 1) := by decide +kernel
theorem dX7_next_27 : decode cX7_next 27 = .ok (.if_icmp .lt 14, 3) := by decide +kernel
theorem dX7_next_30 : decode cX7_next 30 = .ok (.aload_n 0, 1) := by decide +kernel
theorem dX7_next_31 : decode cX7_next 31 = .ok (.getfield 30, 3) := by decide +kernel
theorem dX7_next_34 : decode cX7_next 34 = .ok (.iload_n 3, 1) := by decide +kernel
theorem dX7_next_35 : decode cX7_next 35 = .ok (.iaload, 1) := by decide +kernel
theorem dX7_next_36 : decode cX7_next 36 = .ok (.iconst 1, 1) := by decide +kernel
theorem dX7_next_37 : decode cX7_next 37 = .ok (.iadd, 1) := by decide +kernel
theorem dX7_next_38 : decode cX7_next 38 = .ok (.goto 4, 3) := by decide +kernel
theorem dX7_next_41 : decode cX7_next 41 = .ok (.iload_n 2, 1) := by decide +kernel
theorem dX7_next_42 : decode cX7_next 42 = .ok (.istore_n 2, 1) := by decide +kernel
theorem dX7_next_43 : decode cX7_next 43 = .ok (.iinc 3 1, 3) := by decide +kernel
theorem dX7_next_46 : decode cX7_next 46 = .ok (.goto (-31), 3) := by decide +kernel
theorem dX7_next_49 : decode cX7_next 49 = .ok (.aload_n 0, 1) := by decide +kernel
theorem dX7_next_50 : decode cX7_next 50 = .ok (.getfield 30, 3) := by decide +kernel
theorem dX7_next_53 : decode cX7_next 53 = .ok (.iload_n 1, 1) := by decide +kernel
theorem dX7_next_54 : decode cX7_next 54 = .ok (.iaload, 1) := by decide +kernel
theorem dX7_next_55 : decode cX7_next 55 = .ok (.iload_n 2, 1) := by decide +kernel
theorem dX7_next_56 : decode cX7_next 56 = .ok (.if_icmp .ge 40, 3) := by decide +kernel
theorem dX7_next_59 : decode cX7_next 59 = .ok (.aload_n 0, 1) := by decide +kernel
theorem dX7_next_60 : decode cX7_next 60 = .ok (.getfield 30, 3) := by decide +kernel
theorem dX7_next_63 : decode cX7_next 63 = .ok (.iload_n 1, 1) := by decide +kernel
theorem dX7_next_64 : decode cX7_next 64 = .ok (.dup2, 1) := by decide +kernel
theorem dX7_next_65 : decode cX7_next 65 = .ok (.iaload, 1) := by decide +kernel
theorem dX7_next_66 : decode cX7_next 66 = .ok (.iconst 1, 1) := by decide +kernel
theorem dX7_next_67 : decode cX7_next 67 = .ok (.iadd, 1) := by decide +kernel
theorem dX7_next_68 : decode cX7_next 68 = .ok (.iastore, 1) := by decide +kernel
theorem dX7_next_69 : decode cX7_next 69 = .ok (.iload_n 1, 1) := by decide +kernel
theorem dX7_next_70 : decode cX7_next 70 = .ok (.iconst 1, 1) := by decide +kernel
theorem dX7_next_71 : decode cX7_next 71 = .ok (.iadd, 1) := by decide +kernel
theorem dX7_next_72 : decode cX7_next 72 = .ok (.istore_n 3, 1) := by decide +kernel
theorem dX7_next_73 : decode cX7_next 73 = .ok (.iload_n 3, 1) := by decide +kernel
theorem dX7_next_74 : decode cX7_next 74 = .ok (.aload_n 0, 1) := by decide +kernel
theorem dX7_next_75 : decode cX7_next 75 = .ok (.getfield 40, 3) := by decide +kernel
theorem dX7_next_78 : decode cX7_next 78 = .ok (.if_icmp .ge 16, 3) := by decide +kernel
theorem dX7_next_81 : decode cX7_next 81 = .ok (.aload_n 0, 1) := by decide +kernel
theorem dX7_next_82 : decode cX7_next 82 = .ok (.getfield 30, 3) := by decide +kernel
theorem dX7_next_85 : decode cX7_next 85 = .ok (.iload_n 3, 1) := by decide +kernel
theorem dX7_next_86 : decode cX7_next 86 = .ok (.iconst 0, 1) := by decide +kernel
theorem dX7_next_87 : decode cX7_next 87 = .ok (.iastore, 1) := by decide +kernel
theorem dX7_next_88 : decode cX7_next 88 = .ok (.iinc 3 1, 3) := by decide +kernel
theorem dX7_next_91 : decode cX7_next 91 = .ok (.goto (-18), 3) := by decide +kernel
theorem dX7_next_94 : decode cX7_next 94 = .ok (.iconst 1, 1) := by decide +kernel
theorem dX7_next_95 : decode cX7_next 95 = .ok (.ireturn, 1) := by decide +kernel
theorem dX7_next_96 : decode cX7_next 96 = .ok (.iinc 1 (-1), 3) := by decide +kernel
theorem dX7_next_99 : decode cX7_next 99 = .ok (.goto (-92), 3) := by decide +kernel
theorem dX7_next_102 : decode cX7_next 102 = .ok (.iconst 0, 1) := by decide +kernel
theorem dX7_next_103 : decode cX7_next 103 = .ok (.ireturn, 1) := by decide +kernel
theorem dX7_upper_0 : decode cX7_upper 0 = .ok (.aload_n 0, 1) := by decide +kernel
theorem dX7_upper_1 : decode cX7_upper 1 = .ok (.iconst 0, 1) := by decide +kernel
theorem dX7_upper_2 : decode cX7_upper 2 = .ok (.putfield 36, 3) := by decide +kernel
theorem dX7_upper_5 : decode cX7_upper 5 = .ok (.aload_n 0, 1) := by decide +kernel
theorem dX7_upper_6 : decode cX7_upper 6 = .ok (.getfield 55, 3) := by decide +kernel
theorem dX7_upper_9 : decode cX7_upper 9 = .ok (.lreturn, 1) := by decide +kernel
theorem dX7_lower_0 : decode cX7_lower 0 = .ok (.aload_n 0, 1) := by decide +kernel
theorem dX7_lower_1 : decode cX7_lower 1 = .ok (.iconst 0, 1) := by decide +kernel
theorem dX7_lower_2 : decode cX7_lower 2 = .ok (.putfield 36, 3) := by decide +kernel
theorem dX7_lower_5 : decode cX7_lower 5 = .ok (.aload_n 0, 1) := by decide +kernel
theorem dX7_lower_6 : decode cX7_lower 6 = .ok (.getfield 16, 3) := by decide +kernel
theorem dX7_lower_9 : decode cX7_lower 9 = .ok (.lreturn, 1) := by decide +kernel
theorem dX7_told_0 : decode cX7_told 0 = .ok (.aload_n 0, 1) := by decide +kernel
theorem dX7_told_1 : decode cX7_told 1 = .ok (.iconst 0, 1) := by decide +kernel
theorem dX7_told_2 : decode cX7_told 2 = .ok (.putfield 36, 3) := by decide +kernel
