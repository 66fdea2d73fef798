theorem dX13_usesE_170 : decode cX13_usesE 170 = .ok (.invokevirtual 928, 3) := by decide +kernel
theorem dX13_usesE_173 : decode cX13_usesE 173 = .ok (.iastore, 1) := by decide +kernel
theorem dX13_usesE_174 : decode cX13_usesE 174 = .ok (.goto (-76), 3) := by decide +kernel
theorem dX13_usesE_177 : decode cX13_usesE 177 = .ok (.aload_n 0, 1) := by decide +kernel
theorem dX13_usesE_178 : decode cX13_usesE 178 = .ok (.getfield 173, 3) := by decide +kernel
theorem dX13_usesE_181 : decode cX13_usesE 181 = .ok (.iload_n 3, 1) := by decide +kernel
theorem dX13_usesE_182 : decode cX13_usesE 182 = .ok (.iaload, 1) := by decide +kernel
theorem dX13_usesE_183 : decode cX13_usesE 183 = .ok (.bipush 13, 2) := by decide +kernel
theorem dX13_usesE_185 : decode cX13_usesE 185 = .ok (.if_icmp .ne 28, 3) := by decide +kernel
theorem dX13_usesE_188 : decode cX13_usesE 188 = .ok (.aload_n 0, 1) := by decide +kernel
theorem dX13_usesE_189 : decode cX13_usesE 189 = .ok (.aload_n 0, 1) := by decide +kernel
theorem dX13_usesE_190 : decode cX13_usesE 190 = .ok (.getfield 197, 3) := by decide +kernel
theorem dX13_usesE_193 : decode cX13_usesE 193 = .ok (.iload_n 3, 1) := by decide +kernel
theorem dX13_usesE_194 : decode cX13_usesE 194 = .ok (.iaload, 1) := by decide +kernel
theorem dX13_usesE_195 : decode cX13_usesE 195 = .ok (.iload_n 3, 1) := by decide +kernel
theorem dX13_usesE_196 : decode cX13_usesE 196 = .ok (.invokevirtual 931, 3) := by decide +kernel
theorem dX13_usesE_199 : decode cX13_usesE 199 = .ok (.aload_n 0, 1) := by decide +kernel
theorem dX13_usesE_200 : decode cX13_usesE 200 = .ok (.getfield 221, 3) := by decide +kernel
theorem dX13_usesE_203 : decode cX13_usesE 203 = .ok (.iload_n 3, 1) := by decide +kernel
theorem dX13_usesE_204 : decode cX13_usesE 204 = .ok (.aload_n 0, 1) := by decide +kernel
theorem dX13_usesE_205 : decode cX13_usesE 205 = .ok (.iload_n 3, 1) := by decide +kernel
theorem dX13_usesE_206 : decode cX13_usesE 206 = .ok (.invokevirtual 934, 3) := by decide +kernel
theorem dX13_usesE_209 : decode cX13_usesE 209 = .ok (.iastore, 1) := by decide +kernel
theorem dX13_usesE_210 : decode cX13_usesE 210 = .ok (.goto (-112), 3) := by decide +kernel
theorem dX13_usesE_213 : decode cX13_usesE 213 = .ok (.aload_n 0, 1) := by decide +kernel
theorem dX13_usesE_214 : decode cX13_usesE 214 = .ok (.getfield 173, 3) := by decide +kernel
theorem dX13_usesE_217 : decode cX13_usesE 217 = .ok (.iload_n 3, 1) := by decide +kernel
theorem dX13_usesE_218 : decode cX13_usesE 218 = .ok (.iaload, 1) := by decide +kernel
theorem dX13_usesE_219 : decode cX13_usesE 219 = .ok (.bipush 14, 2) := by decide +kernel
theorem dX13_usesE_221 : decode cX13_usesE 221 = .ok (.if_icmp .ne (-123), 3) := by decide +kernel
theorem dX13_usesE_224 : decode cX13_usesE 224 = .ok (.aload_n 0, 1) := by decide +kernel
theorem dX13_usesE_225 : decode cX13_usesE 225 = .ok (.getfield 221, 3) := by decide +kernel
theorem dX13_usesE_228 : decode cX13_usesE 228 = .ok (.iload_n 3, 1) := by decide +kernel
theorem dX13_usesE_229 : decode cX13_usesE 229 = .ok (.aload_n 0, 1) := by decide +kernel
theorem dX13_usesE_230 : decode cX13_usesE 230 = .ok (.bipush 14, 2) := by decide +kernel
theorem dX13_usesE_232 : decode cX13_usesE 232 = .ok (.aload_n 0, 1) := by decide +kernel
theorem dX13_usesE_233 : decode cX13_usesE 233 = .ok (.getfield 188, 3) := by decide +kernel
theorem dX13_usesE_236 : decode cX13_usesE 236 = .ok (.iload_n 3, 1) := by decide +kernel
theorem dX13_usesE_237 : decode cX13_usesE 237 = .ok (.laload, 1) := by decide +kernel
theorem dX13_usesE_238 : decode cX13_usesE 238 = .ok (.lconst 0, 1) := by decide +kernel
theorem dX13_usesE_239 : decode cX13_usesE 239 = .ok (.lconst 0, 1) := by decide +kernel
theorem dX13_usesE_240 : decode cX13_usesE 240 = .ok (.invokevirtual 903, 3) := by decide +kernel
theorem dX13_usesE_243 : decode cX13_usesE 243 = .ok (.iastore, 1) := by decide +kernel
theorem dX13_usesE_244 : decode cX13_usesE 244 = .ok (.goto (-146), 3) := by decide +kernel
theorem dX13_usesE_247 : decode cX13_usesE 247 = .ok (.return_, 1) := by decide +kernel
theorem dX13_fieldUse_0 : decode cX13_fieldUse 0 = .ok (.aload_n 0, 1) := by decide +kernel
theorem dX13_fieldUse_1 : decode cX13_fieldUse 1 = .ok (.getfield 209, 3) := by decide +kernel
theorem dX13_fieldUse_4 : decode cX13_fieldUse 4 = .ok (.iload_n 1, 1) := by decide +kernel
theorem dX13_fieldUse_5 : decode cX13_fieldUse 5 = .ok (.iaload, 1) := by decide +kernel
theorem dX13_fieldUse_6 : decode cX13_fieldUse 6 = .ok (.bipush (-10), 2) := by decide +kernel
theorem dX13_fieldUse_8 : decode cX13_fieldUse 8 = .ok (.if_icmp .ne 14, 3) := by decide +kernel
theorem dX13_fieldUse_11 : decode cX13_fieldUse 11 = .ok (.iload_n 2, 1) := by decide +kernel
theorem dX13_fieldUse_12 : decode cX13_fieldUse 12 = .ok (.iconst 3, 1) := by decide +kernel
theorem dX13_fieldUse_13 : decode cX13_fieldUse 13 = .ok (.if_icmp .ne 9, 3) := by decide +kernel
theorem dX13_fieldUse_16 : decode cX13_fieldUse 16 = .ok (.aload_n 0, 1) := by decide +kernel
theorem dX13_fieldUse_17 : decode cX13_fieldUse 17 = .ok (.iload_n 1, 1) := by decide +kernel
theorem dX13_fieldUse_18 : decode cX13_fieldUse 18 = .ok (.invokevirtual 922, 3) := by decide +kernel
theorem dX13_fieldUse_21 : decode cX13_fieldUse 21 = .ok (.ireturn, 1) := by decide +kernel
theorem dX13_fieldUse_22 : decode cX13_fieldUse 22 = .ok (.aload_n 0, 1) := by decide +kernel
theorem dX13_fieldUse_23 : decode cX13_fieldUse 23 = .ok (.aload_n 0, 1) := by decide +kernel
theorem dX13_fieldUse_24 : decode cX13_fieldUse 24 = .ok (.getfield 209, 3) := by decide +kernel
theorem dX13_fieldUse_27 : decode cX13_fieldUse 27 = .ok (.iload_n 1, 1) := by decide +kernel
theorem dX13_fieldUse_28 : decode cX13_fieldUse 28 = .ok (.iaload, 1) := by decide +kernel
theorem dX13_fieldUse_29 : decode cX13_fieldUse 29 = .ok (.bipush (-12), 2) := by decide +kernel
theorem dX13_fieldUse_31 : decode cX13_fieldUse 31 = .ok (.if_icmp .ne 7, 3) := by decide +kernel
theorem dX13_fieldUse_34 : decode cX13_fieldUse 34 = .ok (.iload_n 2, 1) := by decide +kernel
theorem dX13_fieldUse_35 : decode cX13_fieldUse 35 = .ok (.goto 6, 3) := by decide +kernel
theorem dX13_fieldUse_38 : decode cX13_fieldUse 38 = .ok (.iload_n 2, 1) := by decide +kernel
theorem dX13_fieldUse_39 : decode cX13_fieldUse 39 = .ok (.iconst 2, 1) := by decide +kernel
theorem dX13_fieldUse_40 : decode cX13_fieldUse 40 = .ok (.iadd, 1) := by decide +kernel
theorem dX13_fieldUse_41 : decode cX13_fieldUse 41 = .ok (.aload_n 0, 1) := by decide +kernel
theorem dX13_fieldUse_42 : decode cX13_fieldUse 42 = .ok (.getfield 212, 3) := by decide +kernel
theorem dX13_fieldUse_45 : decode cX13_fieldUse 45 = .ok (.iload_n 1, 1) := by decide +kernel
theorem dX13_fieldUse_46 : decode cX13_fieldUse 46 = .ok (.laload, 1) := by decide +kernel
theorem dX13_fieldUse_47 : decode cX13_fieldUse 47 = .ok (.aload_n 0, 1) := by decide +kernel
theorem dX13_fieldUse_48 : decode cX13_fieldUse 48 = .ok (.getfield 185, 3) := by decide +kernel
theorem dX13_fieldUse_51 : decode cX13_fieldUse 51 = .ok (.iload_n 1, 1) := by decide +kernel
theorem dX13_fieldUse_52 : decode cX13_fieldUse 52 = .ok (.laload, 1) := by decide +kernel
theorem dX13_fieldUse_53 : decode cX13_fieldUse 53 = .ok (.aload_n 0, 1) := by decide +kernel
theorem dX13_fieldUse_54 : decode cX13_fieldUse 54 = .ok (.getfield 215, 3) := by decide +kernel
theorem dX13_fieldUse_57 : decode cX13_fieldUse 57 = .ok (.iload_n 1, 1) := by decide +kernel
theorem dX13_fieldUse_58 : decode cX13_fieldUse 58 = .ok (.laload, 1) := by decide +kernel
theorem dX13_fieldUse_59 : decode cX13_fieldUse 59 = .ok (.invokevirtual 903, 3) := by decide +kernel
theorem dX13_fieldUse_62 : decode cX13_fieldUse 62 = .ok (.ireturn, 1) := by decide +kernel
theorem dX13_usesArgs_0 : decode cX13_usesArgs 0 = .ok (.iconst 0, 1) := by decide +kernel
theorem dX13_usesArgs_1 : decode cX13_usesArgs 1 = .ok (.istore_n 3, 1) := by decide +kernel
theorem dX13_usesArgs_2 : decode cX13_usesArgs 2 = .ok (.iload_n 1, 1) := by decide +kernel
theorem dX13_usesArgs_3 : decode cX13_usesArgs 3 = .ok (.istore 4, 2) := by decide +kernel
theorem dX13_usesArgs_5 : decode cX13_usesArgs 5 = .ok (.iload 4, 2) := by decide +kernel
theorem dX13_usesArgs_7 : decode cX13_usesArgs 7 = .ok (.bipush (-2), 2) := by decide +kernel
theorem dX13_usesArgs_9 : decode cX13_usesArgs 9 = .ok (.if_icmp .eq 40, 3) := by decide +kernel
theorem dX13_usesArgs_12 : decode cX13_usesArgs 12 = .ok (.aload_n 0, 1) := by decide +kernel
theorem dX13_usesArgs_13 : decode cX13_usesArgs 13 = .ok (.iload 4, 2) := by decide +kernel
theorem dX13_usesArgs_15 : decode cX13_usesArgs 15 = .ok (.invokevirtual 912, 3) := by decide +kernel
theorem dX13_usesArgs_18 : decode cX13_usesArgs 18 = .ok (.aload_n 0, 1) := by decide +kernel
theorem dX13_usesArgs_19 : decode cX13_usesArgs 19 = .ok (.iload 4, 2) := by decide +kernel
theorem dX13_usesArgs_21 : decode cX13_usesArgs 21 = .ok (.aload_n 0, 1) := by decide +kernel
theorem dX13_usesArgs_22 : decode cX13_usesArgs 22 = .ok (.getfield 825, 3) := by decide +kernel
theorem dX13_usesArgs_25 : decode cX13_usesArgs 25 = .ok (.iconst 4, 1) := by decide +kernel
theorem dX13_usesArgs_26 : decode cX13_usesArgs 26 = .ok (.iload_n 2, 1) := by decide +kernel
theorem dX13_usesArgs_27 : decode cX13_usesArgs 27 = .ok (.imul, 1) := by decide +kernel
theorem dX13_usesArgs_28 : decode cX13_usesArgs 28 = .ok (.iload_n 3, 1) := by decide +kernel
theorem dX13_usesArgs_29 : decode cX13_usesArgs 29 = .ok (.iadd, 1) := by decide +kernel
theorem dX13_usesArgs_30 : decode cX13_usesArgs 30 = .ok (.laload, 1) := by decide +kernel
theorem dX13_usesArgs_31 : decode cX13_usesArgs 31 = .ok (.invokevirtual 915, 3) := by decide +kernel
theorem dX13_usesArgs_34 : decode cX13_usesArgs 34 = .ok (.iinc 3 1, 3) := by decide +kernel
theorem dX13_usesArgs_37 : decode cX13_usesArgs 37 = .ok (.aload_n 0, 1) := by decide +kernel
theorem dX13_usesArgs_38 : decode cX13_usesArgs 38 = .ok (.getfield 203, 3) := by decide +kernel
theorem dX13_usesArgs_41 : decode cX13_usesArgs 41 = .ok (.iload 4, 2) := by decide +kernel
theorem dX13_usesArgs_43 : decode cX13_usesArgs 43 = .ok (.iaload, 1) := by decide +kernel
theorem dX13_usesArgs_44 : decode cX13_usesArgs 44 = .ok (.istore 4, 2) := by decide +kernel
theorem dX13_usesArgs_46 : decode cX13_usesArgs 46 = .ok (.goto (-41), 3) := by decide +kernel
theorem dX13_usesArgs_49 : decode cX13_usesArgs 49 = .ok (.return_, 1) := by decide +kernel
theorem dX13_callUse_0 : decode cX13_callUse 0 = .ok (.aload_n 0, 1) := by decide +kernel
theorem dX13_callUse_1 : decode cX13_callUse 1 = .ok (.getfield 173, 3) := by decide +kernel
theorem dX13_callUse_4 : decode cX13_callUse 4 = .ok (.iload_n 1, 1) := by decide +kernel
theorem dX13_callUse_5 : decode cX13_callUse 5 = .ok (.iaload, 1) := by decide +kernel
theorem dX13_callUse_6 : decode cX13_callUse 6 = .ok (.istore_n 2, 1) := by decide +kernel
theorem dX13_callUse_7 : decode cX13_callUse 7 = .ok (.aload_n 0, 1) := by decide +kernel
theorem dX13_callUse_8 : decode cX13_callUse 8 = .ok (.aload_n 0, 1) := by decide +kernel
theorem dX13_callUse_9 : decode cX13_callUse 9 = .ok (.aload_n 0, 1) := by decide +kernel
theorem dX13_callUse_10 : decode cX13_callUse 10 = .ok (.getfield 212, 3) := by decide +kernel
theorem dX13_callUse_13 : decode cX13_callUse 13 = .ok (.iload_n 1, 1) := by decide +kernel
theorem dX13_callUse_14 : decode cX13_callUse 14 = .ok (.laload, 1) := by decide +kernel
theorem dX13_callUse_15 : decode cX13_callUse 15 = .ok (.invokevirtual 551, 3) := by decide +kernel
theorem dX13_callUse_18 : decode cX13_callUse 18 = .ok (.invokevirtual 548, 3) := by decide +kernel
theorem dX13_callUse_21 : decode cX13_callUse 21 = .ok (.istore_n 3, 1) := by decide +kernel
theorem dX13_callUse_22 : decode cX13_callUse 22 = .ok (.iload_n 2, 1) := by decide +kernel
theorem dX13_callUse_23 : decode cX13_callUse 23 = .ok (.bipush 8, 2) := by decide +kernel
theorem dX13_callUse_25 : decode cX13_callUse 25 = .ok (.if_icmp .ne 8, 3) := by decide +kernel
theorem dX13_callUse_28 : decode cX13_callUse 28 = .ok (.bipush 11, 2) := by decide +kernel
theorem dX13_callUse_30 : decode cX13_callUse 30 = .ok (.goto 41, 3) := by decide +kernel
theorem dX13_callUse_33 : decode cX13_callUse 33 = .ok (.iload_n 2, 1) := by decide +kernel
theorem dX13_callUse_34 : decode cX13_callUse 34 = .ok (.bipush 7, 2) := by decide +kernel
theorem dX13_callUse_36 : decode cX13_callUse 36 = .ok (.if_icmp .ne 8, 3) := by decide +kernel
theorem dX13_callUse_39 : decode cX13_callUse 39 = .ok (.bipush 12, 2) := by decide +kernel
theorem dX13_callUse_41 : decode cX13_callUse 41 = .ok (.goto 30, 3) := by decide +kernel
theorem dX13_callUse_44 : decode cX13_callUse 44 = .ok (.iload_n 3, 1) := by decide +kernel
theorem dX13_callUse_45 : decode cX13_callUse 45 = .ok (.ifCond .eq 8, 3) := by decide +kernel
theorem dX13_callUse_48 : decode cX13_callUse 48 = .ok (.bipush 8, 2) := by decide +kernel
theorem dX13_callUse_50 : decode cX13_callUse 50 = .ok (.goto 5, 3) := by decide +kernel
theorem dX13_callUse_53 : decode cX13_callUse 53 = .ok (.bipush 7, 2) := by decide +kernel
theorem dX13_callUse_55 : decode cX13_callUse 55 = .ok (.aload_n 0, 1) := by decide +kernel
theorem dX13_callUse_56 : decode cX13_callUse 56 = .ok (.getfield 209, 3) := by decide +kernel
theorem dX13_callUse_59 : decode cX13_callUse 59 = .ok (.iload_n 1, 1) := by decide +kernel
theorem dX13_callUse_60 : decode cX13_callUse 60 = .ok (.iaload, 1) := by decide +kernel
theorem dX13_callUse_61 : decode cX13_callUse 61 = .ok (.iconst 1, 1) := by decide +kernel
theorem dX13_callUse_62 : decode cX13_callUse 62 = .ok (.if_icmp .ne 7, 3) := by decide +kernel
theorem dX13_callUse_65 : decode cX13_callUse 65 = .ok (.iconst 2, 1) := by decide +kernel
theorem dX13_callUse_66 : decode cX13_callUse 66 = .ok (.goto 4, 3) := by decide +kernel
theorem dX13_callUse_69 : decode cX13_callUse 69 = .ok (.iconst 0, 1) := by decide +kernel
theorem dX13_callUse_70 : decode cX13_callUse 70 = .ok (.iadd, 1) := by decide +kernel
theorem dX13_callUse_71 : decode cX13_callUse 71 = .ok (.istore 4, 2) := by decide +kernel
theorem dX13_callUse_73 : decode cX13_callUse 73 = .ok (.aload_n 0, 1) := by decide +kernel
theorem dX13_callUse_74 : decode cX13_callUse 74 = .ok (.iload_n 1, 1) := by decide +kernel
theorem dX13_callUse_75 : decode cX13_callUse 75 = .ok (.iload 4, 2) := by decide +kernel
theorem dX13_callUse_77 : decode cX13_callUse 77 = .ok (.aload_n 0, 1) := by decide +kernel
theorem dX13_callUse_78 : decode cX13_callUse 78 = .ok (.getfield 212, 3) := by decide +kernel
theorem dX13_callUse_81 : decode cX13_callUse 81 = .ok (.iload_n 1, 1) := by decide +kernel
theorem dX13_callUse_82 : decode cX13_callUse 82 = .ok (.laload, 1) := by decide +kernel
theorem dX13_callUse_83 : decode cX13_callUse 83 = .ok (.aload_n 0, 1) := by decide +kernel
theorem dX13_callUse_84 : decode cX13_callUse 84 = .ok (.getfield 185, 3) := by decide +kernel
theorem dX13_callUse_87 : decode cX13_callUse 87 = .ok (.iload_n 1, 1) := by decide +kernel
theorem dX13_callUse_88 : decode cX13_callUse 88 = .ok (.laload, 1) := by decide +kernel
theorem dX13_callUse_89 : decode cX13_callUse 89 = .ok (.aload_n 0, 1) := by decide +kernel
theorem dX13_callUse_90 : decode cX13_callUse 90 = .ok (.getfield 215, 3) := by decide +kernel
theorem dX13_callUse_93 : decode cX13_callUse 93 = .ok (.iload_n 1, 1) := by decide +kernel
theorem dX13_callUse_94 : decode cX13_callUse 94 = .ok (.laload, 1) := by decide +kernel
theorem dX13_callUse_95 : decode cX13_callUse 95 = .ok (.invokevirtual 937, 3) := by decide +kernel
theorem dX13_callUse_98 : decode cX13_callUse 98 = .ok (.ireturn, 1) := by decide +kernel
theorem dX13_usesLeaf_0 : decode cX13_usesLeaf 0 = .ok (.aload_n 0, 1) := by decide +kernel
theorem dX13_usesLeaf_1 : decode cX13_usesLeaf 1 = .ok (.getfield 173, 3) := by decide +kernel
theorem dX13_usesLeaf_4 : decode cX13_usesLeaf 4 = .ok (.iload_n 1, 1) := by decide +kernel
theorem dX13_usesLeaf_5 : decode cX13_usesLeaf 5 = .ok (.iaload, 1) := by decide +kernel
theorem dX13_usesLeaf_6 : decode cX13_usesLeaf 6 = .ok (.tableswitch 181 3 10 #[46, 70, 46, 70, 70, 70, 95, 148], 46) := by decide +kernel
theorem dX13_usesLeaf_52 : decode cX13_usesLeaf 52 = .ok (.aload_n 0, 1) := by decide +kernel
theorem dX13_usesLeaf_53 : decode cX13_usesLeaf 53 = .ok (.getfield 209, 3) := by decide +kernel
theorem dX13_usesLeaf_56 : decode cX13_usesLeaf 56 = .ok (.iload_n 1, 1) := by decide +kernel
theorem dX13_usesLeaf_57 : decode cX13_usesLeaf 57 = .ok (.iaload, 1) := by decide +kernel
theorem dX13_usesLeaf_58 : decode cX13_usesLeaf 58 = .ok (.ifCond .ge 129, 3) := by decide +kernel
theorem dX13_usesLeaf_61 : decode cX13_usesLeaf 61 = .ok (.aload_n 0, 1) := by decide +kernel
theorem dX13_usesLeaf_62 : decode cX13_usesLeaf 62 = .ok (.getfield 221, 3) := by decide +kernel
theorem dX13_usesLeaf_65 : decode cX13_usesLeaf 65 = .ok (.iload_n 1, 1) := by decide +kernel
theorem dX13_usesLeaf_66 : decode cX13_usesLeaf 66 = .ok (.aload_n 0, 1) := by decide +kernel
theorem dX13_usesLeaf_67 : decode cX13_usesLeaf 67 = .ok (.iload_n 1, 1) := by decide +kernel
theorem dX13_usesLeaf_68 : decode cX13_usesLeaf 68 = .ok (.iconst 3, 1) := by decide +kernel
theorem dX13_usesLeaf_69 : decode cX13_usesLeaf 69 = .ok (.invokevirtual 928, 3) := by decide +kernel
theorem dX13_usesLeaf_72 : decode cX13_usesLeaf 72 = .ok (.iastore, 1) := by decide +kernel
theorem dX13_usesLeaf_73 : decode cX13_usesLeaf 73 = .ok (.goto 114, 3) := by decide +kernel
theorem dX13_usesLeaf_76 : decode cX13_usesLeaf 76 = .ok (.aload_n 0, 1) := by decide +kernel
theorem dX13_usesLeaf_77 : decode cX13_usesLeaf 77 = .ok (.aload_n 0, 1) := by decide +kernel
theorem dX13_usesLeaf_78 : decode cX13_usesLeaf 78 = .ok (.getfield 197, 3) := by decide +kernel
theorem dX13_usesLeaf_81 : decode cX13_usesLeaf 81 = .ok (.iload_n 1, 1) := by decide +kernel
theorem dX13_usesLeaf_82 : decode cX13_usesLeaf 82 = .ok (.iaload, 1) := by decide +kernel
theorem dX13_usesLeaf_83 : decode cX13_usesLeaf 83 = .ok (.iload_n 1, 1) := by decide +kernel
theorem dX13_usesLeaf_84 : decode cX13_usesLeaf 84 = .ok (.invokevirtual 931, 3) := by decide +kernel
theorem dX13_usesLeaf_87 : decode cX13_usesLeaf 87 = .ok (.aload_n 0, 1) := by decide +kernel
theorem dX13_usesLeaf_88 : decode cX13_usesLeaf 88 = .ok (.getfield 221, 3) := by decide +kernel
theorem dX13_usesLeaf_91 : decode cX13_usesLeaf 91 = .ok (.iload_n 1, 1) := by decide +kernel
theorem dX13_usesLeaf_92 : decode cX13_usesLeaf 92 = .ok (.aload_n 0, 1) := by decide +kernel
theorem dX13_usesLeaf_93 : decode cX13_usesLeaf 93 = .ok (.iload_n 1, 1) := by decide +kernel
theorem dX13_usesLeaf_94 : decode cX13_usesLeaf 94 = .ok (.invokevirtual 934, 3) := by decide +kernel
theorem dX13_usesLeaf_97 : decode cX13_usesLeaf 97 = .ok (.iastore, 1) := by decide +kernel
theorem dX13_usesLeaf_98 : decode cX13_usesLeaf 98 = .ok (.goto 89, 3) := by decide +kernel
theorem dX13_usesLeaf_101 : decode cX13_usesLeaf 101 = .ok (.aload_n 0, 1) := by decide +kernel
theorem dX13_usesLeaf_102 : decode cX13_usesLeaf 102 = .ok (.getfield 221, 3) := by decide +kernel
theorem dX13_usesLeaf_105 : decode cX13_usesLeaf 105 = .ok (.iload_n 1, 1) := by decide +kernel
theorem dX13_usesLeaf_106 : decode cX13_usesLeaf 106 = .ok (.aload_n 0, 1) := by decide +kernel
theorem dX13_usesLeaf_107 : decode cX13_usesLeaf 107 = .ok (.iconst 1, 1) := by decide +kernel
theorem dX13_usesLeaf_108 : decode cX13_usesLeaf 108 = .ok (.aload_n 0, 1) := by decide +kernel
theorem dX13_usesLeaf_109 : decode cX13_usesLeaf 109 = .ok (.getfield 188, 3) := by decide +kernel
theorem dX13_usesLeaf_112 : decode cX13_usesLeaf 112 = .ok (.iload_n 1, 1) := by decide +kernel
theorem dX13_usesLeaf_113 : decode cX13_usesLeaf 113 = .ok (.laload, 1) := by decide +kernel
theorem dX13_usesLeaf_114 : decode cX13_usesLeaf 114 = .ok (.lconst 0, 1) := by decide +kernel
theorem dX13_usesLeaf_115 : decode cX13_usesLeaf 115 = .ok (.lconst 0, 1) := by decide +kernel
theorem dX13_usesLeaf_116 : decode cX13_usesLeaf 116 = .ok (.invokevirtual 903, 3) := by decide +kernel
theorem dX13_usesLeaf_119 : decode cX13_usesLeaf 119 = .ok (.iastore, 1) := by decide +kernel
theorem dX13_usesLeaf_120 : decode cX13_usesLeaf 120 = .ok (.aload_n 0, 1) := by decide +kernel
theorem dX13_usesLeaf_121 : decode cX13_usesLeaf 121 = .ok (.aload_n 0, 1) := by decide +kernel
theorem dX13_usesLeaf_122 : decode cX13_usesLeaf 122 = .ok (.getfield 197, 3) := by decide +kernel
theorem dX13_usesLeaf_125 : decode cX13_usesLeaf 125 = .ok (.iload_n 1, 1) := by decide +kernel
theorem dX13_usesLeaf_126 : decode cX13_usesLeaf 126 = .ok (.iaload, 1) := by decide +kernel
theorem dX13_usesLeaf_127 : decode cX13_usesLeaf 127 = .ok (.iload_n 1, 1) := by decide +kernel
theorem dX13_usesLeaf_128 : decode cX13_usesLeaf 128 = .ok (.invokevirtual 931, 3) := by decide +kernel
theorem dX13_usesLeaf_131 : decode cX13_usesLeaf 131 = .ok (.aload_n 0, 1) := by decide +kernel
theorem dX13_usesLeaf_132 : decode cX13_usesLeaf 132 = .ok (.getfield 224, 3) := by decide +kernel
theorem dX13_usesLeaf_135 : decode cX13_usesLeaf 135 = .ok (.iload_n 1, 1) := by decide +kernel
theorem dX13_usesLeaf_136 : decode cX13_usesLeaf 136 = .ok (.aload_n 0, 1) := by decide +kernel
theorem dX13_usesLeaf_137 : decode cX13_usesLeaf 137 = .ok (.iload_n 1, 1) := by decide +kernel
theorem dX13_usesLeaf_138 : decode cX13_usesLeaf 138 = .ok (.iconst 2, 1) := by decide +kernel
theorem dX13_usesLeaf_139 : decode cX13_usesLeaf 139 = .ok (.aload_n 0, 1) := by decide +kernel
theorem dX13_usesLeaf_140 : decode cX13_usesLeaf 140 = .ok (.getfield 188, 3) := by decide +kernel
theorem dX13_usesLeaf_143 : decode cX13_usesLeaf 143 = .ok (.iload_n 1, 1) := by decide +kernel
theorem dX13_usesLeaf_144 : decode cX13_usesLeaf 144 = .ok (.laload, 1) := by decide +kernel
theorem dX13_usesLeaf_145 : decode cX13_usesLeaf 145 = .ok (.lconst 0, 1) := by decide +kernel
theorem dX13_usesLeaf_146 : decode cX13_usesLeaf 146 = .ok (.lconst 0, 1) := by decide +kernel
theorem dX13_usesLeaf_147 : decode cX13_usesLeaf 147 = .ok (.invokevirtual 937, 3) := by decide +kernel
theorem dX13_usesLeaf_150 : decode cX13_usesLeaf 150 = .ok (.iastore, 1) := by decide +kernel
theorem dX13_usesLeaf_151 : decode cX13_usesLeaf 151 = .ok (.goto 36, 3) := by decide +kernel
theorem dX13_usesLeaf_154 : decode cX13_usesLeaf 154 = .ok (.aload_n 0, 1) := by decide +kernel
theorem dX13_usesLeaf_155 : decode cX13_usesLeaf 155 = .ok (.aload_n 0, 1) := by decide +kernel
theorem dX13_usesLeaf_156 : decode cX13_usesLeaf 156 = .ok (.getfield 194, 3) := by decide +kernel
theorem dX13_usesLeaf_159 : decode cX13_usesLeaf 159 = .ok (.iload_n 1, 1) := by decide +kernel
theorem dX13_usesLeaf_160 : decode cX13_usesLeaf 160 = .ok (.iaload, 1) := by decide +kernel
theorem dX13_usesLeaf_161 : decode cX13_usesLeaf 161 = .ok (.invokevirtual 912, 3) := by decide +kernel
theorem dX13_usesLeaf_164 : decode cX13_usesLeaf 164 = .ok (.aload_n 0, 1) := by decide +kernel
theorem dX13_usesLeaf_165 : decode cX13_usesLeaf 165 = .ok (.getfield 221, 3) := by decide +kernel
theorem dX13_usesLeaf_168 : decode cX13_usesLeaf 168 = .ok (.iload_n 1, 1) := by decide +kernel
theorem dX13_usesLeaf_169 : decode cX13_usesLeaf 169 = .ok (.aload_n 0, 1) := by decide +kernel
theorem dX13_usesLeaf_170 : decode cX13_usesLeaf 170 = .ok (.bipush 13, 2) := by decide +kernel
theorem dX13_usesLeaf_172 : decode cX13_usesLeaf 172 = .ok (.aload_n 0, 1) := by decide +kernel
theorem dX13_usesLeaf_173 : decode cX13_usesLeaf 173 = .ok (.getfield 188, 3) := by decide +kernel
theorem dX13_usesLeaf_176 : decode cX13_usesLeaf 176 = .ok (.iload_n 1, 1) := by decide +kernel
theorem dX13_usesLeaf_177 : decode cX13_usesLeaf 177 = .ok (.laload, 1) := by decide +kernel
theorem dX13_usesLeaf_178 : decode cX13_usesLeaf 178 = .ok (.lconst 0, 1) := by decide +kernel
theorem dX13_usesLeaf_179 : decode cX13_usesLeaf 179 = .ok (.lconst 0, 1) := by decide +kernel
theorem dX13_usesLeaf_180 : decode cX13_usesLeaf 180 = .ok (.invokevirtual 903, 3) := by decide +kernel
theorem dX13_usesLeaf_183 : decode cX13_usesLeaf 183 = .ok (.iastore, 1) := by decide +kernel
theorem dX13_usesLeaf_184 : decode cX13_usesLeaf 184 = .ok (.goto 3, 3) := by decide +kernel
theorem dX13_usesLeaf_187 : decode cX13_usesLeaf 187 = .ok (.return_, 1) := by decide +kernel
theorem dX13_usesS_0 : decode cX13_usesS 0 = .ok (.aload_n 0, 1) := by decide +kernel
theorem dX13_usesS_1 : decode cX13_usesS 1 = .ok (.getfield 173, 3) := by decide +kernel
theorem dX13_usesS_4 : decode cX13_usesS 4 = .ok (.iload_n 1, 1) := by decide +kernel
theorem dX13_usesS_5 : decode cX13_usesS 5 = .ok (.iaload, 1) := by decide +kernel
theorem dX13_usesS_6 : decode cX13_usesS 6 = .ok (.tableswitch 338 20 30 #[58, 89, 118, 118, 162, 205, 231, 338, 274, 338, 330], 58) := by decide +kernel
theorem dX13_usesS_64 : decode cX13_usesS 64 = .ok (.aload_n 0, 1) := by decide +kernel
theorem dX13_usesS_65 : decode cX13_usesS 65 = .ok (.getfield 194, 3) := by decide +kernel
theorem dX13_usesS_68 : decode cX13_usesS 68 = .ok (.iload_n 1, 1) := by decide +kernel
theorem dX13_usesS_69 : decode cX13_usesS 69 = .ok (.iaload, 1) := by decide +kernel
theorem dX13_usesS_70 : decode cX13_usesS 70 = .ok (.istore_n 2, 1) := by decide +kernel
theorem dX13_usesS_71 : decode cX13_usesS 71 = .ok (.iload_n 2, 1) := by decide +kernel
theorem dX13_usesS_72 : decode cX13_usesS 72 = .ok (.bipush (-2), 2) := by decide +kernel
theorem dX13_usesS_74 : decode cX13_usesS 74 = .ok (.if_icmp .eq 18, 3) := by decide +kernel
theorem dX13_usesS_77 : decode cX13_usesS 77 = .ok (.aload_n 0, 1) := by decide +kernel
theorem dX13_usesS_78 : decode cX13_usesS 78 = .ok (.iload_n 2, 1) := by decide +kernel
theorem dX13_usesS_79 : decode cX13_usesS 79 = .ok (.invokevirtual 919, 3) := by decide +kernel
theorem dX13_usesS_82 : decode cX13_usesS 82 = .ok (.aload_n 0, 1) := by decide +kernel
theorem dX13_usesS_83 : decode cX13_usesS 83 = .ok (.getfield 203, 3) := by decide +kernel
theorem dX13_usesS_86 : decode cX13_usesS 86 = .ok (.iload_n 2, 1) := by decide +kernel
theorem dX13_usesS_87 : decode cX13_usesS 87 = .ok (.iaload, 1) := by decide +kernel
theorem dX13_usesS_88 : decode cX13_usesS 88 = .ok (.istore_n 2, 1) := by decide +kernel
theorem dX13_usesS_89 : decode cX13_usesS 89 = .ok (.goto (-18), 3) := by decide +kernel
theorem dX13_usesS_92 : decode cX13_usesS 92 = .ok (.goto 262, 3) := by decide +kernel
theorem dX13_usesS_95 : decode cX13_usesS 95 = .ok (.aload_n 0, 1) := by decide +kernel
theorem dX13_usesS_96 : decode cX13_usesS 96 = .ok (.aload_n 0, 1) := by decide +kernel
theorem dX13_usesS_97 : decode cX13_usesS 97 = .ok (.getfield 194, 3) := by decide +kernel
theorem dX13_usesS_100 : decode cX13_usesS 100 = .ok (.iload_n 1, 1) := by decide +kernel
theorem dX13_usesS_101 : decode cX13_usesS 101 = .ok (.iaload, 1) := by decide +kernel
theorem dX13_usesS_102 : decode cX13_usesS 102 = .ok (.invokevirtual 912, 3) := by decide +kernel
theorem dX13_usesS_105 : decode cX13_usesS 105 = .ok (.aload_n 0, 1) := by decide +kernel
theorem dX13_usesS_106 : decode cX13_usesS 106 = .ok (.aload_n 0, 1) := by decide +kernel
theorem dX13_usesS_107 : decode cX13_usesS 107 = .ok (.getfield 194, 3) := by decide +kernel
theorem dX13_usesS_110 : decode cX13_usesS 110 = .ok (.iload_n 1, 1) := by decide +kernel
theorem dX13_usesS_111 : decode cX13_usesS 111 = .ok (.iaload, 1) := by decide +kernel
theorem dX13_usesS_112 : decode cX13_usesS 112 = .ok (.aload_n 0, 1) := by decide +kernel
theorem dX13_usesS_113 : decode cX13_usesS 113 = .ok (.getfield 191, 3) := by decide +kernel
theorem dX13_usesS_116 : decode cX13_usesS 116 = .ok (.iload_n 1, 1) := by decide +kernel
theorem dX13_usesS_117 : decode cX13_usesS 117 = .ok (.laload, 1) := by decide +kernel
theorem dX13_usesS_118 : decode cX13_usesS 118 = .ok (.invokevirtual 915, 3) := by decide +kernel
theorem dX13_usesS_121 : decode cX13_usesS 121 = .ok (.goto 233, 3) := by decide +kernel
theorem dX13_usesS_124 : decode cX13_usesS 124 = .ok (.aload_n 0, 1) := by decide +kernel
theorem dX13_usesS_125 : decode cX13_usesS 125 = .ok (.aload_n 0, 1) := by decide +kernel
theorem dX13_usesS_126 : decode cX13_usesS 126 = .ok (.getfield 194, 3) := by decide +kernel
theorem dX13_usesS_129 : decode cX13_usesS 129 = .ok (.iload_n 1, 1) := by decide +kernel
theorem dX13_usesS_130 : decode cX13_usesS 130 = .ok (.iaload, 1) := by decide +kernel
theorem dX13_usesS_131 : decode cX13_usesS 131 = .ok (.invokevirtual 912, 3) := by decide +kernel
theorem dX13_usesS_134 : decode cX13_usesS 134 = .ok (.aload_n 0, 1) := by decide +kernel
theorem dX13_usesS_135 : decode cX13_usesS 135 = .ok (.aload_n 0, 1) := by decide +kernel
theorem dX13_usesS_136 : decode cX13_usesS 136 = .ok (.getfield 197, 3) := by decide +kernel
theorem dX13_usesS_139 : decode cX13_usesS 139 = .ok (.iload_n 1, 1) := by decide +kernel
theorem dX13_usesS_140 : decode cX13_usesS 140 = .ok (.iaload, 1) := by decide +kernel
theorem dX13_usesS_141 : decode cX13_usesS 141 = .ok (.invokevirtual 919, 3) := by decide +kernel
theorem dX13_usesS_144 : decode cX13_usesS 144 = .ok (.aload_n 0, 1) := by decide +kernel
theorem dX13_usesS_145 : decode cX13_usesS 145 = .ok (.getfield 200, 3) := by decide +kernel
theorem dX13_usesS_148 : decode cX13_usesS 148 = .ok (.iload_n 1, 1) := by decide +kernel
theorem dX13_usesS_149 : decode cX13_usesS 149 = .ok (.iaload, 1) := by decide +kernel
theorem dX13_usesS_150 : decode cX13_usesS 150 = .ok (.bipush (-2), 2) := by decide +kernel
theorem dX13_usesS_152 : decode cX13_usesS 152 = .ok (.if_icmp .eq 202, 3) := by decide +kernel
theorem dX13_usesS_155 : decode cX13_usesS 155 = .ok (.aload_n 0, 1) := by decide +kernel
theorem dX13_usesS_156 : decode cX13_usesS 156 = .ok (.aload_n 0, 1) := by decide +kernel
theorem dX13_usesS_157 : decode cX13_usesS 157 = .ok (.getfield 200, 3) := by decide +kernel
theorem dX13_usesS_160 : decode cX13_usesS 160 = .ok (.iload_n 1, 1) := by decide +kernel
theorem dX13_usesS_161 : decode cX13_usesS 161 = .ok (.iaload, 1) := by decide +kernel
theorem dX13_usesS_162 : decode cX13_usesS 162 = .ok (.invokevirtual 919, 3) := by decide +kernel
theorem dX13_usesS_165 : decode cX13_usesS 165 = .ok (.goto 189, 3) := by decide +kernel
theorem dX13_usesS_168 : decode cX13_usesS 168 = .ok (.aload_n 0, 1) := by decide +kernel
theorem dX13_usesS_169 : decode cX13_usesS 169 = .ok (.getfield 194, 3) := by decide +kernel
theorem dX13_usesS_172 : decode cX13_usesS 172 = .ok (.iload_n 1, 1) := by decide +kernel
theorem dX13_usesS_173 : decode cX13_usesS 173 = .ok (.iaload, 1) := by decide +kernel
theorem dX13_usesS_174 : decode cX13_usesS 174 = .ok (.bipush (-2), 2) := by decide +kernel
theorem dX13_usesS_176 : decode cX13_usesS 176 = .ok (.if_icmp .eq 178, 3) := by decide +kernel
theorem dX13_usesS_179 : decode cX13_usesS 179 = .ok (.aload_n 0, 1) := by decide +kernel
theorem dX13_usesS_180 : decode cX13_usesS 180 = .ok (.aload_n 0, 1) := by decide +kernel
theorem dX13_usesS_181 : decode cX13_usesS 181 = .ok (.getfield 194, 3) := by decide +kernel
theorem dX13_usesS_184 : decode cX13_usesS 184 = .ok (.iload_n 1, 1) := by decide +kernel
theorem dX13_usesS_185 : decode cX13_usesS 185 = .ok (.iaload, 1) := by decide +kernel
theorem dX13_usesS_186 : decode cX13_usesS 186 = .ok (.invokevirtual 912, 3) := by decide +kernel
theorem dX13_usesS_189 : decode cX13_usesS 189 = .ok (.aload_n 0, 1) := by decide +kernel
theorem dX13_usesS_190 : decode cX13_usesS 190 = .ok (.aload_n 0, 1) := by decide +kernel
theorem dX13_usesS_191 : decode cX13_usesS 191 = .ok (.getfield 194, 3) := by decide +kernel
theorem dX13_usesS_194 : decode cX13_usesS 194 = .ok (.iload_n 1, 1) := by decide +kernel
theorem dX13_usesS_195 : decode cX13_usesS 195 = .ok (.iaload, 1) := by decide +kernel
theorem dX13_usesS_196 : decode cX13_usesS 196 = .ok (.aload_n 0, 1) := by decide +kernel
theorem dX13_usesS_197 : decode cX13_usesS 197 = .ok (.getfield 359, 3) := by decide +kernel
theorem dX13_usesS_200 : decode cX13_usesS 200 = .ok (.aload_n 0, 1) := by decide +kernel
theorem dX13_usesS_201 : decode cX13_usesS 201 = .ok (.getfield 748, 3) := by decide +kernel
theorem dX13_usesS_204 : decode cX13_usesS 204 = .ok (.laload, 1) := by decide +kernel
theorem dX13_usesS_205 : decode cX13_usesS 205 = .ok (.invokevirtual 915, 3) := by decide +kernel
theorem dX13_usesS_208 : decode cX13_usesS 208 = .ok (.goto 146, 3) := by decide +kernel
theorem dX13_usesS_211 : decode cX13_usesS 211 = .ok (.aload_n 0, 1) := by decide +kernel
theorem dX13_usesS_212 : decode cX13_usesS 212 = .ok (.aload_n 0, 1) := by decide +kernel
theorem dX13_usesS_213 : decode cX13_usesS 213 = .ok (.getfield 194, 3) := by decide +kernel
theorem dX13_usesS_216 : decode cX13_usesS 216 = .ok (.iload_n 1, 1) := by decide +kernel
theorem dX13_usesS_217 : decode cX13_usesS 217 = .ok (.iaload, 1) := by decide +kernel
theorem dX13_usesS_218 : decode cX13_usesS 218 = .ok (.invokevirtual 912, 3) := by decide +kernel
theorem dX13_usesS_221 : decode cX13_usesS 221 = .ok (.aload_n 0, 1) := by decide +kernel
theorem dX13_usesS_222 : decode cX13_usesS 222 = .ok (.aload_n 0, 1) := by decide +kernel
theorem dX13_usesS_223 : decode cX13_usesS 223 = .ok (.getfield 194, 3) := by decide +kernel
theorem dX13_usesS_226 : decode cX13_usesS 226 = .ok (.iload_n 1, 1) := by decide +kernel
theorem dX13_usesS_227 : decode cX13_usesS 227 = .ok (.iaload, 1) := by decide +kernel
theorem dX13_usesS_228 : decode cX13_usesS 228 = .ok (.ldc2_w 524, 3) := by decide +kernel
theorem dX13_usesS_231 : decode cX13_usesS 231 = .ok (.invokevirtual 915, 3) := by decide +kernel
theorem dX13_usesS_234 : decode cX13_usesS 234 = .ok (.goto 120, 3) := by decide +kernel
theorem dX13_usesS_237 : decode cX13_usesS 237 = .ok (.aload_n 0, 1) := by decide +kernel
theorem dX13_usesS_238 : decode cX13_usesS 238 = .ok (.aload_n 0, 1) := by decide +kernel
theorem dX13_usesS_239 : decode cX13_usesS 239 = .ok (.getfield 194, 3) := by decide +kernel
theorem dX13_usesS_242 : decode cX13_usesS 242 = .ok (.iload_n 1, 1) := by decide +kernel
theorem dX13_usesS_243 : decode cX13_usesS 243 = .ok (.iaload, 1) := by decide +kernel
theorem dX13_usesS_244 : decode cX13_usesS 244 = .ok (.invokevirtual 919, 3) := by decide +kernel
theorem dX13_usesS_247 : decode cX13_usesS 247 = .ok (.aload_n 0, 1) := by decide +kernel
theorem dX13_usesS_248 : decode cX13_usesS 248 = .ok (.getfield 221, 3) := by decide +kernel
theorem dX13_usesS_251 : decode cX13_usesS 251 = .ok (.iload_n 1, 1) := by decide +kernel
theorem dX13_usesS_252 : decode cX13_usesS 252 = .ok (.aload_n 0, 1) := by decide +kernel
theorem dX13_usesS_253 : decode cX13_usesS 253 = .ok (.bipush 15, 2) := by decide +kernel
theorem dX13_usesS_255 : decode cX13_usesS 255 = .ok (.aload_n 0, 1) := by decide +kernel
theorem dX13_usesS_256 : decode cX13_usesS 256 = .ok (.getfield 188, 3) := by decide +kernel
theorem dX13_usesS_259 : decode cX13_usesS 259 = .ok (.iload_n 1, 1) := by decide +kernel
theorem dX13_usesS_260 : decode cX13_usesS 260 = .ok (.laload, 1) := by decide +kernel
theorem dX13_usesS_261 : decode cX13_usesS 261 = .ok (.lconst 0, 1) := by decide +kernel
theorem dX13_usesS_262 : decode cX13_usesS 262 = .ok (.lconst 0, 1) := by decide +kernel
theorem dX13_usesS_263 : decode cX13_usesS 263 = .ok (.invokevirtual 903, 3) := by decide +kernel
theorem dX13_usesS_266 : decode cX13_usesS 266 = .ok (.iastore, 1) := by decide +kernel
theorem dX13_usesS_267 : decode cX13_usesS 267 = .ok (.aload_n 0, 1) := by decide +kernel
theorem dX13_usesS_268 : decode cX13_usesS 268 = .ok (.aload_n 0, 1) := by decide +kernel
theorem dX13_usesS_269 : decode cX13_usesS 269 = .ok (.getfield 197, 3) := by decide +kernel
theorem dX13_usesS_272 : decode cX13_usesS 272 = .ok (.iload_n 1, 1) := by decide +kernel
theorem dX13_usesS_273 : decode cX13_usesS 273 = .ok (.iaload, 1) := by decide +kernel
theorem dX13_usesS_274 : decode cX13_usesS 274 = .ok (.invokevirtual 919, 3) := by decide +kernel
theorem dX13_usesS_277 : decode cX13_usesS 277 = .ok (.goto 77, 3) := by decide +kernel
theorem dX13_usesS_280 : decode cX13_usesS 280 = .ok (.aload_n 0, 1) := by decide +kernel
theorem dX13_usesS_281 : decode cX13_usesS 281 = .ok (.aload_n 0, 1) := by decide +kernel
theorem dX13_usesS_282 : decode cX13_usesS 282 = .ok (.getfield 194, 3) := by decide +kernel
theorem dX13_usesS_285 : decode cX13_usesS 285 = .ok (.iload_n 1, 1) := by decide +kernel
theorem dX13_usesS_286 : decode cX13_usesS 286 = .ok (.iaload, 1) := by decide +kernel
theorem dX13_usesS_287 : decode cX13_usesS 287 = .ok (.iload_n 1, 1) := by decide +kernel
theorem dX13_usesS_288 : decode cX13_usesS 288 = .ok (.invokevirtual 931, 3) := by decide +kernel
theorem dX13_usesS_291 : decode cX13_usesS 291 = .ok (.aload_n 0, 1) := by decide +kernel
theorem dX13_usesS_292 : decode cX13_usesS 292 = .ok (.getfield 221, 3) := by decide +kernel
theorem dX13_usesS_295 : decode cX13_usesS 295 = .ok (.iload_n 1, 1) := by decide +kernel
theorem dX13_usesS_296 : decode cX13_usesS 296 = .ok (.aload_n 0, 1) := by decide +kernel
theorem dX13_usesS_297 : decode cX13_usesS 297 = .ok (.aload_n 0, 1) := by decide +kernel
theorem dX13_usesS_298 : decode cX13_usesS 298 = .ok (.getfield 745, 3) := by decide +kernel
theorem dX13_usesS_301 : decode cX13_usesS 301 = .ok (.invokevirtual 558, 3) := by decide +kernel
theorem dX13_usesS_304 : decode cX13_usesS 304 = .ok (.sipush 204, 3) := by decide +kernel
theorem dX13_usesS_307 : decode cX13_usesS 307 = .ok (.if_icmp .ne 8, 3) := by decide +kernel
theorem dX13_usesS_310 : decode cX13_usesS 310 = .ok (.bipush (-2), 2) := by decide +kernel
theorem dX13_usesS_312 : decode cX13_usesS 312 = .ok (.goto 20, 3) := by decide +kernel
theorem dX13_usesS_315 : decode cX13_usesS 315 = .ok (.aload_n 0, 1) := by decide +kernel
theorem dX13_usesS_316 : decode cX13_usesS 316 = .ok (.iload_n 1, 1) := by decide +kernel
theorem dX13_usesS_317 : decode cX13_usesS 317 = .ok (.iconst 2, 1) := by decide +kernel
theorem dX13_usesS_318 : decode cX13_usesS 318 = .ok (.aload_n 0, 1) := by decide +kernel
theorem dX13_usesS_319 : decode cX13_usesS 319 = .ok (.getfield 269, 3) := by decide +kernel
theorem dX13_usesS_322 : decode cX13_usesS 322 = .ok (.aload_n 0, 1) := by decide +kernel
theorem dX13_usesS_323 : decode cX13_usesS 323 = .ok (.getfield 745, 3) := by decide +kernel
theorem dX13_usesS_326 : decode cX13_usesS 326 = .ok (.laload, 1) := by decide +kernel
theorem dX13_usesS_327 : decode cX13_usesS 327 = .ok (.lconst 0, 1) := by decide +kernel
theorem dX13_usesS_328 : decode cX13_usesS 328 = .ok (.lconst 0, 1) := by decide +kernel
theorem dX13_usesS_329 : decode cX13_usesS 329 = .ok (.invokevirtual 937, 3) := by decide +kernel
theorem dX13_usesS_332 : decode cX13_usesS 332 = .ok (.iastore, 1) := by decide +kernel
theorem dX13_usesS_333 : decode cX13_usesS 333 = .ok (.goto 21, 3) := by decide +kernel
theorem dX13_usesS_336 : decode cX13_usesS 336 = .ok (.aload_n 0, 1) := by decide +kernel
theorem dX13_usesS_337 : decode cX13_usesS 337 = .ok (.iload_n 1, 1) := by decide +kernel
theorem dX13_usesS_338 : decode cX13_usesS 338 = .ok (.invokevirtual 941, 3) := by decide +kernel
theorem dX13_usesS_341 : decode cX13_usesS 341 = .ok (.goto 13, 3) := by decide +kernel
theorem dX13_usesS_344 : decode cX13_usesS 344 = .ok (.aload_n 0, 1) := by decide +kernel
theorem dX13_usesS_345 : decode cX13_usesS 345 = .ok (.aload_n 0, 1) := by decide +kernel
theorem dX13_usesS_346 : decode cX13_usesS 346 = .ok (.getfield 194, 3) := by decide +kernel
theorem dX13_usesS_349 : decode cX13_usesS 349 = .ok (.iload_n 1, 1) := by decide +kernel
theorem dX13_usesS_350 : decode cX13_usesS 350 = .ok (.iaload, 1) := by decide +kernel
theorem dX13_usesS_351 : decode cX13_usesS 351 = .ok (.invokevirtual 912, 3) := by decide +kernel
theorem dX13_usesS_354 : decode cX13_usesS 354 = .ok (.return_, 1) := by decide +kernel
theorem dX13_usesPut_0 : decode cX13_usesPut 0 = .ok (.aload_n 0, 1) := by decide +kernel
theorem dX13_usesPut_1 : decode cX13_usesPut 1 = .ok (.getfield 194, 3) := by decide +kernel
theorem dX13_usesPut_4 : decode cX13_usesPut 4 = .ok (.iload_n 1, 1) := by decide +kernel
theorem dX13_usesPut_5 : decode cX13_usesPut 5 = .ok (.iaload, 1) := by decide +kernel
theorem dX13_usesPut_6 : decode cX13_usesPut 6 = .ok (.istore_n 2, 1) := by decide +kernel
theorem dX13_usesPut_7 : decode cX13_usesPut 7 = .ok (.aload_n 0, 1) := by decide +kernel
theorem dX13_usesPut_8 : decode cX13_usesPut 8 = .ok (.getfield 173, 3) := by decide +kernel
theorem dX13_usesPut_11 : decode cX13_usesPut 11 = .ok (.iload_n 2, 1) := by decide +kernel
theorem dX13_usesPut_12 : decode cX13_usesPut 12 = .ok (.iaload, 1) := by decide +kernel
theorem dX13_usesPut_13 : decode cX13_usesPut 13 = .ok (.bipush 12, 2) := by decide +kernel
theorem dX13_usesPut_15 : decode cX13_usesPut 15 = .ok (.if_icmp .ne 13, 3) := by decide +kernel
theorem dX13_usesPut_18 : decode cX13_usesPut 18 = .ok (.aload_n 0, 1) := by decide +kernel
theorem dX13_usesPut_19 : decode cX13_usesPut 19 = .ok (.aload_n 0, 1) := by decide +kernel
theorem dX13_usesPut_20 : decode cX13_usesPut 20 = .ok (.getfield 194, 3) := by decide +kernel
theorem dX13_usesPut_23 : decode cX13_usesPut 23 = .ok (.iload_n 2, 1) := by decide +kernel
theorem dX13_usesPut_24 : decode cX13_usesPut 24 = .ok (.iaload, 1) := by decide +kernel
theorem dX13_usesPut_25 : decode cX13_usesPut 25 = .ok (.invokevirtual 912, 3) := by decide +kernel
theorem dX13_usesPut_28 : decode cX13_usesPut 28 = .ok (.aload_n 0, 1) := by decide +kernel
theorem dX13_usesPut_29 : decode cX13_usesPut 29 = .ok (.aload_n 0, 1) := by decide +kernel
theorem dX13_usesPut_30 : decode cX13_usesPut 30 = .ok (.getfield 197, 3) := by decide +kernel
theorem dX13_usesPut_33 : decode cX13_usesPut 33 = .ok (.iload_n 1, 1) := by decide +kernel
theorem dX13_usesPut_34 : decode cX13_usesPut 34 = .ok (.iaload, 1) := by decide +kernel
theorem dX13_usesPut_35 : decode cX13_usesPut 35 = .ok (.invokevirtual 912, 3) := by decide +kernel
theorem dX13_usesPut_38 : decode cX13_usesPut 38 = .ok (.aload_n 0, 1) := by decide +kernel
theorem dX13_usesPut_39 : decode cX13_usesPut 39 = .ok (.aload_n 0, 1) := by decide +kernel
theorem dX13_usesPut_40 : decode cX13_usesPut 40 = .ok (.getfield 197, 3) := by decide +kernel
theorem dX13_usesPut_43 : decode cX13_usesPut 43 = .ok (.iload_n 1, 1) := by decide +kernel
theorem dX13_usesPut_44 : decode cX13_usesPut 44 = .ok (.iaload, 1) := by decide +kernel
theorem dX13_usesPut_45 : decode cX13_usesPut 45 = .ok (.aload_n 0, 1) := by decide +kernel
theorem dX13_usesPut_46 : decode cX13_usesPut 46 = .ok (.getfield 215, 3) := by decide +kernel
theorem dX13_usesPut_49 : decode cX13_usesPut 49 = .ok (.iload_n 2, 1) := by decide +kernel
theorem dX13_usesPut_50 : decode cX13_usesPut 50 = .ok (.laload, 1) := by decide +kernel
theorem dX13_usesPut_51 : decode cX13_usesPut 51 = .ok (.invokevirtual 915, 3) := by decide +kernel
theorem dX13_usesPut_54 : decode cX13_usesPut 54 = .ok (.aload_n 0, 1) := by decide +kernel
theorem dX13_usesPut_55 : decode cX13_usesPut 55 = .ok (.getfield 209, 3) := by decide +kernel
theorem dX13_usesPut_58 : decode cX13_usesPut 58 = .ok (.iload_n 2, 1) := by decide +kernel
theorem dX13_usesPut_59 : decode cX13_usesPut 59 = .ok (.iaload, 1) := by decide +kernel
theorem dX13_usesPut_60 : decode cX13_usesPut 60 = .ok (.ifCond .ge 15, 3) := by decide +kernel
theorem dX13_usesPut_63 : decode cX13_usesPut 63 = .ok (.aload_n 0, 1) := by decide +kernel
theorem dX13_usesPut_64 : decode cX13_usesPut 64 = .ok (.getfield 221, 3) := by decide +kernel
theorem dX13_usesPut_67 : decode cX13_usesPut 67 = .ok (.iload_n 1, 1) := by decide +kernel
theorem dX13_usesPut_68 : decode cX13_usesPut 68 = .ok (.aload_n 0, 1) := by decide +kernel
theorem dX13_usesPut_69 : decode cX13_usesPut 69 = .ok (.iload_n 2, 1) := by decide +kernel
theorem dX13_usesPut_70 : decode cX13_usesPut 70 = .ok (.iconst 4, 1) := by decide +kernel
theorem dX13_usesPut_71 : decode cX13_usesPut 71 = .ok (.invokevirtual 928, 3) := by decide +kernel
theorem dX13_usesPut_74 : decode cX13_usesPut 74 = .ok (.iastore, 1) := by decide +kernel
theorem dX13_usesPut_75 : decode cX13_usesPut 75 = .ok (.return_, 1) := by decide +kernel
theorem dX13_make_0 : decode cX13_make 0 = .ok (.aload_n 0, 1) := by decide +kernel
theorem dX13_make_1 : decode cX13_make 1 = .ok (.iload_n 1, 1) := by decide +kernel
theorem dX13_make_2 : decode cX13_make 2 = .ok (.invokevirtual 944, 3) := by decide +kernel
theorem dX13_make_5 : decode cX13_make 5 = .ok (.ifCond .ne 5, 3) := by decide +kernel
theorem dX13_make_8 : decode cX13_make 8 = .ok (.iconst (-1), 1) := by decide +kernel
theorem dX13_make_9 : decode cX13_make 9 = .ok (.ireturn, 1) := by decide +kernel
theorem dX13_make_10 : decode cX13_make 10 = .ok (.aload_n 0, 1) := by decide +kernel
theorem dX13_make_11 : decode cX13_make 11 = .ok (.getfield 947, 3) := by decide +kernel
theorem dX13_make_14 : decode cX13_make 14 = .ok (.iload_n 1, 1) := by decide +kernel
theorem dX13_make_15 : decode cX13_make 15 = .ok (.iaload, 1) := by decide +kernel
theorem dX13_make_16 : decode cX13_make 16 = .ok (.bipush 8, 2) := by decide +kernel
theorem dX13_make_18 : decode cX13_make 18 = .ok (.if_icmp .eq 12, 3) := by decide +kernel
theorem dX13_make_21 : decode cX13_make 21 = .ok (.aload_n 0, 1) := by decide +kernel
theorem dX13_make_22 : decode cX13_make 22 = .ok (.getfield 950, 3) := by decide +kernel
theorem dX13_make_25 : decode cX13_make 25 = .ok (.bipush 16, 2) := by decide +kernel
theorem dX13_make_27 : decode cX13_make 27 = .ok (.if_icmp .ne 6, 3) := by decide +kernel
theorem dX13_make_30 : decode cX13_make 30 = .ok (.bipush (-3), 2) := by decide +kernel
theorem dX13_make_32 : decode cX13_make 32 = .ok (.ireturn, 1) := by decide +kernel
theorem dX13_make_33 : decode cX13_make 33 = .ok (.aload_n 0, 1) := by decide +kernel
theorem dX13_make_34 : decode cX13_make 34 = .ok (.aload_n 0, 1) := by decide +kernel
theorem dX13_make_35 : decode cX13_make 35 = .ok (.getfield 950, 3) := by decide +kernel
theorem dX13_make_38 : decode cX13_make 38 = .ok (.putfield 84, 3) := by decide +kernel
theorem dX13_make_41 : decode cX13_make 41 = .ok (.iconst 0, 1) := by decide +kernel
theorem dX13_make_42 : decode cX13_make 42 = .ok (.istore_n 2, 1) := by decide +kernel
theorem dX13_make_43 : decode cX13_make 43 = .ok (.iload_n 2, 1) := by decide +kernel
theorem dX13_make_44 : decode cX13_make 44 = .ok (.aload_n 0, 1) := by decide +kernel
theorem dX13_make_45 : decode cX13_make 45 = .ok (.getfield 57, 3) := by decide +kernel
theorem dX13_make_48 : decode cX13_make 48 = .ok (.if_icmp .ge 31, 3) := by decide +kernel
theorem dX13_make_51 : decode cX13_make 51 = .ok (.aload_n 0, 1) := by decide +kernel
theorem dX13_make_52 : decode cX13_make 52 = .ok (.getfield 87, 3) := by decide +kernel
theorem dX13_make_55 : decode cX13_make 55 = .ok (.aload_n 0, 1) := by decide +kernel
theorem dX13_make_56 : decode cX13_make 56 = .ok (.getfield 84, 3) := by decide +kernel
theorem dX13_make_59 : decode cX13_make 59 = .ok (.sipush 4000, 3) := by decide +kernel
theorem dX13_make_62 : decode cX13_make 62 = .ok (.imul, 1) := by decide +kernel
theorem dX13_make_63 : decode cX13_make 63 = .ok (.iload_n 2, 1) := by decide +kernel
theorem dX13_make_64 : decode cX13_make 64 = .ok (.iadd, 1) := by decide +kernel
theorem dX13_make_65 : decode cX13_make 65 = .ok (.aload_n 0, 1) := by decide +kernel
theorem dX13_make_66 : decode cX13_make 66 = .ok (.getfield 63, 3) := by decide +kernel
theorem dX13_make_69 : decode cX13_make 69 = .ok (.iload_n 2, 1) := by decide +kernel
theorem dX13_make_70 : decode cX13_make 70 = .ok (.iaload, 1) := by decide +kernel
theorem dX13_make_71 : decode cX13_make 71 = .ok (.i2b, 1) := by decide +kernel
theorem dX13_make_72 : decode cX13_make 72 = .ok (.bastore, 1) := by decide +kernel
theorem dX13_make_73 : decode cX13_make 73 = .ok (.iinc 2 1, 3) := by decide +kernel
theorem dX13_make_76 : decode cX13_make 76 = .ok (.goto (-33), 3) := by decide +kernel
theorem dX13_make_79 : decode cX13_make 79 = .ok (.aload_n 0, 1) := by decide +kernel
theorem dX13_make_80 : decode cX13_make 80 = .ok (.getfield 81, 3) := by decide +kernel
theorem dX13_make_83 : decode cX13_make 83 = .ok (.aload_n 0, 1) := by decide +kernel
theorem dX13_make_84 : decode cX13_make 84 = .ok (.getfield 84, 3) := by decide +kernel
theorem dX13_make_87 : decode cX13_make 87 = .ok (.aload_n 0, 1) := by decide +kernel
theorem dX13_make_88 : decode cX13_make 88 = .ok (.getfield 57, 3) := by decide +kernel
theorem dX13_make_91 : decode cX13_make 91 = .ok (.iastore, 1) := by decide +kernel
theorem dX13_make_92 : decode cX13_make 92 = .ok (.aload_n 0, 1) := by decide +kernel
theorem dX13_make_93 : decode cX13_make 93 = .ok (.getfield 538, 3) := by decide +kernel
theorem dX13_make_96 : decode cX13_make 96 = .ok (.aload_n 0, 1) := by decide +kernel
theorem dX13_make_97 : decode cX13_make 97 = .ok (.getfield 84, 3) := by decide +kernel
theorem dX13_make_100 : decode cX13_make 100 = .ok (.iload_n 1, 1) := by decide +kernel
theorem dX13_make_101 : decode cX13_make 101 = .ok (.iastore, 1) := by decide +kernel
theorem dX13_make_102 : decode cX13_make 102 = .ok (.aload_n 0, 1) := by decide +kernel
theorem dX13_make_103 : decode cX13_make 103 = .ok (.iconst 0, 1) := by decide +kernel
theorem dX13_make_104 : decode cX13_make 104 = .ok (.putfield 57, 3) := by decide +kernel
theorem dX13_make_107 : decode cX13_make 107 = .ok (.aload_n 0, 1) := by decide +kernel
theorem dX13_make_108 : decode cX13_make 108 = .ok (.iconst 0, 1) := by decide +kernel
theorem dX13_make_109 : decode cX13_make 109 = .ok (.putfield 129, 3) := by decide +kernel
theorem dX13_make_112 : decode cX13_make 112 = .ok (.aload_n 0, 1) := by decide +kernel
theorem dX13_make_113 : decode cX13_make 113 = .ok (.bipush (-2), 2) := by decide +kernel
theorem dX13_make_115 : decode cX13_make 115 = .ok (.putfield 132, 3) := by decide +kernel
theorem dX13_make_118 : decode cX13_make 118 = .ok (.aload_n 0, 1) := by decide +kernel
theorem dX13_make_119 : decode cX13_make 119 = .ok (.invokevirtual 953, 3) := by decide +kernel
theorem dX13_make_122 : decode cX13_make 122 = .ok (.aload_n 0, 1) := by decide +kernel
theorem dX13_make_123 : decode cX13_make 123 = .ok (.invokevirtual 956, 3) := by decide +kernel
theorem dX13_make_126 : decode cX13_make 126 = .ok (.aload_n 0, 1) := by decide +kernel
theorem dX13_make_127 : decode cX13_make 127 = .ok (.getfield 129, 3) := by decide +kernel
theorem dX13_make_130 : decode cX13_make 130 = .ok (.ifCond .ne 7, 3) := by decide +kernel
theorem dX13_make_133 : decode cX13_make 133 = .ok (.aload_n 0, 1) := by decide +kernel
theorem dX13_make_134 : decode cX13_make 134 = .ok (.invokevirtual 959, 3) := by decide +kernel
theorem dX13_make_137 : decode cX13_make 137 = .ok (.aload_n 0, 1) := by decide +kernel
theorem dX13_make_138 : decode cX13_make 138 = .ok (.aload_n 0, 1) := by decide +kernel
theorem dX13_make_139 : decode cX13_make 139 = .ok (.getfield 129, 3) := by decide +kernel
theorem dX13_make_142 : decode cX13_make 142 = .ok (.ifCond .ne 8, 3) := by decide +kernel
theorem dX13_make_145 : decode cX13_make 145 = .ok (.bipush (-2), 2) := by decide +kernel
theorem dX13_make_147 : decode cX13_make 147 = .ok (.goto 7, 3) := by decide +kernel
theorem dX13_make_150 : decode cX13_make 150 = .ok (.aload_n 0, 1) := by decide +kernel
theorem dX13_make_151 : decode cX13_make 151 = .ok (.getfield 132, 3) := by decide +kernel
theorem dX13_make_154 : decode cX13_make 154 = .ok (.putfield 962, 3) := by decide +kernel
theorem dX13_make_157 : decode cX13_make 157 = .ok (.aload_n 0, 1) := by decide +kernel
theorem dX13_make_158 : decode cX13_make 158 = .ok (.getfield 129, 3) := by decide +kernel
theorem dX13_make_161 : decode cX13_make 161 = .ok (.ifCond .eq 11, 3) := by decide +kernel
theorem dX13_make_164 : decode cX13_make 164 = .ok (.bipush (-10), 2) := by decide +kernel
theorem dX13_make_166 : decode cX13_make 166 = .ok (.aload_n 0, 1) := by decide +kernel
theorem dX13_make_167 : decode cX13_make 167 = .ok (.getfield 129, 3) := by decide +kernel
theorem dX13_make_170 : decode cX13_make 170 = .ok (.isub, 1) := by decide +kernel
theorem dX13_make_171 : decode cX13_make 171 = .ok (.ireturn, 1) := by decide +kernel
theorem dX13_make_172 : decode cX13_make 172 = .ok (.aload_n 0, 1) := by decide +kernel
theorem dX13_make_173 : decode cX13_make 173 = .ok (.getfield 965, 3) := by decide +kernel
theorem dX13_make_176 : decode cX13_make 176 = .ok (.bipush 8, 2) := by decide +kernel
theorem dX13_make_178 : decode cX13_make 178 = .ok (.iload_n 1, 1) := by decide +kernel
theorem dX13_make_179 : decode cX13_make 179 = .ok (.imul, 1) := by decide +kernel
theorem dX13_make_180 : decode cX13_make 180 = .ok (.aload_n 0, 1) := by decide +kernel
theorem dX13_make_181 : decode cX13_make 181 = .ok (.getfield 947, 3) := by decide +kernel
theorem dX13_make_184 : decode cX13_make 184 = .ok (.iload_n 1, 1) := by decide +kernel
theorem dX13_make_185 : decode cX13_make 185 = .ok (.iaload, 1) := by decide +kernel
theorem dX13_make_186 : decode cX13_make 186 = .ok (.iadd, 1) := by decide +kernel
theorem dX13_make_187 : decode cX13_make 187 = .ok (.aload_n 0, 1) := by decide +kernel
theorem dX13_make_188 : decode cX13_make 188 = .ok (.getfield 84, 3) := by decide +kernel
theorem dX13_make_191 : decode cX13_make 191 = .ok (.iastore, 1) := by decide +kernel
theorem dX13_make_192 : decode cX13_make 192 = .ok (.aload_n 0, 1) := by decide +kernel
theorem dX13_make_193 : decode cX13_make 193 = .ok (.getfield 947, 3) := by decide +kernel
theorem dX13_make_196 : decode cX13_make 196 = .ok (.iload_n 1, 1) := by decide +kernel
theorem dX13_make_197 : decode cX13_make 197 = .ok (.dup2, 1) := by decide +kernel
theorem dX13_make_198 : decode cX13_make 198 = .ok (.iaload, 1) := by decide +kernel
theorem dX13_make_199 : decode cX13_make 199 = .ok (.iconst 1, 1) := by decide +kernel
theorem dX13_make_200 : decode cX13_make 200 = .ok (.iadd, 1) := by decide +kernel
theorem dX13_make_201 : decode cX13_make 201 = .ok (.iastore, 1) := by decide +kernel
theorem dX13_make_202 : decode cX13_make 202 = .ok (.aload_n 0, 1) := by decide +kernel
theorem dX13_make_203 : decode cX13_make 203 = .ok (.dup, 1) := by decide +kernel
theorem dX13_make_204 : decode cX13_make 204 = .ok (.getfield 950, 3) := by decide +kernel
theorem dX13_make_207 : decode cX13_make 207 = .ok (.iconst 1, 1) := by decide +kernel
theorem dX13_make_208 : decode cX13_make 208 = .ok (.iadd, 1) := by decide +kernel
theorem dX13_make_209 : decode cX13_make 209 = .ok (.putfield 950, 3) := by decide +kernel
theorem dX13_make_212 : decode cX13_make 212 = .ok (.aload_n 0, 1) := by decide +kernel
theorem dX13_make_213 : decode cX13_make 213 = .ok (.getfield 947, 3) := by decide +kernel
theorem dX13_make_216 : decode cX13_make 216 = .ok (.iload_n 1, 1) := by decide +kernel
theorem dX13_make_217 : decode cX13_make 217 = .ok (.iaload, 1) := by decide +kernel
theorem dX13_make_218 : decode cX13_make 218 = .ok (.iconst 1, 1) := by decide +kernel
theorem dX13_make_219 : decode cX13_make 219 = .ok (.isub, 1) := by decide +kernel
theorem dX13_make_220 : decode cX13_make 220 = .ok (.ireturn, 1) := by decide +kernel
theorem dX13_judgeAll_0 : decode cX13_judgeAll 0 = .ok (.aload_n 0, 1) := by decide +kernel
theorem dX13_judgeAll_1 : decode cX13_judgeAll 1 = .ok (.aload_n 0, 1) := by decide +kernel
theorem dX13_judgeAll_2 : decode cX13_judgeAll 2 = .ok (.getfield 84, 3) := by decide +kernel
theorem dX13_judgeAll_5 : decode cX13_judgeAll 5 = .ok (.putfield 528, 3) := by decide +kernel
theorem dX13_judgeAll_8 : decode cX13_judgeAll 8 = .ok (.aload_n 0, 1) := by decide +kernel
theorem dX13_judgeAll_9 : decode cX13_judgeAll 9 = .ok (.invokevirtual 968, 3) := by decide +kernel
theorem dX13_judgeAll_12 : decode cX13_judgeAll 12 = .ok (.aload_n 0, 1) := by decide +kernel
theorem dX13_judgeAll_13 : decode cX13_judgeAll 13 = .ok (.getfield 129, 3) := by decide +kernel
theorem dX13_judgeAll_16 : decode cX13_judgeAll 16 = .ok (.ifCond .ne 7, 3) := by decide +kernel
theorem dX13_judgeAll_19 : decode cX13_judgeAll 19 = .ok (.aload_n 0, 1) := by decide +kernel
theorem dX13_judgeAll_20 : decode cX13_judgeAll 20 = .ok (.invokevirtual 971, 3) := by decide +kernel
theorem dX13_judgeAll_23 : decode cX13_judgeAll 23 = .ok (.aload_n 0, 1) := by decide +kernel
theorem dX13_judgeAll_24 : decode cX13_judgeAll 24 = .ok (.getfield 129, 3) := by decide +kernel
theorem dX13_judgeAll_27 : decode cX13_judgeAll 27 = .ok (.ifCond .ne 7, 3) := by decide +kernel
theorem dX13_judgeAll_30 : decode cX13_judgeAll 30 = .ok (.aload_n 0, 1) := by decide +kernel
theorem dX13_judgeAll_31 : decode cX13_judgeAll 31 = .ok (.invokevirtual 974, 3) := by decide +kernel
theorem dX13_judgeAll_34 : decode cX13_judgeAll 34 = .ok (.aload_n 0, 1) := by decide +kernel
theorem dX13_judgeAll_35 : decode cX13_judgeAll 35 = .ok (.getfield 129, 3) := by decide +kernel
theorem dX13_judgeAll_38 : decode cX13_judgeAll 38 = .ok (.ifCond .ne 7, 3) := by decide +kernel
theorem dX13_judgeAll_41 : decode cX13_judgeAll 41 = .ok (.aload_n 0, 1) := by decide +kernel
theorem dX13_judgeAll_42 : decode cX13_judgeAll 42 = .ok (.invokevirtual 977, 3) := by decide +kernel
theorem dX13_judgeAll_45 : decode cX13_judgeAll 45 = .ok (.aload_n 0, 1) := by decide +kernel
theorem dX13_judgeAll_46 : decode cX13_judgeAll 46 = .ok (.getfield 129, 3) := by decide +kernel
theorem dX13_judgeAll_49 : decode cX13_judgeAll 49 = .ok (.ifCond .ne 7, 3) := by decide +kernel
theorem dX13_judgeAll_52 : decode cX13_judgeAll 52 = .ok (.aload_n 0, 1) := by decide +kernel
theorem dX13_judgeAll_53 : decode cX13_judgeAll 53 = .ok (.invokevirtual 980, 3) := by decide +kernel
theorem dX13_judgeAll_56 : decode cX13_judgeAll 56 = .ok (.aload_n 0, 1) := by decide +kernel
theorem dX13_judgeAll_57 : decode cX13_judgeAll 57 = .ok (.getfield 129, 3) := by decide +kernel
theorem dX13_judgeAll_60 : decode cX13_judgeAll 60 = .ok (.ifCond .ne 11, 3) := by decide +kernel
theorem dX13_judgeAll_63 : decode cX13_judgeAll 63 = .ok (.aload_n 0, 1) := by decide +kernel
theorem dX13_judgeAll_64 : decode cX13_judgeAll 64 = .ok (.invokevirtual 983, 3) := by decide +kernel
theorem dX13_judgeAll_67 : decode cX13_judgeAll 67 = .ok (.aload_n 0, 1) := by decide +kernel
theorem dX13_judgeAll_68 : decode cX13_judgeAll 68 = .ok (.invokevirtual 986, 3) := by decide +kernel
theorem dX13_judgeAll_71 : decode cX13_judgeAll 71 = .ok (.aload_n 0, 1) := by decide +kernel
theorem dX13_judgeAll_72 : decode cX13_judgeAll 72 = .ok (.getfield 129, 3) := by decide +kernel
theorem dX13_judgeAll_75 : decode cX13_judgeAll 75 = .ok (.ifCond .ne 7, 3) := by decide +kernel
theorem dX13_judgeAll_78 : decode cX13_judgeAll 78 = .ok (.aload_n 0, 1) := by decide +kernel
theorem dX13_judgeAll_79 : decode cX13_judgeAll 79 = .ok (.invokevirtual 989, 3) := by decide +kernel
theorem dX13_judgeAll_82 : decode cX13_judgeAll 82 = .ok (.aload_n 0, 1) := by decide +kernel
theorem dX13_judgeAll_83 : decode cX13_judgeAll 83 = .ok (.bipush (-2), 2) := by decide +kernel
theorem dX13_judgeAll_85 : decode cX13_judgeAll 85 = .ok (.putfield 528, 3) := by decide +kernel
theorem dX13_judgeAll_88 : decode cX13_judgeAll 88 = .ok (.return_, 1) := by decide +kernel
theorem dX13_isLib_0 : decode cX13_isLib 0 = .ok (.iload_n 1, 1) := by decide +kernel
theorem dX13_isLib_1 : decode cX13_isLib 1 = .ok (.ifCond .lt 12, 3) := by decide +kernel
theorem dX13_isLib_4 : decode cX13_isLib 4 = .ok (.iload_n 1, 1) := by decide +kernel
theorem dX13_isLib_5 : decode cX13_isLib 5 = .ok (.iconst 5, 1) := by decide +kernel
theorem dX13_isLib_6 : decode cX13_isLib 6 = .ok (.if_icmp .ge 7, 3) := by decide +kernel
theorem dX13_isLib_9 : decode cX13_isLib 9 = .ok (.iconst 1, 1) := by decide +kernel
theorem dX13_isLib_10 : decode cX13_isLib 10 = .ok (.goto 4, 3) := by decide +kernel
theorem dX13_isLib_13 : decode cX13_isLib 13 = .ok (.iconst 0, 1) := by decide +kernel
theorem dX13_isLib_14 : decode cX13_isLib 14 = .ok (.ireturn, 1) := by decide +kernel
theorem dX13_slotAt_0 : decode cX13_slotAt 0 = .ok (.aload_n 0, 1) := by decide +kernel
theorem dX13_slotAt_1 : decode cX13_slotAt 1 = .ok (.iload_n 1, 1) := by decide +kernel
theorem dX13_slotAt_2 : decode cX13_slotAt 2 = .ok (.invokevirtual 944, 3) := by decide +kernel
theorem dX13_slotAt_5 : decode cX13_slotAt 5 = .ok (.ifCond .eq 31, 3) := by decide +kernel
theorem dX13_slotAt_8 : decode cX13_slotAt 8 = .ok (.iload_n 2, 1) := by decide +kernel
theorem dX13_slotAt_9 : decode cX13_slotAt 9 = .ok (.ifCond .lt 27, 3) := by decide +kernel
theorem dX13_slotAt_12 : decode cX13_slotAt 12 = .ok (.iload_n 2, 1) := by decide +kernel
theorem dX13_slotAt_13 : decode cX13_slotAt 13 = .ok (.aload_n 0, 1) := by decide +kernel
theorem dX13_slotAt_14 : decode cX13_slotAt 14 = .ok (.getfield 947, 3) := by decide +kernel
theorem dX13_slotAt_17 : decode cX13_slotAt 17 = .ok (.iload_n 1, 1) := by decide +kernel
theorem dX13_slotAt_18 : decode cX13_slotAt 18 = .ok (.iaload, 1) := by decide +kernel
theorem dX13_slotAt_19 : decode cX13_slotAt 19 = .ok (.if_icmp .ge 17, 3) := by decide +kernel
theorem dX13_slotAt_22 : decode cX13_slotAt 22 = .ok (.aload_n 0, 1) := by decide +kernel
theorem dX13_slotAt_23 : decode cX13_slotAt 23 = .ok (.getfield 965, 3) := by decide +kernel
theorem dX13_slotAt_26 : decode cX13_slotAt 26 = .ok (.bipush 8, 2) := by decide +kernel
theorem dX13_slotAt_28 : decode cX13_slotAt 28 = .ok (.iload_n 1, 1) := by decide +kernel
theorem dX13_slotAt_29 : decode cX13_slotAt 29 = .ok (.imul, 1) := by decide +kernel
theorem dX13_slotAt_30 : decode cX13_slotAt 30 = .ok (.iload_n 2, 1) := by decide +kernel
theorem dX13_slotAt_31 : decode cX13_slotAt 31 = .ok (.iadd, 1) := by decide +kernel
theorem dX13_slotAt_32 : decode cX13_slotAt 32 = .ok (.iaload, 1) := by decide +kernel
theorem dX13_slotAt_33 : decode cX13_slotAt 33 = .ok (.goto 5, 3) := by decide +kernel
theorem dX13_slotAt_36 : decode cX13_slotAt 36 = .ok (.bipush (-2), 2) := by decide +kernel
theorem dX13_slotAt_38 : decode cX13_slotAt 38 = .ok (.ireturn, 1) := by decide +kernel
theorem dX13_place_0 : decode cX13_place 0 = .ok (.aload_n 0, 1) := by decide +kernel
theorem dX13_place_1 : decode cX13_place 1 = .ok (.getfield 962, 3) := by decide +kernel
theorem dX13_place_4 : decode cX13_place 4 = .ok (.ireturn, 1) := by decide +kernel
theorem dX13_builds_0 : decode cX13_builds 0 = .ok (.aload_n 0, 1) := by decide +kernel
theorem dX13_builds_1 : decode cX13_builds 1 = .ok (.iload_n 1, 1) := by decide +kernel
theorem dX13_builds_2 : decode cX13_builds 2 = .ok (.invokevirtual 944, 3) := by decide +kernel
theorem dX13_builds_5 : decode cX13_builds 5 = .ok (.ifCond .eq 12, 3) := by decide +kernel
theorem dX13_builds_8 : decode cX13_builds 8 = .ok (.aload_n 0, 1) := by decide +kernel
theorem dX13_builds_9 : decode cX13_builds 9 = .ok (.getfield 947, 3) := by decide +kernel
theorem dX13_builds_12 : decode cX13_builds 12 = .ok (.iload_n 1, 1) := by decide +kernel
theorem dX13_builds_13 : decode cX13_builds 13 = .ok (.iaload, 1) := by decide +kernel
theorem dX13_builds_14 : decode cX13_builds 14 = .ok (.goto 4, 3) := by decide +kernel
theorem dX13_builds_17 : decode cX13_builds 17 = .ok (.iconst (-1), 1) := by decide +kernel
theorem dX13_builds_18 : decode cX13_builds 18 = .ok (.ireturn, 1) := by decide +kernel
theorem dX13_text_0 : decode cX13_text 0 = .ok (.aload_n 0, 1) := by decide +kernel
theorem dX13_text_1 : decode cX13_text 1 = .ok (.iload_n 1, 1) := by decide +kernel
theorem dX13_text_2 : decode cX13_text 2 = .ok (.iload_n 2, 1) := by decide +kernel
theorem dX13_text_3 : decode cX13_text 3 = .ok (.invokevirtual 992, 3) := by decide +kernel
theorem dX13_text_6 : decode cX13_text 6 = .ok (.istore_n 3, 1) := by decide +kernel
theorem dX13_text_7 : decode cX13_text 7 = .ok (.iload_n 3, 1) := by decide +kernel
theorem dX13_text_8 : decode cX13_text 8 = .ok (.bipush (-2), 2) := by decide +kernel
theorem dX13_text_10 : decode cX13_text 10 = .ok (.if_icmp .ne 5, 3) := by decide +kernel
theorem dX13_text_13 : decode cX13_text 13 = .ok (.iconst (-1), 1) := by decide +kernel
theorem dX13_text_14 : decode cX13_text 14 = .ok (.ireturn, 1) := by decide +kernel
theorem dX13_text_15 : decode cX13_text 15 = .ok (.aload_n 0, 1) := by decide +kernel
theorem dX13_text_16 : decode cX13_text 16 = .ok (.aload_n 0, 1) := by decide +kernel
theorem dX13_text_17 : decode cX13_text 17 = .ok (.getfield 81, 3) := by decide +kernel
theorem dX13_text_20 : decode cX13_text 20 = .ok (.iload_n 3, 1) := by decide +kernel
theorem dX13_text_21 : decode cX13_text 21 = .ok (.iaload, 1) := by decide +kernel
theorem dX13_text_22 : decode cX13_text 22 = .ok (.putfield 57, 3) := by decide +kernel
theorem dX13_text_25 : decode cX13_text 25 = .ok (.iconst 0, 1) := by decide +kernel
theorem dX13_text_26 : decode cX13_text 26 = .ok (.istore 4, 2) := by decide +kernel
theorem dX13_text_28 : decode cX13_text 28 = .ok (.iload 4, 2) := by decide +kernel
theorem dX13_text_30 : decode cX13_text 30 = .ok (.aload_n 0, 1) := by decide +kernel
theorem dX13_text_31 : decode cX13_text 31 = .ok (.getfield 57, 3) := by decide +kernel
theorem dX13_text_34 : decode cX13_text 34 = .ok (.if_icmp .ge 33, 3) := by decide +kernel
theorem dX13_text_37 : decode cX13_text 37 = .ok (.aload_n 0, 1) := by decide +kernel
theorem dX13_text_38 : decode cX13_text 38 = .ok (.getfield 63, 3) := by decide +kernel
theorem dX13_text_41 : decode cX13_text 41 = .ok (.iload 4, 2) := by decide +kernel
theorem dX13_text_43 : decode cX13_text 43 = .ok (.aload_n 0, 1) := by decide +kernel
theorem dX13_text_44 : decode cX13_text 44 = .ok (.getfield 87, 3) := by decide +kernel
theorem dX13_text_47 : decode cX13_text 47 = .ok (.iload_n 3, 1) := by decide +kernel
theorem dX13_text_48 : decode cX13_text 48 = .ok (.sipush 4000, 3) := by decide +kernel
theorem dX13_text_51 : decode cX13_text 51 = .ok (.imul, 1) := by decide +kernel
theorem dX13_text_52 : decode cX13_text 52 = .ok (.iload 4, 2) := by decide +kernel
theorem dX13_text_54 : decode cX13_text 54 = .ok (.iadd, 1) := by decide +kernel
theorem dX13_text_55 : decode cX13_text 55 = .ok (.baload, 1) := by decide +kernel
theorem dX13_text_56 : decode cX13_text 56 = .ok (.sipush 255, 3) := by decide +kernel
theorem dX13_text_59 : decode cX13_text 59 = .ok (.iand, 1) := by decide +kernel
theorem dX13_text_60 : decode cX13_text 60 = .ok (.iastore, 1) := by decide +kernel
theorem dX13_text_61 : decode cX13_text 61 = .ok (.iinc 4 1, 3) := by decide +kernel
theorem dX13_text_64 : decode cX13_text 64 = .ok (.goto (-36), 3) := by decide +kernel
theorem dX13_text_67 : decode cX13_text 67 = .ok (.aload_n 0, 1) := by decide +kernel
theorem dX13_text_68 : decode cX13_text 68 = .ok (.getfield 57, 3) := by decide +kernel
theorem dX13_text_71 : decode cX13_text 71 = .ok (.ireturn, 1) := by decide +kernel
theorem dX13_pick_0 : decode cX13_pick 0 = .ok (.aload_n 0, 1) := by decide +kernel
theorem dX13_pick_1 : decode cX13_pick 1 = .ok (.iload_n 1, 1) := by decide +kernel
theorem dX13_pick_2 : decode cX13_pick 2 = .ok (.invokevirtual 944, 3) := by decide +kernel
theorem dX13_pick_5 : decode cX13_pick 5 = .ok (.ifCond .eq 20, 3) := by decide +kernel
theorem dX13_pick_8 : decode cX13_pick 8 = .ok (.iload_n 2, 1) := by decide +kernel
theorem dX13_pick_9 : decode cX13_pick 9 = .ok (.bipush (-2), 2) := by decide +kernel
theorem dX13_pick_11 : decode cX13_pick 11 = .ok (.if_icmp .eq 16, 3) := by decide +kernel
theorem dX13_pick_14 : decode cX13_pick 14 = .ok (.aload_n 0, 1) := by decide +kernel
theorem dX13_pick_15 : decode cX13_pick 15 = .ok (.iload_n 1, 1) := by decide +kernel
theorem dX13_pick_16 : decode cX13_pick 16 = .ok (.iload_n 2, 1) := by decide +kernel
theorem dX13_pick_17 : decode cX13_pick 17 = .ok (.invokevirtual 992, 3) := by decide +kernel
theorem dX13_pick_20 : decode cX13_pick 20 = .ok (.bipush (-2), 2) := by decide +kernel
theorem dX13_pick_22 : decode cX13_pick 22 = .ok (.if_icmp .ne 5, 3) := by decide +kernel
theorem dX13_pick_25 : decode cX13_pick 25 = .ok (.iconst (-1), 1) := by decide +kernel
theorem dX13_pick_26 : decode cX13_pick 26 = .ok (.ireturn, 1) := by decide +kernel
theorem dX13_pick_27 : decode cX13_pick 27 = .ok (.aload_n 0, 1) := by decide +kernel
theorem dX13_pick_28 : decode cX13_pick 28 = .ok (.iload_n 1, 1) := by decide +kernel
theorem dX13_pick_29 : decode cX13_pick 29 = .ok (.invokevirtual 995, 3) := by decide +kernel
theorem dX13_pick_32 : decode cX13_pick 32 = .ok (.istore_n 3, 1) := by decide +kernel
theorem dX13_pick_33 : decode cX13_pick 33 = .ok (.aload_n 0, 1) := by decide +kernel
theorem dX13_pick_34 : decode cX13_pick 34 = .ok (.getfield 535, 3) := by decide +kernel
theorem dX13_pick_37 : decode cX13_pick 37 = .ok (.iload_n 1, 1) := by decide +kernel
theorem dX13_pick_38 : decode cX13_pick 38 = .ok (.iload_n 2, 1) := by decide +kernel
theorem dX13_pick_39 : decode cX13_pick 39 = .ok (.bipush (-2), 2) := by decide +kernel
theorem dX13_pick_41 : decode cX13_pick 41 = .ok (.if_icmp .ne 8, 3) := by decide +kernel
theorem dX13_pick_44 : decode cX13_pick 44 = .ok (.bipush (-2), 2) := by decide +kernel
theorem dX13_pick_46 : decode cX13_pick 46 = .ok (.goto 9, 3) := by decide +kernel
theorem dX13_pick_49 : decode cX13_pick 49 = .ok (.aload_n 0, 1) := by decide +kernel
theorem dX13_pick_50 : decode cX13_pick 50 = .ok (.iload_n 1, 1) := by decide +kernel
theorem dX13_pick_51 : decode cX13_pick 51 = .ok (.iload_n 2, 1) := by decide +kernel
theorem dX13_pick_52 : decode cX13_pick 52 = .ok (.invokevirtual 992, 3) := by decide +kernel
theorem dX13_pick_55 : decode cX13_pick 55 = .ok (.iastore, 1) := by decide +kernel
theorem dX13_pick_56 : decode cX13_pick 56 = .ok (.aload_n 0, 1) := by decide +kernel
theorem dX13_pick_57 : decode cX13_pick 57 = .ok (.invokevirtual 998, 3) := by decide +kernel
theorem dX13_pick_60 : decode cX13_pick 60 = .ok (.iload_n 3, 1) := by decide +kernel
theorem dX13_pick_61 : decode cX13_pick 61 = .ok (.ireturn, 1) := by decide +kernel
theorem dX13_picked_0 : decode cX13_picked 0 = .ok (.aload_n 0, 1) := by decide +kernel
theorem dX13_picked_1 : decode cX13_picked 1 = .ok (.iload_n 1, 1) := by decide +kernel
theorem dX13_picked_2 : decode cX13_picked 2 = .ok (.invokevirtual 944, 3) := by decide +kernel
theorem dX13_picked_5 : decode cX13_picked 5 = .ok (.ifCond .ne 7, 3) := by decide +kernel
theorem dX13_picked_8 : decode cX13_picked 8 = .ok (.iconst (-1), 1) := by decide +kernel
theorem dX13_picked_9 : decode cX13_picked 9 = .ok (.goto 29, 3) := by decide +kernel
theorem dX13_picked_12 : decode cX13_picked 12 = .ok (.aload_n 0, 1) := by decide +kernel
theorem dX13_picked_13 : decode cX13_picked 13 = .ok (.getfield 535, 3) := by decide +kernel
theorem dX13_picked_16 : decode cX13_picked 16 = .ok (.iload_n 1, 1) := by decide +kernel
theorem dX13_picked_17 : decode cX13_picked 17 = .ok (.iaload, 1) := by decide +kernel
theorem dX13_picked_18 : decode cX13_picked 18 = .ok (.bipush (-2), 2) := by decide +kernel
theorem dX13_picked_20 : decode cX13_picked 20 = .ok (.if_icmp .ne 8, 3) := by decide +kernel
theorem dX13_picked_23 : decode cX13_picked 23 = .ok (.bipush (-2), 2) := by decide +kernel
theorem dX13_picked_25 : decode cX13_picked 25 = .ok (.goto 13, 3) := by decide +kernel
theorem dX13_picked_28 : decode cX13_picked 28 = .ok (.aload_n 0, 1) := by decide +kernel
theorem dX13_picked_29 : decode cX13_picked 29 = .ok (.aload_n 0, 1) := by decide +kernel
theorem dX13_picked_30 : decode cX13_picked 30 = .ok (.getfield 535, 3) := by decide +kernel
theorem dX13_picked_33 : decode cX13_picked 33 = .ok (.iload_n 1, 1) := by decide +kernel
theorem dX13_picked_34 : decode cX13_picked 34 = .ok (.iaload, 1) := by decide +kernel
theorem dX13_picked_35 : decode cX13_picked 35 = .ok (.invokevirtual 1001, 3) := by decide +kernel
theorem dX13_picked_38 : decode cX13_picked 38 = .ok (.ireturn, 1) := by decide +kernel
theorem dX13_buildOf_0 : decode cX13_buildOf 0 = .ok (.iconst 0, 1) := by decide +kernel
theorem dX13_buildOf_1 : decode cX13_buildOf 1 = .ok (.istore_n 2, 1) := by decide +kernel
theorem dX13_buildOf_2 : decode cX13_buildOf 2 = .ok (.aload_n 0, 1) := by decide +kernel
theorem dX13_buildOf_3 : decode cX13_buildOf 3 = .ok (.getfield 965, 3) := by decide +kernel
theorem dX13_buildOf_6 : decode cX13_buildOf 6 = .ok (.bipush 8, 2) := by decide +kernel
theorem dX13_buildOf_8 : decode cX13_buildOf 8 = .ok (.aload_n 0, 1) := by decide +kernel
theorem dX13_buildOf_9 : decode cX13_buildOf 9 = .ok (.getfield 538, 3) := by decide +kernel
theorem dX13_buildOf_12 : decode cX13_buildOf 12 = .ok (.iload_n 1, 1) := by decide +kernel
theorem dX13_buildOf_13 : decode cX13_buildOf 13 = .ok (.iaload, 1) := by decide +kernel
theorem dX13_buildOf_14 : decode cX13_buildOf 14 = .ok (.imul, 1) := by decide +kernel
theorem dX13_buildOf_15 : decode cX13_buildOf 15 = .ok (.iload_n 2, 1) := by decide +kernel
theorem dX13_buildOf_16 : decode cX13_buildOf 16 = .ok (.iadd, 1) := by decide +kernel
theorem dX13_buildOf_17 : decode cX13_buildOf 17 = .ok (.iaload, 1) := by decide +kernel
theorem dX13_buildOf_18 : decode cX13_buildOf 18 = .ok (.iload_n 1, 1) := by decide +kernel
theorem dX13_buildOf_19 : decode cX13_buildOf 19 = .ok (.if_icmp .eq 9, 3) := by decide +kernel
theorem dX13_buildOf_22 : decode cX13_buildOf 22 = .ok (.iinc 2 1, 3) := by decide +kernel
theorem dX13_buildOf_25 : decode cX13_buildOf 25 = .ok (.goto (-23), 3) := by decide +kernel
theorem dX13_buildOf_28 : decode cX13_buildOf 28 = .ok (.iload_n 2, 1) := by decide +kernel
theorem dX13_buildOf_29 : decode cX13_buildOf 29 = .ok (.ireturn, 1) := by decide +kernel
theorem dX13_classes_0 : decode cX13_classes 0 = .ok (.aload_n 0, 1) := by decide +kernel
theorem dX13_classes_1 : decode cX13_classes 1 = .ok (.iload_n 1, 1) := by decide +kernel
theorem dX13_classes_2 : decode cX13_classes 2 = .ok (.iload_n 2, 1) := by decide +kernel
theorem dX13_classes_3 : decode cX13_classes 3 = .ok (.invokevirtual 992, 3) := by decide +kernel
theorem dX13_classes_6 : decode cX13_classes 6 = .ok (.istore_n 3, 1) := by decide +kernel
theorem dX13_classes_7 : decode cX13_classes 7 = .ok (.iload_n 3, 1) := by decide +kernel
theorem dX13_classes_8 : decode cX13_classes 8 = .ok (.bipush (-2), 2) := by decide +kernel
theorem dX13_classes_10 : decode cX13_classes 10 = .ok (.if_icmp .ne 7, 3) := by decide +kernel
theorem dX13_classes_13 : decode cX13_classes 13 = .ok (.iconst (-1), 1) := by decide +kernel
theorem dX13_classes_14 : decode cX13_classes 14 = .ok (.goto 9, 3) := by decide +kernel
theorem dX13_classes_17 : decode cX13_classes 17 = .ok (.aload_n 0, 1) := by decide +kernel
theorem dX13_classes_18 : decode cX13_classes 18 = .ok (.getfield 230, 3) := by decide +kernel
theorem dX13_classes_21 : decode cX13_classes 21 = .ok (.iload_n 3, 1) := by decide +kernel
theorem dX13_classes_22 : decode cX13_classes 22 = .ok (.iaload, 1) := by decide +kernel
theorem dX13_classes_23 : decode cX13_classes 23 = .ok (.ireturn, 1) := by decide +kernel
theorem dX13_classAt_0 : decode cX13_classAt 0 = .ok (.aload_n 0, 1) := by decide +kernel
theorem dX13_classAt_1 : decode cX13_classAt 1 = .ok (.iload_n 1, 1) := by decide +kernel
theorem dX13_classAt_2 : decode cX13_classAt 2 = .ok (.iload_n 2, 1) := by decide +kernel
theorem dX13_classAt_3 : decode cX13_classAt 3 = .ok (.invokevirtual 992, 3) := by decide +kernel
theorem dX13_classAt_6 : decode cX13_classAt 6 = .ok (.istore 4, 2) := by decide +kernel
theorem dX13_classAt_8 : decode cX13_classAt 8 = .ok (.iload 4, 2) := by decide +kernel
theorem dX13_classAt_10 : decode cX13_classAt 10 = .ok (.bipush (-2), 2) := by decide +kernel
theorem dX13_classAt_12 : decode cX13_classAt 12 = .ok (.if_icmp .eq 18, 3) := by decide +kernel
theorem dX13_classAt_15 : decode cX13_classAt 15 = .ok (.iload_n 3, 1) := by decide +kernel
theorem dX13_classAt_16 : decode cX13_classAt 16 = .ok (.ifCond .lt 14, 3) := by decide +kernel
theorem dX13_classAt_19 : decode cX13_classAt 19 = .ok (.iload_n 3, 1) := by decide +kernel
theorem dX13_classAt_20 : decode cX13_classAt 20 = .ok (.aload_n 0, 1) := by decide +kernel
theorem dX13_classAt_21 : decode cX13_classAt 21 = .ok (.getfield 230, 3) := by decide +kernel
theorem dX13_classAt_24 : decode cX13_classAt 24 = .ok (.iload 4, 2) := by decide +kernel
theorem dX13_classAt_26 : decode cX13_classAt 26 = .ok (.iaload, 1) := by decide +kernel
theorem dX13_classAt_27 : decode cX13_classAt 27 = .ok (.if_icmp .lt 8, 3) := by decide +kernel
theorem dX13_classAt_30 : decode cX13_classAt 30 = .ok (.bipush (-2), 2) := by decide +kernel
theorem dX13_classAt_32 : decode cX13_classAt 32 = .ok (.goto 10, 3) := by decide +kernel
theorem dX13_classAt_35 : decode cX13_classAt 35 = .ok (.iload 4, 2) := by decide +kernel
theorem dX13_classAt_37 : decode cX13_classAt 37 = .ok (.bipush 12, 2) := by decide +kernel
theorem dX13_classAt_39 : decode cX13_classAt 39 = .ok (.imul, 1) := by decide +kernel
theorem dX13_classAt_40 : decode cX13_classAt 40 = .ok (.iload_n 3, 1) := by decide +kernel
theorem dX13_classAt_41 : decode cX13_classAt 41 = .ok (.iadd, 1) := by decide +kernel
theorem dX13_classAt_42 : decode cX13_classAt 42 = .ok (.ireturn, 1) := by decide +kernel
theorem dX13_memberAt_0 : decode cX13_memberAt 0 = .ok (.iconst 0, 1) := by decide +kernel
theorem dX13_memberAt_1 : decode cX13_memberAt 1 = .ok (.istore_n 3, 1) := by decide +kernel
theorem dX13_memberAt_2 : decode cX13_memberAt 2 = .ok (.iconst 0, 1) := by decide +kernel
theorem dX13_memberAt_3 : decode cX13_memberAt 3 = .ok (.istore 4, 2) := by decide +kernel
theorem dX13_memberAt_5 : decode cX13_memberAt 5 = .ok (.iload 4, 2) := by decide +kernel
theorem dX13_memberAt_7 : decode cX13_memberAt 7 = .ok (.aload_n 0, 1) := by decide +kernel
theorem dX13_memberAt_8 : decode cX13_memberAt 8 = .ok (.getfield 275, 3) := by decide +kernel
theorem dX13_memberAt_11 : decode cX13_memberAt 11 = .ok (.iload_n 1, 1) := by decide +kernel
theorem dX13_memberAt_12 : decode cX13_memberAt 12 = .ok (.iaload, 1) := by decide +kernel
theorem dX13_memberAt_13 : decode cX13_memberAt 13 = .ok (.if_icmp .ge 41, 3) := by decide +kernel
theorem dX13_memberAt_16 : decode cX13_memberAt 16 = .ok (.aload_n 0, 1) := by decide +kernel
theorem dX13_memberAt_17 : decode cX13_memberAt 17 = .ok (.getfield 402, 3) := by decide +kernel
theorem dX13_memberAt_20 : decode cX13_memberAt 20 = .ok (.iload_n 1, 1) := by decide +kernel
theorem dX13_memberAt_21 : decode cX13_memberAt 21 = .ok (.bipush 34, 2) := by decide +kernel
theorem dX13_memberAt_23 : decode cX13_memberAt 23 = .ok (.imul, 1) := by decide +kernel
theorem dX13_memberAt_24 : decode cX13_memberAt 24 = .ok (.iload 4, 2) := by decide +kernel
theorem dX13_memberAt_26 : decode cX13_memberAt 26 = .ok (.iadd, 1) := by decide +kernel
theorem dX13_memberAt_27 : decode cX13_memberAt 27 = .ok (.iaload, 1) := by decide +kernel
theorem dX13_memberAt_28 : decode cX13_memberAt 28 = .ok (.iconst 3, 1) := by decide +kernel
theorem dX13_memberAt_29 : decode cX13_memberAt 29 = .ok (.if_icmp .eq 19, 3) := by decide +kernel
theorem dX13_memberAt_32 : decode cX13_memberAt 32 = .ok (.iload_n 3, 1) := by decide +kernel
theorem dX13_memberAt_33 : decode cX13_memberAt 33 = .ok (.iload_n 2, 1) := by decide +kernel
theorem dX13_memberAt_34 : decode cX13_memberAt 34 = .ok (.if_icmp .ne 11, 3) := by decide +kernel
theorem dX13_memberAt_37 : decode cX13_memberAt 37 = .ok (.iload_n 1, 1) := by decide +kernel
theorem dX13_memberAt_38 : decode cX13_memberAt 38 = .ok (.bipush 34, 2) := by decide +kernel
theorem dX13_memberAt_40 : decode cX13_memberAt 40 = .ok (.imul, 1) := by decide +kernel
theorem dX13_memberAt_41 : decode cX13_memberAt 41 = .ok (.iload 4, 2) := by decide +kernel
theorem dX13_memberAt_43 : decode cX13_memberAt 43 = .ok (.iadd, 1) := by decide +kernel
theorem dX13_memberAt_44 : decode cX13_memberAt 44 = .ok (.ireturn, 1) := by decide +kernel
theorem dX13_memberAt_45 : decode cX13_memberAt 45 = .ok (.iinc 3 1, 3) := by decide +kernel
theorem dX13_memberAt_48 : decode cX13_memberAt 48 = .ok (.iinc 4 1, 3) := by decide +kernel
theorem dX13_memberAt_51 : decode cX13_memberAt 51 = .ok (.goto (-46), 3) := by decide +kernel
theorem dX13_memberAt_54 : decode cX13_memberAt 54 = .ok (.bipush (-2), 2) := by decide +kernel
theorem dX13_memberAt_56 : decode cX13_memberAt 56 = .ok (.ireturn, 1) := by decide +kernel
theorem dX13_memberMany_0 : decode cX13_memberMany 0 = .ok (.iconst 0, 1) := by decide +kernel
theorem dX13_memberMany_1 : decode cX13_memberMany 1 = .ok (.istore_n 2, 1) := by decide +kernel
theorem dX13_memberMany_2 : decode cX13_memberMany 2 = .ok (.iconst 0, 1) := by decide +kernel
theorem dX13_memberMany_3 : decode cX13_memberMany 3 = .ok (.istore_n 3, 1) := by decide +kernel
theorem dX13_memberMany_4 : decode cX13_memberMany 4 = .ok (.iload_n 3, 1) := by decide +kernel
theorem dX13_memberMany_5 : decode cX13_memberMany 5 = .ok (.aload_n 0, 1) := by decide +kernel
theorem dX13_memberMany_6 : decode cX13_memberMany 6 = .ok (.getfield 275, 3) := by decide +kernel
theorem dX13_memberMany_9 : decode cX13_memberMany 9 = .ok (.iload_n 1, 1) := by decide +kernel
theorem dX13_memberMany_10 : decode cX13_memberMany 10 = .ok (.iaload, 1) := by decide +kernel
theorem dX13_memberMany_11 : decode cX13_memberMany 11 = .ok (.if_icmp .ge 32, 3) := by decide +kernel
theorem dX13_memberMany_14 : decode cX13_memberMany 14 = .ok (.iload_n 2, 1) := by decide +kernel
theorem dX13_memberMany_15 : decode cX13_memberMany 15 = .ok (.aload_n 0, 1) := by decide +kernel
theorem dX13_memberMany_16 : decode cX13_memberMany 16 = .ok (.getfield 402, 3) := by decide +kernel
theorem dX13_memberMany_19 : decode cX13_memberMany 19 = .ok (.iload_n 1, 1) := by decide +kernel
theorem dX13_memberMany_20 : decode cX13_memberMany 20 = .ok (.bipush 34, 2) := by decide +kernel
theorem dX13_memberMany_22 : decode cX13_memberMany 22 = .ok (.imul, 1) := by decide +kernel
theorem dX13_memberMany_23 : decode cX13_memberMany 23 = .ok (.iload_n 3, 1) := by decide +kernel
theorem dX13_memberMany_24 : decode cX13_memberMany 24 = .ok (.iadd, 1) := by decide +kernel
theorem dX13_memberMany_25 : decode cX13_memberMany 25 = .ok (.iaload, 1) := by decide +kernel
theorem dX13_memberMany_26 : decode cX13_memberMany 26 = .ok (.iconst 3, 1) := by decide +kernel
theorem dX13_memberMany_27 : decode cX13_memberMany 27 = .ok (.if_icmp .ne 7, 3) := by decide +kernel
theorem dX13_memberMany_30 : decode cX13_memberMany 30 = .ok (.iconst 0, 1) := by decide +kernel
theorem dX13_memberMany_31 : decode cX13_memberMany 31 = .ok (.goto 4, 3) := by decide +kernel
theorem dX13_memberMany_34 : decode cX13_memberMany 34 = .ok (.iconst 1, 1) := by decide +kernel
theorem dX13_memberMany_35 : decode cX13_memberMany 35 = .ok (.iadd, 1) := by decide +kernel
theorem dX13_memberMany_36 : decode cX13_memberMany 36 = .ok (.istore_n 2, 1) := by decide +kernel
theorem dX13_memberMany_37 : decode cX13_memberMany 37 = .ok (.iinc 3 1, 3) := by decide +kernel
theorem dX13_memberMany_40 : decode cX13_memberMany 40 = .ok (.goto (-36), 3) := by decide +kernel
theorem dX13_memberMany_43 : decode cX13_memberMany 43 = .ok (.iload_n 2, 1) := by decide +kernel
theorem dX13_memberMany_44 : decode cX13_memberMany 44 = .ok (.ireturn, 1) := by decide +kernel
theorem dX13_members_0 : decode cX13_members 0 = .ok (.aload_n 0, 1) := by decide +kernel
theorem dX13_members_1 : decode cX13_members 1 = .ok (.iload_n 1, 1) := by decide +kernel
theorem dX13_members_2 : decode cX13_members 2 = .ok (.iload_n 2, 1) := by decide +kernel
theorem dX13_members_3 : decode cX13_members 3 = .ok (.iload_n 3, 1) := by decide +kernel
theorem dX13_members_4 : decode cX13_members 4 = .ok (.invokevirtual 1004, 3) := by decide +kernel
theorem dX13_members_7 : decode cX13_members 7 = .ok (.istore 4, 2) := by decide +kernel
theorem dX13_members_9 : decode cX13_members 9 = .ok (.iload 4, 2) := by decide +kernel
theorem dX13_members_11 : decode cX13_members 11 = .ok (.bipush (-2), 2) := by decide +kernel
theorem dX13_members_13 : decode cX13_members 13 = .ok (.if_icmp .ne 7, 3) := by decide +kernel
theorem dX13_members_16 : decode cX13_members 16 = .ok (.iconst (-1), 1) := by decide +kernel
theorem dX13_members_17 : decode cX13_members 17 = .ok (.goto 9, 3) := by decide +kernel
theorem dX13_members_20 : decode cX13_members 20 = .ok (.aload_n 0, 1) := by decide +kernel
theorem dX13_members_21 : decode cX13_members 21 = .ok (.iload 4, 2) := by decide +kernel
theorem dX13_members_23 : decode cX13_members 23 = .ok (.invokevirtual 1007, 3) := by decide +kernel
theorem dX13_members_26 : decode cX13_members 26 = .ok (.ireturn, 1) := by decide +kernel
theorem dX13_outParams_0 : decode cX13_outParams 0 = .ok (.aload_n 0, 1) := by decide +kernel
theorem dX13_outParams_1 : decode cX13_outParams 1 = .ok (.bipush 40, 2) := by decide +kernel
theorem dX13_outParams_3 : decode cX13_outParams 3 = .ok (.invokevirtual 29, 3) := by decide +kernel
theorem dX13_outParams_6 : decode cX13_outParams 6 = .ok (.iconst 0, 1) := by decide +kernel
theorem dX13_outParams_7 : decode cX13_outParams 7 = .ok (.istore_n 2, 1) := by decide +kernel
theorem dX13_outParams_8 : decode cX13_outParams 8 = .ok (.iload_n 2, 1) := by decide +kernel
theorem dX13_outParams_9 : decode cX13_outParams 9 = .ok (.aload_n 0, 1) := by decide +kernel
theorem dX13_outParams_10 : decode cX13_outParams 10 = .ok (.getfield 362, 3) := by decide +kernel
theorem dX13_outParams_13 : decode cX13_outParams 13 = .ok (.iload_n 1, 1) := by decide +kernel
theorem dX13_outParams_14 : decode cX13_outParams 14 = .ok (.iaload, 1) := by decide +kernel
theorem dX13_outParams_15 : decode cX13_outParams 15 = .ok (.if_icmp .ge 33, 3) := by decide +kernel
theorem dX13_outParams_18 : decode cX13_outParams 18 = .ok (.iload_n 2, 1) := by decide +kernel
theorem dX13_outParams_19 : decode cX13_outParams 19 = .ok (.ifCond .le 9, 3) := by decide +kernel
theorem dX13_outParams_22 : decode cX13_outParams 22 = .ok (.aload_n 0, 1) := by decide +kernel
theorem dX13_outParams_23 : decode cX13_outParams 23 = .ok (.bipush 44, 2) := by decide +kernel
theorem dX13_outParams_25 : decode cX13_outParams 25 = .ok (.invokevirtual 29, 3) := by decide +kernel
theorem dX13_outParams_28 : decode cX13_outParams 28 = .ok (.aload_n 0, 1) := by decide +kernel
theorem dX13_outParams_29 : decode cX13_outParams 29 = .ok (.aload_n 0, 1) := by decide +kernel
theorem dX13_outParams_30 : decode cX13_outParams 30 = .ok (.getfield 442, 3) := by decide +kernel
theorem dX13_outParams_33 : decode cX13_outParams 33 = .ok (.iconst 4, 1) := by decide +kernel
theorem dX13_outParams_34 : decode cX13_outParams 34 = .ok (.iload_n 1, 1) := by decide +kernel
theorem dX13_outParams_35 : decode cX13_outParams 35 = .ok (.imul, 1) := by decide +kernel
theorem dX13_outParams_36 : decode cX13_outParams 36 = .ok (.iload_n 2, 1) := by decide +kernel
theorem dX13_outParams_37 : decode cX13_outParams 37 = .ok (.iadd, 1) := by decide +kernel
theorem dX13_outParams_38 : decode cX13_outParams 38 = .ok (.laload, 1) := by decide +kernel
theorem dX13_outParams_39 : decode cX13_outParams 39 = .ok (.invokevirtual 1010, 3) := by decide +kernel
theorem dX13_outParams_42 : decode cX13_outParams 42 = .ok (.iinc 2 1, 3) := by decide +kernel
theorem dX13_outParams_45 : decode cX13_outParams 45 = .ok (.goto (-37), 3) := by decide +kernel
theorem dX13_outParams_48 : decode cX13_outParams 48 = .ok (.aload_n 0, 1) := by decide +kernel
theorem dX13_outParams_49 : decode cX13_outParams 49 = .ok (.bipush 41, 2) := by decide +kernel
theorem dX13_outParams_51 : decode cX13_outParams 51 = .ok (.invokevirtual 29, 3) := by decide +kernel
theorem dX13_outParams_54 : decode cX13_outParams 54 = .ok (.return_, 1) := by decide +kernel
theorem dX13_outList_0 : decode cX13_outList 0 = .ok (.iconst 0, 1) := by decide +kernel
theorem dX13_outList_1 : decode cX13_outList 1 = .ok (.istore 5, 2) := by decide +kernel
theorem dX13_outList_3 : decode cX13_outList 3 = .ok (.iload 5, 2) := by decide +kernel
theorem dX13_outList_5 : decode cX13_outList 5 = .ok (.iload 4, 2) := by decide +kernel
theorem dX13_outList_7 : decode cX13_outList 7 = .ok (.if_icmp .ge 35, 3) := by decide +kernel
theorem dX13_outList_10 : decode cX13_outList 10 = .ok (.aload_n 0, 1) := by decide +kernel
theorem dX13_outList_11 : decode cX13_outList 11 = .ok (.iload 5, 2) := by decide +kernel
theorem dX13_outList_13 : decode cX13_outList 13 = .ok (.ifCond .ne 7, 3) := by decide +kernel
theorem dX13_outList_16 : decode cX13_outList 16 = .ok (.aload_n 1, 1) := by decide +kernel
theorem dX13_outList_17 : decode cX13_outList 17 = .ok (.goto 6, 3) := by decide +kernel
theorem dX13_outList_20 : decode cX13_outList 20 = .ok (.ldc_w 1013, 3) := by decide +kernel
theorem dX13_outList_23 : decode cX13_outList 23 = .ok (.invokevirtual 47, 3) := by decide +kernel
theorem dX13_outList_26 : decode cX13_outList 26 = .ok (.aload_n 0, 1) := by decide +kernel
theorem dX13_outList_27 : decode cX13_outList 27 = .ok (.aload_n 2, 1) := by decide +kernel
theorem dX13_outList_28 : decode cX13_outList 28 = .ok (.iload_n 3, 1) := by decide +kernel
theorem dX13_outList_29 : decode cX13_outList 29 = .ok (.iload 5, 2) := by decide +kernel
theorem dX13_outList_31 : decode cX13_outList 31 = .ok (.iadd, 1) := by decide +kernel
theorem dX13_outList_32 : decode cX13_outList 32 = .ok (.laload, 1) := by decide +kernel
theorem dX13_outList_33 : decode cX13_outList 33 = .ok (.invokevirtual 53, 3) := by decide +kernel
theorem dX13_outList_36 : decode cX13_outList 36 = .ok (.iinc 5 1, 3) := by decide +kernel
theorem dX13_outList_39 : decode cX13_outList 39 = .ok (.goto (-36), 3) := by decide +kernel
theorem dX13_outList_42 : decode cX13_outList 42 = .ok (.return_, 1) := by decide +kernel
theorem dX13_shape_0 : decode cX13_shape 0 = .ok (.aload_n 0, 1) := by decide +kernel
theorem dX13_shape_1 : decode cX13_shape 1 = .ok (.iload_n 1, 1) := by decide +kernel
theorem dX13_shape_2 : decode cX13_shape 2 = .ok (.iload_n 2, 1) := by decide +kernel
theorem dX13_shape_3 : decode cX13_shape 3 = .ok (.iload_n 3, 1) := by decide +kernel
theorem dX13_shape_4 : decode cX13_shape 4 = .ok (.invokevirtual 1004, 3) := by decide +kernel
theorem dX13_shape_7 : decode cX13_shape 7 = .ok (.istore 5, 2) := by decide +kernel
theorem dX13_shape_9 : decode cX13_shape 9 = .ok (.iload 5, 2) := by decide +kernel
theorem dX13_shape_11 : decode cX13_shape 11 = .ok (.bipush (-2), 2) := by decide +kernel
theorem dX13_shape_13 : decode cX13_shape 13 = .ok (.if_icmp .eq 8, 3) := by decide +kernel
theorem dX13_shape_16 : decode cX13_shape 16 = .ok (.iload 4, 2) := by decide +kernel
theorem dX13_shape_18 : decode cX13_shape 18 = .ok (.ifCond .ge 8, 3) := by decide +kernel
theorem dX13_shape_21 : decode cX13_shape 21 = .ok (.bipush (-2), 2) := by decide +kernel
theorem dX13_shape_23 : decode cX13_shape 23 = .ok (.goto 11, 3) := by decide +kernel
theorem dX13_shape_26 : decode cX13_shape 26 = .ok (.aload_n 0, 1) := by decide +kernel
theorem dX13_shape_27 : decode cX13_shape 27 = .ok (.iload 5, 2) := by decide +kernel
theorem dX13_shape_29 : decode cX13_shape 29 = .ok (.iload 4, 2) := by decide +kernel
theorem dX13_shape_31 : decode cX13_shape 31 = .ok (.invokevirtual 1015, 3) := by decide +kernel
theorem dX13_shape_34 : decode cX13_shape 34 = .ok (.istore 6, 2) := by decide +kernel
theorem dX13_shape_36 : decode cX13_shape 36 = .ok (.iload 5, 2) := by decide +kernel
theorem dX13_shape_38 : decode cX13_shape 38 = .ok (.bipush (-2), 2) := by decide +kernel
theorem dX13_shape_40 : decode cX13_shape 40 = .ok (.if_icmp .eq 17, 3) := by decide +kernel
theorem dX13_shape_43 : decode cX13_shape 43 = .ok (.iload 4, 2) := by decide +kernel
theorem dX13_shape_45 : decode cX13_shape 45 = .ok (.bipush (-2), 2) := by decide +kernel
theorem dX13_shape_47 : decode cX13_shape 47 = .ok (.if_icmp .eq 12, 3) := by decide +kernel
theorem dX13_shape_50 : decode cX13_shape 50 = .ok (.iload 6, 2) := by decide +kernel
theorem dX13_shape_52 : decode cX13_shape 52 = .ok (.bipush (-2), 2) := by decide +kernel
theorem dX13_shape_54 : decode cX13_shape 54 = .ok (.if_icmp .ne 5, 3) := by decide +kernel
theorem dX13_shape_57 : decode cX13_shape 57 = .ok (.iconst (-1), 1) := by decide +kernel
theorem dX13_shape_58 : decode cX13_shape 58 = .ok (.ireturn, 1) := by decide +kernel
theorem dX13_shape_59 : decode cX13_shape 59 = .ok (.aload_n 0, 1) := by decide +kernel
theorem dX13_shape_60 : decode cX13_shape 60 = .ok (.iconst 0, 1) := by decide +kernel
theorem dX13_shape_61 : decode cX13_shape 61 = .ok (.putfield 15, 3) := by decide +kernel
theorem dX13_shape_64 : decode cX13_shape 64 = .ok (.iload 4, 2) := by decide +kernel
theorem dX13_shape_66 : decode cX13_shape 66 = .ok (.bipush (-2), 2) := by decide +kernel
theorem dX13_shape_68 : decode cX13_shape 68 = .ok (.if_icmp .ne 228, 3) := by decide +kernel
theorem dX13_shape_71 : decode cX13_shape 71 = .ok (.aload_n 0, 1) := by decide +kernel
theorem dX13_shape_72 : decode cX13_shape 72 = .ok (.aload_n 0, 1) := by decide +kernel
theorem dX13_shape_73 : decode cX13_shape 73 = .ok (.getfield 262, 3) := by decide +kernel
theorem dX13_shape_76 : decode cX13_shape 76 = .ok (.iload 5, 2) := by decide +kernel
theorem dX13_shape_78 : decode cX13_shape 78 = .ok (.baload, 1) := by decide +kernel
theorem dX13_shape_79 : decode cX13_shape 79 = .ok (.ifCond .eq 9, 3) := by decide +kernel
theorem dX13_shape_82 : decode cX13_shape 82 = .ok (.ldc_w 1018, 3) := by decide +kernel
theorem dX13_shape_85 : decode cX13_shape 85 = .ok (.goto 6, 3) := by decide +kernel
theorem dX13_shape_88 : decode cX13_shape 88 = .ok (.ldc_w 1020, 3) := by decide +kernel
theorem dX13_shape_91 : decode cX13_shape 91 = .ok (.invokevirtual 47, 3) := by decide +kernel
theorem dX13_shape_94 : decode cX13_shape 94 = .ok (.aload_n 0, 1) := by decide +kernel
theorem dX13_shape_95 : decode cX13_shape 95 = .ok (.aload_n 0, 1) := by decide +kernel
theorem dX13_shape_96 : decode cX13_shape 96 = .ok (.getfield 266, 3) := by decide +kernel
theorem dX13_shape_99 : decode cX13_shape 99 = .ok (.iload 5, 2) := by decide +kernel
theorem dX13_shape_101 : decode cX13_shape 101 = .ok (.iaload, 1) := by decide +kernel
theorem dX13_shape_102 : decode cX13_shape 102 = .ok (.iconst 1, 1) := by decide +kernel
theorem dX13_shape_103 : decode cX13_shape 103 = .ok (.if_icmp .ne 9, 3) := by decide +kernel
theorem dX13_shape_106 : decode cX13_shape 106 = .ok (.ldc_w 1022, 3) := by decide +kernel
theorem dX13_shape_109 : decode cX13_shape 109 = .ok (.goto 40, 3) := by decide +kernel
theorem dX13_shape_112 : decode cX13_shape 112 = .ok (.aload_n 0, 1) := by decide +kernel
theorem dX13_shape_113 : decode cX13_shape 113 = .ok (.getfield 266, 3) := by decide +kernel
theorem dX13_shape_116 : decode cX13_shape 116 = .ok (.iload 5, 2) := by decide +kernel
theorem dX13_shape_118 : decode cX13_shape 118 = .ok (.iaload, 1) := by decide +kernel
theorem dX13_shape_119 : decode cX13_shape 119 = .ok (.iconst 2, 1) := by decide +kernel
theorem dX13_shape_120 : decode cX13_shape 120 = .ok (.if_icmp .ne 9, 3) := by decide +kernel
theorem dX13_shape_123 : decode cX13_shape 123 = .ok (.ldc_w 1024, 3) := by decide +kernel
theorem dX13_shape_126 : decode cX13_shape 126 = .ok (.goto 23, 3) := by decide +kernel
theorem dX13_shape_129 : decode cX13_shape 129 = .ok (.aload_n 0, 1) := by decide +kernel
theorem dX13_shape_130 : decode cX13_shape 130 = .ok (.getfield 266, 3) := by decide +kernel
theorem dX13_shape_133 : decode cX13_shape 133 = .ok (.iload 5, 2) := by decide +kernel
theorem dX13_shape_135 : decode cX13_shape 135 = .ok (.iaload, 1) := by decide +kernel
theorem dX13_shape_136 : decode cX13_shape 136 = .ok (.iconst 3, 1) := by decide +kernel
theorem dX13_shape_137 : decode cX13_shape 137 = .ok (.if_icmp .ne 9, 3) := by decide +kernel
theorem dX13_shape_140 : decode cX13_shape 140 = .ok (.ldc_w 1026, 3) := by decide +kernel
theorem dX13_shape_143 : decode cX13_shape 143 = .ok (.goto 6, 3) := by decide +kernel
theorem dX13_shape_146 : decode cX13_shape 146 = .ok (.ldc_w 1028, 3) := by decide +kernel
theorem dX13_shape_149 : decode cX13_shape 149 = .ok (.invokevirtual 47, 3) := by decide +kernel
theorem dX13_shape_152 : decode cX13_shape 152 = .ok (.aload_n 0, 1) := by decide +kernel
theorem dX13_shape_153 : decode cX13_shape 153 = .ok (.aload_n 0, 1) := by decide +kernel
theorem dX13_shape_154 : decode cX13_shape 154 = .ok (.getfield 256, 3) := by decide +kernel
theorem dX13_shape_157 : decode cX13_shape 157 = .ok (.iload 5, 2) := by decide +kernel
theorem dX13_shape_159 : decode cX13_shape 159 = .ok (.laload, 1) := by decide +kernel
theorem dX13_shape_160 : decode cX13_shape 160 = .ok (.invokevirtual 53, 3) := by decide +kernel
theorem dX13_shape_163 : decode cX13_shape 163 = .ok (.aload_n 0, 1) := by decide +kernel
theorem dX13_shape_164 : decode cX13_shape 164 = .ok (.getfield 269, 3) := by decide +kernel
theorem dX13_shape_167 : decode cX13_shape 167 = .ok (.iload 5, 2) := by decide +kernel
theorem dX13_shape_169 : decode cX13_shape 169 = .ok (.laload, 1) := by decide +kernel
theorem dX13_shape_170 : decode cX13_shape 170 = .ok (.lconst 0, 1) := by decide +kernel
theorem dX13_shape_171 : decode cX13_shape 171 = .ok (.lcmp, 1) := by decide +kernel
theorem dX13_shape_172 : decode cX13_shape 172 = .ok (.ifCond .eq 21, 3) := by decide +kernel
theorem dX13_shape_175 : decode cX13_shape 175 = .ok (.aload_n 0, 1) := by decide +kernel
theorem dX13_shape_176 : decode cX13_shape 176 = .ok (.ldc_w 1030, 3) := by decide +kernel
theorem dX13_shape_179 : decode cX13_shape 179 = .ok (.invokevirtual 47, 3) := by decide +kernel
theorem dX13_shape_182 : decode cX13_shape 182 = .ok (.aload_n 0, 1) := by decide +kernel
theorem dX13_shape_183 : decode cX13_shape 183 = .ok (.aload_n 0, 1) := by decide +kernel
theorem dX13_shape_184 : decode cX13_shape 184 = .ok (.getfield 269, 3) := by decide +kernel
theorem dX13_shape_187 : decode cX13_shape 187 = .ok (.iload 5, 2) := by decide +kernel
theorem dX13_shape_189 : decode cX13_shape 189 = .ok (.laload, 1) := by decide +kernel
theorem dX13_shape_190 : decode cX13_shape 190 = .ok (.invokevirtual 53, 3) := by decide +kernel
theorem dX13_shape_193 : decode cX13_shape 193 = .ok (.aload_n 0, 1) := by decide +kernel
theorem dX13_shape_194 : decode cX13_shape 194 = .ok (.ldc_w 1032, 3) := by decide +kernel
theorem dX13_shape_197 : decode cX13_shape 197 = .ok (.aload_n 0, 1) := by decide +kernel
theorem dX13_shape_198 : decode cX13_shape 198 = .ok (.getfield 288, 3) := by decide +kernel
theorem dX13_shape_201 : decode cX13_shape 201 = .ok (.iconst 4, 1) := by decide +kernel
theorem dX13_shape_202 : decode cX13_shape 202 = .ok (.iload 5, 2) := by decide +kernel
theorem dX13_shape_204 : decode cX13_shape 204 = .ok (.imul, 1) := by decide +kernel
theorem dX13_shape_205 : decode cX13_shape 205 = .ok (.aload_n 0, 1) := by decide +kernel
theorem dX13_shape_206 : decode cX13_shape 206 = .ok (.getfield 283, 3) := by decide +kernel
theorem dX13_shape_209 : decode cX13_shape 209 = .ok (.iload 5, 2) := by decide +kernel
theorem dX13_shape_211 : decode cX13_shape 211 = .ok (.iaload, 1) := by decide +kernel
theorem dX13_shape_212 : decode cX13_shape 212 = .ok (.invokevirtual 1034, 3) := by decide +kernel
theorem dX13_shape_215 : decode cX13_shape 215 = .ok (.aload_n 0, 1) := by decide +kernel
theorem dX13_shape_216 : decode cX13_shape 216 = .ok (.getfield 272, 3) := by decide +kernel
theorem dX13_shape_219 : decode cX13_shape 219 = .ok (.iload 5, 2) := by decide +kernel
theorem dX13_shape_221 : decode cX13_shape 221 = .ok (.laload, 1) := by decide +kernel
theorem dX13_shape_222 : decode cX13_shape 222 = .ok (.lconst 0, 1) := by decide +kernel
theorem dX13_shape_223 : decode cX13_shape 223 = .ok (.lcmp, 1) := by decide +kernel
theorem dX13_shape_224 : decode cX13_shape 224 = .ok (.ifCond .eq 21, 3) := by decide +kernel
theorem dX13_shape_227 : decode cX13_shape 227 = .ok (.aload_n 0, 1) := by decide +kernel
theorem dX13_shape_228 : decode cX13_shape 228 = .ok (.ldc_w 1038, 3) := by decide +kernel
theorem dX13_shape_231 : decode cX13_shape 231 = .ok (.invokevirtual 47, 3) := by decide +kernel
theorem dX13_shape_234 : decode cX13_shape 234 = .ok (.aload_n 0, 1) := by decide +kernel
theorem dX13_shape_235 : decode cX13_shape 235 = .ok (.aload_n 0, 1) := by decide +kernel
theorem dX13_shape_236 : decode cX13_shape 236 = .ok (.getfield 272, 3) := by decide +kernel
theorem dX13_shape_239 : decode cX13_shape 239 = .ok (.iload 5, 2) := by decide +kernel
theorem dX13_shape_241 : decode cX13_shape 241 = .ok (.laload, 1) := by decide +kernel
theorem dX13_shape_242 : decode cX13_shape 242 = .ok (.invokevirtual 53, 3) := by decide +kernel
theorem dX13_shape_245 : decode cX13_shape 245 = .ok (.aload_n 0, 1) := by decide +kernel
theorem dX13_shape_246 : decode cX13_shape 246 = .ok (.ldc_w 1040, 3) := by decide +kernel
theorem dX13_shape_249 : decode cX13_shape 249 = .ok (.aload_n 0, 1) := by decide +kernel
theorem dX13_shape_250 : decode cX13_shape 250 = .ok (.getfield 308, 3) := by decide +kernel
theorem dX13_shape_253 : decode cX13_shape 253 = .ok (.bipush 8, 2) := by decide +kernel
theorem dX13_shape_255 : decode cX13_shape 255 = .ok (.iload 5, 2) := by decide +kernel
theorem dX13_shape_257 : decode cX13_shape 257 = .ok (.imul, 1) := by decide +kernel
theorem dX13_shape_258 : decode cX13_shape 258 = .ok (.aload_n 0, 1) := by decide +kernel
theorem dX13_shape_259 : decode cX13_shape 259 = .ok (.getfield 303, 3) := by decide +kernel
theorem dX13_shape_262 : decode cX13_shape 262 = .ok (.iload 5, 2) := by decide +kernel
theorem dX13_shape_264 : decode cX13_shape 264 = .ok (.iaload, 1) := by decide +kernel
theorem dX13_shape_265 : decode cX13_shape 265 = .ok (.invokevirtual 1034, 3) := by decide +kernel
theorem dX13_shape_268 : decode cX13_shape 268 = .ok (.aload_n 0, 1) := by decide +kernel
theorem dX13_shape_269 : decode cX13_shape 269 = .ok (.ldc_w 1042, 3) := by decide +kernel
theorem dX13_shape_272 : decode cX13_shape 272 = .ok (.aload_n 0, 1) := by decide +kernel
theorem dX13_shape_273 : decode cX13_shape 273 = .ok (.getfield 319, 3) := by decide +kernel
theorem dX13_shape_276 : decode cX13_shape 276 = .ok (.bipush 8, 2) := by decide +kernel
theorem dX13_shape_278 : decode cX13_shape 278 = .ok (.iload 5, 2) := by decide +kernel
theorem dX13_shape_280 : decode cX13_shape 280 = .ok (.imul, 1) := by decide +kernel
theorem dX13_shape_281 : decode cX13_shape 281 = .ok (.aload_n 0, 1) := by decide +kernel
theorem dX13_shape_282 : decode cX13_shape 282 = .ok (.getfield 314, 3) := by decide +kernel
theorem dX13_shape_285 : decode cX13_shape 285 = .ok (.iload 5, 2) := by decide +kernel
theorem dX13_shape_287 : decode cX13_shape 287 = .ok (.iaload, 1) := by decide +kernel
theorem dX13_shape_288 : decode cX13_shape 288 = .ok (.invokevirtual 1034, 3) := by decide +kernel
theorem dX13_shape_291 : decode cX13_shape 291 = .ok (.aload_n 0, 1) := by decide +kernel
theorem dX13_shape_292 : decode cX13_shape 292 = .ok (.getfield 15, 3) := by decide +kernel
theorem dX13_shape_295 : decode cX13_shape 295 = .ok (.ireturn, 1) := by decide +kernel
theorem dX13_shape_296 : decode cX13_shape 296 = .ok (.aload_n 0, 1) := by decide +kernel
theorem dX13_shape_297 : decode cX13_shape 297 = .ok (.aload_n 0, 1) := by decide +kernel
theorem dX13_shape_298 : decode cX13_shape 298 = .ok (.getfield 350, 3) := by decide +kernel
theorem dX13_shape_301 : decode cX13_shape 301 = .ok (.iload 6, 2) := by decide +kernel
theorem dX13_shape_303 : decode cX13_shape 303 = .ok (.baload, 1) := by decide +kernel
theorem dX13_shape_304 : decode cX13_shape 304 = .ok (.ifCond .eq 9, 3) := by decide +kernel
theorem dX13_shape_307 : decode cX13_shape 307 = .ok (.ldc_w 1044, 3) := by decide +kernel
theorem dX13_shape_310 : decode cX13_shape 310 = .ok (.goto 6, 3) := by decide +kernel
theorem dX13_shape_313 : decode cX13_shape 313 = .ok (.ldc_w 1020, 3) := by decide +kernel
theorem dX13_shape_316 : decode cX13_shape 316 = .ok (.invokevirtual 47, 3) := by decide +kernel
theorem dX13_shape_319 : decode cX13_shape 319 = .ok (.aload_n 0, 1) := by decide +kernel
theorem dX13_shape_320 : decode cX13_shape 320 = .ok (.aload_n 0, 1) := by decide +kernel
theorem dX13_shape_321 : decode cX13_shape 321 = .ok (.getfield 433, 3) := by decide +kernel
theorem dX13_shape_324 : decode cX13_shape 324 = .ok (.iload 6, 2) := by decide +kernel
theorem dX13_shape_326 : decode cX13_shape 326 = .ok (.iaload, 1) := by decide +kernel
theorem dX13_shape_327 : decode cX13_shape 327 = .ok (.iconst 3, 1) := by decide +kernel
theorem dX13_shape_328 : decode cX13_shape 328 = .ok (.if_icmp .ne 9, 3) := by decide +kernel
theorem dX13_shape_331 : decode cX13_shape 331 = .ok (.ldc_w 1018, 3) := by decide +kernel
theorem dX13_shape_334 : decode cX13_shape 334 = .ok (.goto 39, 3) := by decide +kernel
theorem dX13_shape_337 : decode cX13_shape 337 = .ok (.aload_n 0, 1) := by decide +kernel
theorem dX13_shape_338 : decode cX13_shape 338 = .ok (.getfield 433, 3) := by decide +kernel
theorem dX13_shape_341 : decode cX13_shape 341 = .ok (.iload 6, 2) := by decide +kernel
theorem dX13_shape_343 : decode cX13_shape 343 = .ok (.iaload, 1) := by decide +kernel
theorem dX13_shape_344 : decode cX13_shape 344 = .ok (.iconst 2, 1) := by decide +kernel
theorem dX13_shape_345 : decode cX13_shape 345 = .ok (.if_icmp .ne 9, 3) := by decide +kernel
theorem dX13_shape_348 : decode cX13_shape 348 = .ok (.ldc_w 1046, 3) := by decide +kernel
theorem dX13_shape_351 : decode cX13_shape 351 = .ok (.goto 22, 3) := by decide +kernel
theorem dX13_shape_354 : decode cX13_shape 354 = .ok (.aload_n 0, 1) := by decide +kernel
theorem dX13_shape_355 : decode cX13_shape 355 = .ok (.getfield 433, 3) := by decide +kernel
theorem dX13_shape_358 : decode cX13_shape 358 = .ok (.iload 6, 2) := by decide +kernel
theorem dX13_shape_360 : decode cX13_shape 360 = .ok (.iaload, 1) := by decide +kernel
theorem dX13_shape_361 : decode cX13_shape 361 = .ok (.ifCond .ne 9, 3) := by decide +kernel
theorem dX13_shape_364 : decode cX13_shape 364 = .ok (.ldc_w 1048, 3) := by decide +kernel
theorem dX13_shape_367 : decode cX13_shape 367 = .ok (.goto 6, 3) := by decide +kernel
theorem dX13_shape_370 : decode cX13_shape 370 = .ok (.ldc_w 1020, 3) := by decide +kernel
theorem dX13_shape_373 : decode cX13_shape 373 = .ok (.invokevirtual 47, 3) := by decide +kernel
theorem dX13_shape_376 : decode cX13_shape 376 = .ok (.aload_n 0, 1) := by decide +kernel
theorem dX13_shape_377 : decode cX13_shape 377 = .ok (.aload_n 0, 1) := by decide +kernel
theorem dX13_shape_378 : decode cX13_shape 378 = .ok (.getfield 341, 3) := by decide +kernel
theorem dX13_shape_381 : decode cX13_shape 381 = .ok (.iload 6, 2) := by decide +kernel
theorem dX13_shape_383 : decode cX13_shape 383 = .ok (.baload, 1) := by decide +kernel
theorem dX13_shape_384 : decode cX13_shape 384 = .ok (.ifCond .eq 9, 3) := by decide +kernel
theorem dX13_shape_387 : decode cX13_shape 387 = .ok (.ldc_w 1050, 3) := by decide +kernel
theorem dX13_shape_390 : decode cX13_shape 390 = .ok (.goto 6, 3) := by decide +kernel
theorem dX13_shape_393 : decode cX13_shape 393 = .ok (.ldc_w 1020, 3) := by decide +kernel
theorem dX13_shape_396 : decode cX13_shape 396 = .ok (.invokevirtual 47, 3) := by decide +kernel
theorem dX13_shape_399 : decode cX13_shape 399 = .ok (.aload_n 0, 1) := by decide +kernel
theorem dX13_shape_400 : decode cX13_shape 400 = .ok (.aload_n 0, 1) := by decide +kernel
theorem dX13_shape_401 : decode cX13_shape 401 = .ok (.getfield 344, 3) := by decide +kernel
theorem dX13_shape_404 : decode cX13_shape 404 = .ok (.iload 6, 2) := by decide +kernel
theorem dX13_shape_406 : decode cX13_shape 406 = .ok (.baload, 1) := by decide +kernel
theorem dX13_shape_407 : decode cX13_shape 407 = .ok (.ifCond .eq 9, 3) := by decide +kernel
theorem dX13_shape_410 : decode cX13_shape 410 = .ok (.ldc_w 1052, 3) := by decide +kernel
theorem dX13_shape_413 : decode cX13_shape 413 = .ok (.goto 22, 3) := by decide +kernel
theorem dX13_shape_416 : decode cX13_shape 416 = .ok (.aload_n 0, 1) := by decide +kernel
theorem dX13_shape_417 : decode cX13_shape 417 = .ok (.getfield 436, 3) := by decide +kernel
theorem dX13_shape_420 : decode cX13_shape 420 = .ok (.iload 6, 2) := by decide +kernel
theorem dX13_shape_422 : decode cX13_shape 422 = .ok (.baload, 1) := by decide +kernel
theorem dX13_shape_423 : decode cX13_shape 423 = .ok (.ifCond .eq 9, 3) := by decide +kernel
theorem dX13_shape_426 : decode cX13_shape 426 = .ok (.ldc_w 1054, 3) := by decide +kernel
theorem dX13_shape_429 : decode cX13_shape 429 = .ok (.goto 6, 3) := by decide +kernel
theorem dX13_shape_432 : decode cX13_shape 432 = .ok (.ldc_w 1020, 3) := by decide +kernel
theorem dX13_shape_435 : decode cX13_shape 435 = .ok (.invokevirtual 47, 3) := by decide +kernel
theorem dX13_shape_438 : decode cX13_shape 438 = .ok (.aload_n 0, 1) := by decide +kernel
theorem dX13_shape_439 : decode cX13_shape 439 = .ok (.getfield 402, 3) := by decide +kernel
theorem dX13_shape_442 : decode cX13_shape 442 = .ok (.iload 6, 2) := by decide +kernel
theorem dX13_shape_444 : decode cX13_shape 444 = .ok (.iaload, 1) := by decide +kernel
theorem dX13_shape_445 : decode cX13_shape 445 = .ok (.iconst 2, 1) := by decide +kernel
theorem dX13_shape_446 : decode cX13_shape 446 = .ok (.if_icmp .ne 13, 3) := by decide +kernel
theorem dX13_shape_449 : decode cX13_shape 449 = .ok (.aload_n 0, 1) := by decide +kernel
