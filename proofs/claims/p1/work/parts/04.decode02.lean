theorem dX12_init_64 : decode cX12_init 64 = .ok (.new 39, 3) := by decide +kernel
theorem dX12_init_67 : decode cX12_init 67 = .ok (.dup, 1) := by decide +kernel
theorem dX12_init_68 : decode cX12_init 68 = .ok (.invokespecial 41, 3) := by decide +kernel
theorem dX12_init_71 : decode cX12_init 71 = .ok (.putfield 42, 3) := by decide +kernel
theorem dX12_init_74 : decode cX12_init 74 = .ok (.aload_n 0, 1) := by decide +kernel
theorem dX12_init_75 : decode cX12_init 75 = .ok (.new 46, 3) := by decide +kernel
theorem dX12_init_78 : decode cX12_init 78 = .ok (.dup, 1) := by decide +kernel
theorem dX12_init_79 : decode cX12_init 79 = .ok (.invokespecial 48, 3) := by decide +kernel
theorem dX12_init_82 : decode cX12_init 82 = .ok (.putfield 49, 3) := by decide +kernel
theorem dX12_init_85 : decode cX12_init 85 = .ok (.aload_n 0, 1) := by decide +kernel
theorem dX12_init_86 : decode cX12_init 86 = .ok (.new 53, 3) := by decide +kernel
theorem dX12_init_89 : decode cX12_init 89 = .ok (.dup, 1) := by decide +kernel
theorem dX12_init_90 : decode cX12_init 90 = .ok (.invokespecial 55, 3) := by decide +kernel
theorem dX12_init_93 : decode cX12_init 93 = .ok (.putfield 56, 3) := by decide +kernel
theorem dX12_init_96 : decode cX12_init 96 = .ok (.aload_n 0, 1) := by decide +kernel
theorem dX12_init_97 : decode cX12_init 97 = .ok (.bipush (-2), 2) := by decide +kernel
theorem dX12_init_99 : decode cX12_init 99 = .ok (.putfield 60, 3) := by decide +kernel
theorem dX12_init_102 : decode cX12_init 102 = .ok (.aload_n 0, 1) := by decide +kernel
theorem dX12_init_103 : decode cX12_init 103 = .ok (.new 64, 3) := by decide +kernel
theorem dX12_init_106 : decode cX12_init 106 = .ok (.dup, 1) := by decide +kernel
theorem dX12_init_107 : decode cX12_init 107 = .ok (.invokespecial 66, 3) := by decide +kernel
theorem dX12_init_110 : decode cX12_init 110 = .ok (.putfield 67, 3) := by decide +kernel
theorem dX12_init_113 : decode cX12_init 113 = .ok (.aload_n 0, 1) := by decide +kernel
theorem dX12_init_114 : decode cX12_init 114 = .ok (.new 64, 3) := by decide +kernel
theorem dX12_init_117 : decode cX12_init 117 = .ok (.dup, 1) := by decide +kernel
theorem dX12_init_118 : decode cX12_init 118 = .ok (.invokespecial 66, 3) := by decide +kernel
theorem dX12_init_121 : decode cX12_init 121 = .ok (.putfield 71, 3) := by decide +kernel
theorem dX12_init_124 : decode cX12_init 124 = .ok (.aload_n 0, 1) := by decide +kernel
theorem dX12_init_125 : decode cX12_init 125 = .ok (.new 74, 3) := by decide +kernel
theorem dX12_init_128 : decode cX12_init 128 = .ok (.dup, 1) := by decide +kernel
theorem dX12_init_129 : decode cX12_init 129 = .ok (.iconst 0, 1) := by decide +kernel
theorem dX12_init_130 : decode cX12_init 130 = .ok (.invokespecial 76, 3) := by decide +kernel
theorem dX12_init_133 : decode cX12_init 133 = .ok (.putfield 79, 3) := by decide +kernel
theorem dX12_init_136 : decode cX12_init 136 = .ok (.aload_n 0, 1) := by decide +kernel
theorem dX12_init_137 : decode cX12_init 137 = .ok (.new 74, 3) := by decide +kernel
theorem dX12_init_140 : decode cX12_init 140 = .ok (.dup, 1) := by decide +kernel
theorem dX12_init_141 : decode cX12_init 141 = .ok (.iconst 0, 1) := by decide +kernel
theorem dX12_init_142 : decode cX12_init 142 = .ok (.invokespecial 76, 3) := by decide +kernel
theorem dX12_init_145 : decode cX12_init 145 = .ok (.putfield 83, 3) := by decide +kernel
theorem dX12_init_148 : decode cX12_init 148 = .ok (.aload_n 0, 1) := by decide +kernel
theorem dX12_init_149 : decode cX12_init 149 = .ok (.sipush 14820, 3) := by decide +kernel
theorem dX12_init_152 : decode cX12_init 152 = .ok (.newarray .int, 2) := by decide +kernel
theorem dX12_init_154 : decode cX12_init 154 = .ok (.putfield 86, 3) := by decide +kernel
theorem dX12_init_157 : decode cX12_init 157 = .ok (.aload_n 0, 1) := by decide +kernel
theorem dX12_init_158 : decode cX12_init 158 = .ok (.new 89, 3) := by decide +kernel
theorem dX12_init_161 : decode cX12_init 161 = .ok (.dup, 1) := by decide +kernel
theorem dX12_init_162 : decode cX12_init 162 = .ok (.invokespecial 91, 3) := by decide +kernel
theorem dX12_init_165 : decode cX12_init 165 = .ok (.putfield 92, 3) := by decide +kernel
theorem dX12_init_168 : decode cX12_init 168 = .ok (.aload_n 0, 1) := by decide +kernel
theorem dX12_init_169 : decode cX12_init 169 = .ok (.new 96, 3) := by decide +kernel
theorem dX12_init_172 : decode cX12_init 172 = .ok (.dup, 1) := by decide +kernel
theorem dX12_init_173 : decode cX12_init 173 = .ok (.invokespecial 98, 3) := by decide +kernel
theorem dX12_init_176 : decode cX12_init 176 = .ok (.putfield 99, 3) := by decide +kernel
theorem dX12_init_179 : decode cX12_init 179 = .ok (.iconst 0, 1) := by decide +kernel
theorem dX12_init_180 : decode cX12_init 180 = .ok (.istore_n 1, 1) := by decide +kernel
theorem dX12_init_181 : decode cX12_init 181 = .ok (.iload_n 1, 1) := by decide +kernel
theorem dX12_init_182 : decode cX12_init 182 = .ok (.aload_n 0, 1) := by decide +kernel
theorem dX12_init_183 : decode cX12_init 183 = .ok (.getfield 18, 3) := by decide +kernel
theorem dX12_init_186 : decode cX12_init 186 = .ok (.arraylength, 1) := by decide +kernel
theorem dX12_init_187 : decode cX12_init 187 = .ok (.if_icmp .ge 39, 3) := by decide +kernel
theorem dX12_init_190 : decode cX12_init 190 = .ok (.aload_n 0, 1) := by decide +kernel
theorem dX12_init_191 : decode cX12_init 191 = .ok (.getfield 18, 3) := by decide +kernel
theorem dX12_init_194 : decode cX12_init 194 = .ok (.iload_n 1, 1) := by decide +kernel
theorem dX12_init_195 : decode cX12_init 195 = .ok (.new 16, 3) := by decide +kernel
theorem dX12_init_198 : decode cX12_init 198 = .ok (.dup, 1) := by decide +kernel
theorem dX12_init_199 : decode cX12_init 199 = .ok (.bipush 12, 2) := by decide +kernel
theorem dX12_init_201 : decode cX12_init 201 = .ok (.sipush 408, 3) := by decide +kernel
theorem dX12_init_204 : decode cX12_init 204 = .ok (.sipush 4000, 3) := by decide +kernel
theorem dX12_init_207 : decode cX12_init 207 = .ok (.sipush 700, 3) := by decide +kernel
theorem dX12_init_210 : decode cX12_init 210 = .ok (.sipush 988, 3) := by decide +kernel
theorem dX12_init_213 : decode cX12_init 213 = .ok (.sipush 4816, 3) := by decide +kernel
theorem dX12_init_216 : decode cX12_init 216 = .ok (.invokespecial 103, 3) := by decide +kernel
theorem dX12_init_219 : decode cX12_init 219 = .ok (.aastore, 1) := by decide +kernel
theorem dX12_init_220 : decode cX12_init 220 = .ok (.iinc 1 1, 3) := by decide +kernel
theorem dX12_init_223 : decode cX12_init 223 = .ok (.goto (-42), 3) := by decide +kernel
theorem dX12_init_226 : decode cX12_init 226 = .ok (.aload_n 0, 1) := by decide +kernel
theorem dX12_init_227 : decode cX12_init 227 = .ok (.getfield 26, 3) := by decide +kernel
theorem dX12_init_230 : decode cX12_init 230 = .ok (.bipush (-2), 2) := by decide +kernel
theorem dX12_init_232 : decode cX12_init 232 = .ok (.invokestatic 106, 3) := by decide +kernel
theorem dX12_init_235 : decode cX12_init 235 = .ok (.aload_n 0, 1) := by decide +kernel
theorem dX12_init_236 : decode cX12_init 236 = .ok (.aload_n 0, 1) := by decide +kernel
theorem dX12_init_237 : decode cX12_init 237 = .ok (.getfield 67, 3) := by decide +kernel
theorem dX12_init_240 : decode cX12_init 240 = .ok (.aload_n 0, 1) := by decide +kernel
theorem dX12_init_241 : decode cX12_init 241 = .ok (.getfield 26, 3) := by decide +kernel
theorem dX12_init_244 : decode cX12_init 244 = .ok (.invokevirtual 112, 3) := by decide +kernel
theorem dX12_init_247 : decode cX12_init 247 = .ok (.aload_n 0, 1) := by decide +kernel
theorem dX12_init_248 : decode cX12_init 248 = .ok (.getfield 99, 3) := by decide +kernel
theorem dX12_init_251 : decode cX12_init 251 = .ok (.aload_n 0, 1) := by decide +kernel
theorem dX12_init_252 : decode cX12_init 252 = .ok (.getfield 67, 3) := by decide +kernel
theorem dX12_init_255 : decode cX12_init 255 = .ok (.invokevirtual 116, 3) := by decide +kernel
theorem dX12_init_258 : decode cX12_init 258 = .ok (.return_, 1) := by decide +kernel
theorem dX12_feed_0 : decode cX12_feed 0 = .ok (.aload_n 0, 1) := by decide +kernel
theorem dX12_feed_1 : decode cX12_feed 1 = .ok (.getfield 120, 3) := by decide +kernel
theorem dX12_feed_4 : decode cX12_feed 4 = .ok (.bipush 20, 2) := by decide +kernel
theorem dX12_feed_6 : decode cX12_feed 6 = .ok (.iadd, 1) := by decide +kernel
theorem dX12_feed_7 : decode cX12_feed 7 = .ok (.sipush 4000, 3) := by decide +kernel
theorem dX12_feed_10 : decode cX12_feed 10 = .ok (.if_icmp .le 6, 3) := by decide +kernel
theorem dX12_feed_16 : decode cX12_feed 16 = .ok (.aload_n 0, 1) := by decide +kernel
theorem dX12_feed_17 : decode cX12_feed 17 = .ok (.iload_n 1, 1) := by decide +kernel
theorem dX12_feed_18 : decode cX12_feed 18 = .ok (.invokevirtual 123, 3) := by decide +kernel
theorem dX12_feed_21 : decode cX12_feed 21 = .ok (.aload_n 0, 1) := by decide +kernel
theorem dX12_feed_22 : decode cX12_feed 22 = .ok (.iload_n 2, 1) := by decide +kernel
theorem dX12_feed_23 : decode cX12_feed 23 = .ok (.invokevirtual 123, 3) := by decide +kernel
theorem dX12_feed_26 : decode cX12_feed 26 = .ok (.aload_n 0, 1) := by decide +kernel
theorem dX12_feed_27 : decode cX12_feed 27 = .ok (.iload_n 3, 1) := by decide +kernel
theorem dX12_feed_28 : decode cX12_feed 28 = .ok (.invokevirtual 123, 3) := by decide +kernel
theorem dX12_feed_31 : decode cX12_feed 31 = .ok (.aload_n 0, 1) := by decide +kernel
theorem dX12_feed_32 : decode cX12_feed 32 = .ok (.iload 4, 2) := by decide +kernel
theorem dX12_feed_34 : decode cX12_feed 34 = .ok (.invokevirtual 123, 3) := by decide +kernel
theorem dX12_feed_37 : decode cX12_feed 37 = .ok (.aload_n 0, 1) := by decide +kernel
theorem dX12_feed_38 : decode cX12_feed 38 = .ok (.iload 5, 2) := by decide +kernel
theorem dX12_feed_40 : decode cX12_feed 40 = .ok (.invokevirtual 123, 3) := by decide +kernel
theorem dX12_feed_43 : decode cX12_feed 43 = .ok (.aload_n 0, 1) := by decide +kernel
theorem dX12_feed_44 : decode cX12_feed 44 = .ok (.getfield 120, 3) := by decide +kernel
theorem dX12_feed_47 : decode cX12_feed 47 = .ok (.ireturn, 1) := by decide +kernel
theorem dX12_fourBytes_0 : decode cX12_fourBytes 0 = .ok (.bipush 24, 2) := by decide +kernel
theorem dX12_fourBytes_2 : decode cX12_fourBytes 2 = .ok (.istore_n 2, 1) := by decide +kernel
theorem dX12_fourBytes_3 : decode cX12_fourBytes 3 = .ok (.iload_n 2, 1) := by decide +kernel
theorem dX12_fourBytes_4 : decode cX12_fourBytes 4 = .ok (.ifCond .lt 42, 3) := by decide +kernel
theorem dX12_fourBytes_7 : decode cX12_fourBytes 7 = .ok (.aload_n 0, 1) := by decide +kernel
theorem dX12_fourBytes_8 : decode cX12_fourBytes 8 = .ok (.getfield 120, 3) := by decide +kernel
theorem dX12_fourBytes_11 : decode cX12_fourBytes 11 = .ok (.sipush 4000, 3) := by decide +kernel
theorem dX12_fourBytes_14 : decode cX12_fourBytes 14 = .ok (.if_icmp .ge 32, 3) := by decide +kernel
theorem dX12_fourBytes_17 : decode cX12_fourBytes 17 = .ok (.aload_n 0, 1) := by decide +kernel
theorem dX12_fourBytes_18 : decode cX12_fourBytes 18 = .ok (.getfield 9, 3) := by decide +kernel
theorem dX12_fourBytes_21 : decode cX12_fourBytes 21 = .ok (.aload_n 0, 1) := by decide +kernel
theorem dX12_fourBytes_22 : decode cX12_fourBytes 22 = .ok (.getfield 120, 3) := by decide +kernel
theorem dX12_fourBytes_25 : decode cX12_fourBytes 25 = .ok (.iload_n 1, 1) := by decide +kernel
theorem dX12_fourBytes_26 : decode cX12_fourBytes 26 = .ok (.iload_n 2, 1) := by decide +kernel
theorem dX12_fourBytes_27 : decode cX12_fourBytes 27 = .ok (.iushr, 1) := by decide +kernel
theorem dX12_fourBytes_28 : decode cX12_fourBytes 28 = .ok (.i2b, 1) := by decide +kernel
theorem dX12_fourBytes_29 : decode cX12_fourBytes 29 = .ok (.bastore, 1) := by decide +kernel
theorem dX12_fourBytes_30 : decode cX12_fourBytes 30 = .ok (.aload_n 0, 1) := by decide +kernel
theorem dX12_fourBytes_31 : decode cX12_fourBytes 31 = .ok (.dup, 1) := by decide +kernel
theorem dX12_fourBytes_32 : decode cX12_fourBytes 32 = .ok (.getfield 120, 3) := by decide +kernel
theorem dX12_fourBytes_35 : decode cX12_fourBytes 35 = .ok (.iconst 1, 1) := by decide +kernel
theorem dX12_fourBytes_36 : decode cX12_fourBytes 36 = .ok (.iadd, 1) := by decide +kernel
theorem dX12_fourBytes_37 : decode cX12_fourBytes 37 = .ok (.putfield 120, 3) := by decide +kernel
theorem dX12_fourBytes_40 : decode cX12_fourBytes 40 = .ok (.iinc 2 (-8), 3) := by decide +kernel
theorem dX12_fourBytes_43 : decode cX12_fourBytes 43 = .ok (.goto (-40), 3) := by decide +kernel
theorem dX12_fourBytes_46 : decode cX12_fourBytes 46 = .ok (.return_, 1) := by decide +kernel
theorem dX12_cut_0 : decode cX12_cut 0 = .ok (.iload_n 1, 1) := by decide +kernel
theorem dX12_cut_1 : decode cX12_cut 1 = .ok (.ifCond .lt 11, 3) := by decide +kernel
theorem dX12_cut_4 : decode cX12_cut 4 = .ok (.iload_n 1, 1) := by decide +kernel
theorem dX12_cut_5 : decode cX12_cut 5 = .ok (.aload_n 0, 1) := by decide +kernel
theorem dX12_cut_6 : decode cX12_cut 6 = .ok (.getfield 120, 3) := by decide +kernel
theorem dX12_cut_9 : decode cX12_cut 9 = .ok (.if_icmp .le 5, 3) := by decide +kernel
theorem dX12_cut_12 : decode cX12_cut 12 = .ok (.iconst (-1), 1) := by decide +kernel
theorem dX12_cut_13 : decode cX12_cut 13 = .ok (.ireturn, 1) := by decide +kernel
theorem dX12_cut_14 : decode cX12_cut 14 = .ok (.aload_n 0, 1) := by decide +kernel
theorem dX12_cut_15 : decode cX12_cut 15 = .ok (.dup, 1) := by decide +kernel
theorem dX12_cut_16 : decode cX12_cut 16 = .ok (.getfield 120, 3) := by decide +kernel
theorem dX12_cut_19 : decode cX12_cut 19 = .ok (.iload_n 1, 1) := by decide +kernel
theorem dX12_cut_20 : decode cX12_cut 20 = .ok (.isub, 1) := by decide +kernel
theorem dX12_cut_21 : decode cX12_cut 21 = .ok (.putfield 120, 3) := by decide +kernel
theorem dX12_cut_24 : decode cX12_cut 24 = .ok (.aload_n 0, 1) := by decide +kernel
theorem dX12_cut_25 : decode cX12_cut 25 = .ok (.getfield 120, 3) := by decide +kernel
theorem dX12_cut_28 : decode cX12_cut 28 = .ok (.ireturn, 1) := by decide +kernel
theorem dX12_splice_0 : decode cX12_splice 0 = .ok (.iload_n 3, 1) := by decide +kernel
theorem dX12_splice_1 : decode cX12_splice 1 = .ok (.ifCond .lt 11, 3) := by decide +kernel
theorem dX12_splice_4 : decode cX12_splice 4 = .ok (.iload_n 3, 1) := by decide +kernel
theorem dX12_splice_5 : decode cX12_splice 5 = .ok (.aload_n 0, 1) := by decide +kernel
theorem dX12_splice_6 : decode cX12_splice 6 = .ok (.getfield 120, 3) := by decide +kernel
theorem dX12_splice_9 : decode cX12_splice 9 = .ok (.if_icmp .le 5, 3) := by decide +kernel
theorem dX12_splice_12 : decode cX12_splice 12 = .ok (.iconst (-1), 1) := by decide +kernel
theorem dX12_splice_13 : decode cX12_splice 13 = .ok (.ireturn, 1) := by decide +kernel
theorem dX12_splice_14 : decode cX12_splice 14 = .ok (.aload_n 0, 1) := by decide +kernel
theorem dX12_splice_15 : decode cX12_splice 15 = .ok (.getfield 120, 3) := by decide +kernel
theorem dX12_splice_18 : decode cX12_splice 18 = .ok (.iload_n 3, 1) := by decide +kernel
theorem dX12_splice_19 : decode cX12_splice 19 = .ok (.isub, 1) := by decide +kernel
theorem dX12_splice_20 : decode cX12_splice 20 = .ok (.istore 4, 2) := by decide +kernel
theorem dX12_splice_22 : decode cX12_splice 22 = .ok (.iload_n 1, 1) := by decide +kernel
theorem dX12_splice_23 : decode cX12_splice 23 = .ok (.ifCond .lt 21, 3) := by decide +kernel
theorem dX12_splice_26 : decode cX12_splice 26 = .ok (.iload_n 1, 1) := by decide +kernel
theorem dX12_splice_27 : decode cX12_splice 27 = .ok (.iload 4, 2) := by decide +kernel
theorem dX12_splice_29 : decode cX12_splice 29 = .ok (.if_icmp .gt 15, 3) := by decide +kernel
theorem dX12_splice_32 : decode cX12_splice 32 = .ok (.iload_n 2, 1) := by decide +kernel
theorem dX12_splice_33 : decode cX12_splice 33 = .ok (.ifCond .lt 11, 3) := by decide +kernel
theorem dX12_splice_36 : decode cX12_splice 36 = .ok (.iload_n 2, 1) := by decide +kernel
theorem dX12_splice_37 : decode cX12_splice 37 = .ok (.iload 4, 2) := by decide +kernel
theorem dX12_splice_39 : decode cX12_splice 39 = .ok (.iload_n 1, 1) := by decide +kernel
theorem dX12_splice_40 : decode cX12_splice 40 = .ok (.isub, 1) := by decide +kernel
theorem dX12_splice_41 : decode cX12_splice 41 = .ok (.if_icmp .le 5, 3) := by decide +kernel
theorem dX12_splice_44 : decode cX12_splice 44 = .ok (.iconst (-1), 1) := by decide +kernel
theorem dX12_splice_45 : decode cX12_splice 45 = .ok (.ireturn, 1) := by decide +kernel
theorem dX12_splice_46 : decode cX12_splice 46 = .ok (.aload_n 0, 1) := by decide +kernel
theorem dX12_splice_47 : decode cX12_splice 47 = .ok (.invokevirtual 126, 3) := by decide +kernel
theorem dX12_splice_50 : decode cX12_splice 50 = .ok (.getfield 130, 3) := by decide +kernel
theorem dX12_splice_53 : decode cX12_splice 53 = .ok (.astore 5, 2) := by decide +kernel
theorem dX12_splice_55 : decode cX12_splice 55 = .ok (.aload_n 0, 1) := by decide +kernel
theorem dX12_splice_56 : decode cX12_splice 56 = .ok (.getfield 9, 3) := by decide +kernel
theorem dX12_splice_59 : decode cX12_splice 59 = .ok (.iload 4, 2) := by decide +kernel
theorem dX12_splice_61 : decode cX12_splice 61 = .ok (.aload 5, 2) := by decide +kernel
theorem dX12_splice_63 : decode cX12_splice 63 = .ok (.iconst 0, 1) := by decide +kernel
theorem dX12_splice_64 : decode cX12_splice 64 = .ok (.iload_n 3, 1) := by decide +kernel
theorem dX12_splice_65 : decode cX12_splice 65 = .ok (.invokestatic 133, 3) := by decide +kernel
theorem dX12_splice_68 : decode cX12_splice 68 = .ok (.aload_n 0, 1) := by decide +kernel
theorem dX12_splice_69 : decode cX12_splice 69 = .ok (.getfield 9, 3) := by decide +kernel
theorem dX12_splice_72 : decode cX12_splice 72 = .ok (.iload_n 1, 1) := by decide +kernel
theorem dX12_splice_73 : decode cX12_splice 73 = .ok (.iload_n 2, 1) := by decide +kernel
theorem dX12_splice_74 : decode cX12_splice 74 = .ok (.iadd, 1) := by decide +kernel
theorem dX12_splice_75 : decode cX12_splice 75 = .ok (.aload_n 0, 1) := by decide +kernel
theorem dX12_splice_76 : decode cX12_splice 76 = .ok (.getfield 9, 3) := by decide +kernel
theorem dX12_splice_79 : decode cX12_splice 79 = .ok (.iload_n 1, 1) := by decide +kernel
theorem dX12_splice_80 : decode cX12_splice 80 = .ok (.iload_n 3, 1) := by decide +kernel
theorem dX12_splice_81 : decode cX12_splice 81 = .ok (.iadd, 1) := by decide +kernel
theorem dX12_splice_82 : decode cX12_splice 82 = .ok (.iload 4, 2) := by decide +kernel
theorem dX12_splice_84 : decode cX12_splice 84 = .ok (.iload_n 1, 1) := by decide +kernel
theorem dX12_splice_85 : decode cX12_splice 85 = .ok (.isub, 1) := by decide +kernel
theorem dX12_splice_86 : decode cX12_splice 86 = .ok (.iload_n 2, 1) := by decide +kernel
theorem dX12_splice_87 : decode cX12_splice 87 = .ok (.isub, 1) := by decide +kernel
theorem dX12_splice_88 : decode cX12_splice 88 = .ok (.invokestatic 133, 3) := by decide +kernel
theorem dX12_splice_91 : decode cX12_splice 91 = .ok (.aload 5, 2) := by decide +kernel
theorem dX12_splice_93 : decode cX12_splice 93 = .ok (.iconst 0, 1) := by decide +kernel
theorem dX12_splice_94 : decode cX12_splice 94 = .ok (.aload_n 0, 1) := by decide +kernel
theorem dX12_splice_95 : decode cX12_splice 95 = .ok (.getfield 9, 3) := by decide +kernel
theorem dX12_splice_98 : decode cX12_splice 98 = .ok (.iload_n 1, 1) := by decide +kernel
theorem dX12_splice_99 : decode cX12_splice 99 = .ok (.iload_n 3, 1) := by decide +kernel
theorem dX12_splice_100 : decode cX12_splice 100 = .ok (.invokestatic 133, 3) := by decide +kernel
theorem dX12_splice_103 : decode cX12_splice 103 = .ok (.aload_n 0, 1) := by decide +kernel
theorem dX12_splice_104 : decode cX12_splice 104 = .ok (.dup, 1) := by decide +kernel
theorem dX12_splice_105 : decode cX12_splice 105 = .ok (.getfield 120, 3) := by decide +kernel
theorem dX12_splice_108 : decode cX12_splice 108 = .ok (.iload_n 2, 1) := by decide +kernel
theorem dX12_splice_109 : decode cX12_splice 109 = .ok (.isub, 1) := by decide +kernel
theorem dX12_splice_110 : decode cX12_splice 110 = .ok (.putfield 120, 3) := by decide +kernel
theorem dX12_splice_113 : decode cX12_splice 113 = .ok (.aload_n 0, 1) := by decide +kernel
theorem dX12_splice_114 : decode cX12_splice 114 = .ok (.getfield 120, 3) := by decide +kernel
theorem dX12_splice_117 : decode cX12_splice 117 = .ok (.ireturn, 1) := by decide +kernel
theorem dX12_text_0 : decode cX12_text 0 = .ok (.aload_n 0, 1) := by decide +kernel
theorem dX12_text_1 : decode cX12_text 1 = .ok (.iload_n 1, 1) := by decide +kernel
theorem dX12_text_2 : decode cX12_text 2 = .ok (.iload_n 2, 1) := by decide +kernel
theorem dX12_text_3 : decode cX12_text 3 = .ok (.invokevirtual 139, 3) := by decide +kernel
theorem dX12_text_6 : decode cX12_text 6 = .ok (.astore_n 3, 1) := by decide +kernel
theorem dX12_text_7 : decode cX12_text 7 = .ok (.aload_n 3, 1) := by decide +kernel
theorem dX12_text_8 : decode cX12_text 8 = .ok (.ifnonnull 5, 3) := by decide +kernel
theorem dX12_text_11 : decode cX12_text 11 = .ok (.iconst (-1), 1) := by decide +kernel
theorem dX12_text_12 : decode cX12_text 12 = .ok (.ireturn, 1) := by decide +kernel
theorem dX12_size_0 : decode cX12_size 0 = .ok (.aload_n 0, 1) := by decide +kernel
theorem dX12_size_1 : decode cX12_size 1 = .ok (.getfield 146, 3) := by decide +kernel
theorem dX12_size_4 : decode cX12_size 4 = .ok (.ireturn, 1) := by decide +kernel
theorem dX12_octet_0 : decode cX12_octet 0 = .ok (.iload_n 1, 1) := by decide +kernel
theorem dX12_octet_1 : decode cX12_octet 1 = .ok (.ifCond .lt 11, 3) := by decide +kernel
theorem dX12_octet_4 : decode cX12_octet 4 = .ok (.iload_n 1, 1) := by decide +kernel
theorem dX12_octet_5 : decode cX12_octet 5 = .ok (.aload_n 0, 1) := by decide +kernel
theorem dX12_octet_6 : decode cX12_octet 6 = .ok (.getfield 146, 3) := by decide +kernel
theorem dX12_octet_9 : decode cX12_octet 9 = .ok (.if_icmp .lt 7, 3) := by decide +kernel
theorem dX12_octet_12 : decode cX12_octet 12 = .ok (.iconst (-1), 1) := by decide +kernel
theorem dX12_octet_13 : decode cX12_octet 13 = .ok (.goto 13, 3) := by decide +kernel
theorem dX12_octet_26 : decode cX12_octet 26 = .ok (.ireturn, 1) := by decide +kernel
theorem dX12_isLibrary_0 : decode cX12_isLibrary 0 = .ok (.iload_n 0, 1) := by decide +kernel
theorem dX12_isLibrary_1 : decode cX12_isLibrary 1 = .ok (.ifCond .lt 12, 3) := by decide +kernel
theorem dX12_isLibrary_4 : decode cX12_isLibrary 4 = .ok (.iload_n 0, 1) := by decide +kernel
theorem dX12_isLibrary_5 : decode cX12_isLibrary 5 = .ok (.iconst 5, 1) := by decide +kernel
theorem dX12_isLibrary_6 : decode cX12_isLibrary 6 = .ok (.if_icmp .ge 7, 3) := by decide +kernel
theorem dX12_isLibrary_9 : decode cX12_isLibrary 9 = .ok (.iconst 1, 1) := by decide +kernel
theorem dX12_isLibrary_10 : decode cX12_isLibrary 10 = .ok (.goto 4, 3) := by decide +kernel
theorem dX12_isLibrary_13 : decode cX12_isLibrary 13 = .ok (.iconst 0, 1) := by decide +kernel
theorem dX12_isLibrary_14 : decode cX12_isLibrary 14 = .ok (.ireturn, 1) := by decide +kernel
theorem dX12_buildOf_0 : decode cX12_buildOf 0 = .ok (.aload_n 0, 1) := by decide +kernel
theorem dX12_buildOf_1 : decode cX12_buildOf 1 = .ok (.invokevirtual 149, 3) := by decide +kernel
theorem dX12_buildOf_4 : decode cX12_buildOf 4 = .ok (.istore_n 3, 1) := by decide +kernel
theorem dX12_buildOf_5 : decode cX12_buildOf 5 = .ok (.iconst 0, 1) := by decide +kernel
theorem dX12_buildOf_6 : decode cX12_buildOf 6 = .ok (.istore 4, 2) := by decide +kernel
theorem dX12_buildOf_8 : decode cX12_buildOf 8 = .ok (.iload 4, 2) := by decide +kernel
theorem dX12_buildOf_10 : decode cX12_buildOf 10 = .ok (.iload_n 3, 1) := by decide +kernel
theorem dX12_buildOf_11 : decode cX12_buildOf 11 = .ok (.if_icmp .ge 45, 3) := by decide +kernel
theorem dX12_buildOf_56 : decode cX12_buildOf 56 = .ok (.aconst_null, 1) := by decide +kernel
theorem dX12_buildOf_57 : decode cX12_buildOf 57 = .ok (.areturn, 1) := by decide +kernel
theorem dX12_unused_0 : decode cX12_unused 0 = .ok (.aload_n 0, 1) := by decide +kernel
theorem dX12_unused_1 : decode cX12_unused 1 = .ok (.getfield 18, 3) := by decide +kernel
theorem dX12_unused_4 : decode cX12_unused 4 = .ok (.aload_n 0, 1) := by decide +kernel
theorem dX12_unused_5 : decode cX12_unused 5 = .ok (.invokevirtual 149, 3) := by decide +kernel
theorem dX12_unused_8 : decode cX12_unused 8 = .ok (.bipush 16, 2) := by decide +kernel
theorem dX12_unused_10 : decode cX12_unused 10 = .ok (.invokestatic 159, 3) := by decide +kernel
theorem dX12_unused_13 : decode cX12_unused 13 = .ok (.aaload, 1) := by decide +kernel
theorem dX12_unused_14 : decode cX12_unused 14 = .ok (.areturn, 1) := by decide +kernel
theorem dX12_rowOf_0 : decode cX12_rowOf 0 = .ok (.aload_n 0, 1) := by decide +kernel
theorem dX12_rowOf_1 : decode cX12_rowOf 1 = .ok (.iload_n 1, 1) := by decide +kernel
theorem dX12_rowOf_2 : decode cX12_rowOf 2 = .ok (.iload_n 2, 1) := by decide +kernel
theorem dX12_rowOf_3 : decode cX12_rowOf 3 = .ok (.invokevirtual 139, 3) := by decide +kernel
theorem dX12_rowOf_6 : decode cX12_rowOf 6 = .ok (.astore 4, 2) := by decide +kernel
theorem dX12_rowOf_8 : decode cX12_rowOf 8 = .ok (.aload 4, 2) := by decide +kernel
theorem dX12_rowOf_10 : decode cX12_rowOf 10 = .ok (.ifnull 16, 3) := by decide +kernel
theorem dX12_rowOf_26 : decode cX12_rowOf 26 = .ok (.aconst_null, 1) := by decide +kernel
theorem dX12_rowOf_27 : decode cX12_rowOf 27 = .ok (.goto 10, 3) := by decide +kernel
theorem dX12_rowOf_37 : decode cX12_rowOf 37 = .ok (.areturn, 1) := by decide +kernel
theorem dX12_allBuilt_0 : decode cX12_allBuilt 0 = .ok (.iconst 0, 1) := by decide +kernel
theorem dX12_allBuilt_1 : decode cX12_allBuilt 1 = .ok (.istore_n 1, 1) := by decide +kernel
theorem dX12_allBuilt_2 : decode cX12_allBuilt 2 = .ok (.iconst 0, 1) := by decide +kernel
theorem dX12_allBuilt_3 : decode cX12_allBuilt 3 = .ok (.istore_n 2, 1) := by decide +kernel
theorem dX12_allBuilt_4 : decode cX12_allBuilt 4 = .ok (.iload_n 2, 1) := by decide +kernel
theorem dX12_allBuilt_5 : decode cX12_allBuilt 5 = .ok (.iconst 5, 1) := by decide +kernel
theorem dX12_allBuilt_6 : decode cX12_allBuilt 6 = .ok (.if_icmp .ge 18, 3) := by decide +kernel
theorem dX12_allBuilt_9 : decode cX12_allBuilt 9 = .ok (.iload_n 1, 1) := by decide +kernel
theorem dX12_allBuilt_10 : decode cX12_allBuilt 10 = .ok (.aload_n 0, 1) := by decide +kernel
theorem dX12_allBuilt_11 : decode cX12_allBuilt 11 = .ok (.getfield 22, 3) := by decide +kernel
theorem dX12_allBuilt_14 : decode cX12_allBuilt 14 = .ok (.iload_n 2, 1) := by decide +kernel
theorem dX12_allBuilt_15 : decode cX12_allBuilt 15 = .ok (.iaload, 1) := by decide +kernel
theorem dX12_allBuilt_16 : decode cX12_allBuilt 16 = .ok (.iadd, 1) := by decide +kernel
theorem dX12_allBuilt_17 : decode cX12_allBuilt 17 = .ok (.istore_n 1, 1) := by decide +kernel
theorem dX12_allBuilt_18 : decode cX12_allBuilt 18 = .ok (.iinc 2 1, 3) := by decide +kernel
theorem dX12_allBuilt_21 : decode cX12_allBuilt 21 = .ok (.goto (-17), 3) := by decide +kernel
theorem dX12_allBuilt_24 : decode cX12_allBuilt 24 = .ok (.iload_n 1, 1) := by decide +kernel
theorem dX12_allBuilt_25 : decode cX12_allBuilt 25 = .ok (.ireturn, 1) := by decide +kernel
theorem dX12_isFull_0 : decode cX12_isFull 0 = .ok (.aload_n 0, 1) := by decide +kernel
theorem dX12_isFull_1 : decode cX12_isFull 1 = .ok (.getfield 22, 3) := by decide +kernel
theorem dX12_isFull_4 : decode cX12_isFull 4 = .ok (.iload_n 1, 1) := by decide +kernel
theorem dX12_isFull_5 : decode cX12_isFull 5 = .ok (.iaload, 1) := by decide +kernel
theorem dX12_isFull_6 : decode cX12_isFull 6 = .ok (.bipush 8, 2) := by decide +kernel
theorem dX12_isFull_8 : decode cX12_isFull 8 = .ok (.if_icmp .ge 12, 3) := by decide +kernel
theorem dX12_isFull_11 : decode cX12_isFull 11 = .ok (.aload_n 0, 1) := by decide +kernel
theorem dX12_isFull_12 : decode cX12_isFull 12 = .ok (.invokevirtual 149, 3) := by decide +kernel
theorem dX12_isFull_15 : decode cX12_isFull 15 = .ok (.bipush 16, 2) := by decide +kernel
theorem dX12_isFull_17 : decode cX12_isFull 17 = .ok (.if_icmp .lt 7, 3) := by decide +kernel
theorem dX12_isFull_24 : decode cX12_isFull 24 = .ok (.iconst 0, 1) := by decide +kernel
theorem dX12_isFull_25 : decode cX12_isFull 25 = .ok (.ireturn, 1) := by decide +kernel
theorem dX12_gather_0 : decode cX12_gather 0 = .ok (.aload_n 1, 1) := by decide +kernel
theorem dX12_gather_1 : decode cX12_gather 1 = .ok (.invokevirtual 172, 3) := by decide +kernel
theorem dX12_gather_4 : decode cX12_gather 4 = .ok (.iconst 0, 1) := by decide +kernel
theorem dX12_gather_5 : decode cX12_gather 5 = .ok (.istore_n 3, 1) := by decide +kernel
theorem dX12_gather_6 : decode cX12_gather 6 = .ok (.iload_n 3, 1) := by decide +kernel
theorem dX12_gather_7 : decode cX12_gather 7 = .ok (.iconst 5, 1) := by decide +kernel
theorem dX12_gather_8 : decode cX12_gather 8 = .ok (.if_icmp .ge 21, 3) := by decide +kernel
theorem dX12_gather_11 : decode cX12_gather 11 = .ok (.aload_n 1, 1) := by decide +kernel
theorem dX12_gather_12 : decode cX12_gather 12 = .ok (.aload_n 0, 1) := by decide +kernel
theorem dX12_gather_13 : decode cX12_gather 13 = .ok (.iload_n 3, 1) := by decide +kernel
theorem dX12_gather_14 : decode cX12_gather 14 = .ok (.aload_n 2, 1) := by decide +kernel
theorem dX12_gather_15 : decode cX12_gather 15 = .ok (.iload_n 3, 1) := by decide +kernel
theorem dX12_gather_16 : decode cX12_gather 16 = .ok (.iaload, 1) := by decide +kernel
theorem dX12_gather_17 : decode cX12_gather 17 = .ok (.invokevirtual 139, 3) := by decide +kernel
theorem dX12_gather_20 : decode cX12_gather 20 = .ok (.invokevirtual 174, 3) := by decide +kernel
theorem dX12_gather_23 : decode cX12_gather 23 = .ok (.iinc 3 1, 3) := by decide +kernel
theorem dX12_gather_26 : decode cX12_gather 26 = .ok (.goto (-20), 3) := by decide +kernel
theorem dX12_gather_29 : decode cX12_gather 29 = .ok (.aload_n 1, 1) := by decide +kernel
theorem dX12_gather_30 : decode cX12_gather 30 = .ok (.invokevirtual 178, 3) := by decide +kernel
theorem dX12_gather_33 : decode cX12_gather 33 = .ok (.return_, 1) := by decide +kernel
theorem dX12_make_0 : decode cX12_make 0 = .ok (.iload_n 1, 1) := by decide +kernel
theorem dX12_make_1 : decode cX12_make 1 = .ok (.invokestatic 181, 3) := by decide +kernel
theorem dX12_make_4 : decode cX12_make 4 = .ok (.ifCond .ne 5, 3) := by decide +kernel
theorem dX12_make_7 : decode cX12_make 7 = .ok (.iconst (-1), 1) := by decide +kernel
theorem dX12_make_8 : decode cX12_make 8 = .ok (.ireturn, 1) := by decide +kernel
theorem dX12_make_9 : decode cX12_make 9 = .ok (.aload_n 0, 1) := by decide +kernel
theorem dX12_make_10 : decode cX12_make 10 = .ok (.iload_n 1, 1) := by decide +kernel
theorem dX12_make_11 : decode cX12_make 11 = .ok (.invokevirtual 185, 3) := by decide +kernel
theorem dX12_make_14 : decode cX12_make 14 = .ok (.ifCond .eq 6, 3) := by decide +kernel
theorem dX12_make_20 : decode cX12_make 20 = .ok (.aload_n 0, 1) := by decide +kernel
theorem dX12_make_21 : decode cX12_make 21 = .ok (.getfield 120, 3) := by decide +kernel
theorem dX12_make_24 : decode cX12_make 24 = .ok (.istore_n 2, 1) := by decide +kernel
theorem dX12_make_25 : decode cX12_make 25 = .ok (.aload_n 0, 1) := by decide +kernel
theorem dX12_make_26 : decode cX12_make 26 = .ok (.iconst 0, 1) := by decide +kernel
theorem dX12_make_27 : decode cX12_make 27 = .ok (.putfield 120, 3) := by decide +kernel
theorem dX12_make_30 : decode cX12_make 30 = .ok (.aload_n 0, 1) := by decide +kernel
theorem dX12_make_31 : decode cX12_make 31 = .ok (.invokevirtual 126, 3) := by decide +kernel
theorem dX12_make_34 : decode cX12_make 34 = .ok (.astore_n 3, 1) := by decide +kernel
theorem dX12_make_35 : decode cX12_make 35 = .ok (.aload_n 0, 1) := by decide +kernel
theorem dX12_make_36 : decode cX12_make 36 = .ok (.getfield 35, 3) := by decide +kernel
theorem dX12_make_39 : decode cX12_make 39 = .ok (.aload_n 3, 1) := by decide +kernel
theorem dX12_make_40 : decode cX12_make 40 = .ok (.aload_n 0, 1) := by decide +kernel
theorem dX12_make_41 : decode cX12_make 41 = .ok (.getfield 9, 3) := by decide +kernel
theorem dX12_make_44 : decode cX12_make 44 = .ok (.iload_n 2, 1) := by decide +kernel
theorem dX12_make_45 : decode cX12_make 45 = .ok (.invokevirtual 188, 3) := by decide +kernel
theorem dX12_make_48 : decode cX12_make 48 = .ok (.ifCond .ne 22, 3) := by decide +kernel
theorem dX12_make_70 : decode cX12_make 70 = .ok (.aload_n 0, 1) := by decide +kernel
theorem dX12_make_71 : decode cX12_make 71 = .ok (.getfield 71, 3) := by decide +kernel
theorem dX12_make_74 : decode cX12_make 74 = .ok (.invokevirtual 172, 3) := by decide +kernel
theorem dX12_make_77 : decode cX12_make 77 = .ok (.aload_n 0, 1) := by decide +kernel
theorem dX12_make_78 : decode cX12_make 78 = .ok (.getfield 71, 3) := by decide +kernel
theorem dX12_make_81 : decode cX12_make 81 = .ok (.aload_n 3, 1) := by decide +kernel
theorem dX12_make_82 : decode cX12_make 82 = .ok (.invokevirtual 174, 3) := by decide +kernel
theorem dX12_make_85 : decode cX12_make 85 = .ok (.iconst 0, 1) := by decide +kernel
theorem dX12_make_86 : decode cX12_make 86 = .ok (.istore 4, 2) := by decide +kernel
theorem dX12_make_88 : decode cX12_make 88 = .ok (.iload 4, 2) := by decide +kernel
theorem dX12_make_90 : decode cX12_make 90 = .ok (.iconst 5, 1) := by decide +kernel
theorem dX12_make_91 : decode cX12_make 91 = .ok (.if_icmp .ge 39, 3) := by decide +kernel
theorem dX12_make_94 : decode cX12_make 94 = .ok (.aload_n 0, 1) := by decide +kernel
theorem dX12_make_95 : decode cX12_make 95 = .ok (.getfield 71, 3) := by decide +kernel
theorem dX12_make_98 : decode cX12_make 98 = .ok (.iload 4, 2) := by decide +kernel
theorem dX12_make_100 : decode cX12_make 100 = .ok (.iload_n 1, 1) := by decide +kernel
theorem dX12_make_101 : decode cX12_make 101 = .ok (.if_icmp .ne 7, 3) := by decide +kernel
theorem dX12_make_104 : decode cX12_make 104 = .ok (.aconst_null, 1) := by decide +kernel
theorem dX12_make_105 : decode cX12_make 105 = .ok (.goto 16, 3) := by decide +kernel
theorem dX12_make_108 : decode cX12_make 108 = .ok (.aload_n 0, 1) := by decide +kernel
theorem dX12_make_109 : decode cX12_make 109 = .ok (.iload 4, 2) := by decide +kernel
theorem dX12_make_111 : decode cX12_make 111 = .ok (.aload_n 0, 1) := by decide +kernel
theorem dX12_make_112 : decode cX12_make 112 = .ok (.getfield 26, 3) := by decide +kernel
theorem dX12_make_115 : decode cX12_make 115 = .ok (.iload 4, 2) := by decide +kernel
theorem dX12_make_117 : decode cX12_make 117 = .ok (.iaload, 1) := by decide +kernel
theorem dX12_make_118 : decode cX12_make 118 = .ok (.invokevirtual 139, 3) := by decide +kernel
theorem dX12_make_121 : decode cX12_make 121 = .ok (.invokevirtual 174, 3) := by decide +kernel
theorem dX12_make_124 : decode cX12_make 124 = .ok (.iinc 4 1, 3) := by decide +kernel
theorem dX12_make_127 : decode cX12_make 127 = .ok (.goto (-39), 3) := by decide +kernel
theorem dX12_make_130 : decode cX12_make 130 = .ok (.aload_n 0, 1) := by decide +kernel
theorem dX12_make_131 : decode cX12_make 131 = .ok (.getfield 71, 3) := by decide +kernel
theorem dX12_make_134 : decode cX12_make 134 = .ok (.invokevirtual 178, 3) := by decide +kernel
theorem dX12_make_137 : decode cX12_make 137 = .ok (.aload_n 0, 1) := by decide +kernel
theorem dX12_make_138 : decode cX12_make 138 = .ok (.getfield 42, 3) := by decide +kernel
theorem dX12_make_141 : decode cX12_make 141 = .ok (.aload_n 0, 1) := by decide +kernel
theorem dX12_make_142 : decode cX12_make 142 = .ok (.getfield 71, 3) := by decide +kernel
theorem dX12_make_145 : decode cX12_make 145 = .ok (.aload_n 3, 1) := by decide +kernel
theorem dX12_make_146 : decode cX12_make 146 = .ok (.invokevirtual 201, 3) := by decide +kernel
theorem dX12_make_149 : decode cX12_make 149 = .ok (.ifCond .ne 22, 3) := by decide +kernel
theorem dX12_make_171 : decode cX12_make 171 = .ok (.aload_n 0, 1) := by decide +kernel
theorem dX12_make_172 : decode cX12_make 172 = .ok (.getfield 49, 3) := by decide +kernel
theorem dX12_make_175 : decode cX12_make 175 = .ok (.aload_n 0, 1) := by decide +kernel
theorem dX12_make_176 : decode cX12_make 176 = .ok (.getfield 71, 3) := by decide +kernel
theorem dX12_make_179 : decode cX12_make 179 = .ok (.aload_n 3, 1) := by decide +kernel
theorem dX12_make_180 : decode cX12_make 180 = .ok (.aload_n 0, 1) := by decide +kernel
theorem dX12_make_181 : decode cX12_make 181 = .ok (.getfield 35, 3) := by decide +kernel
theorem dX12_make_184 : decode cX12_make 184 = .ok (.invokevirtual 206, 3) := by decide +kernel
theorem dX12_make_187 : decode cX12_make 187 = .ok (.ifCond .ne 22, 3) := by decide +kernel
theorem dX12_make_209 : decode cX12_make 209 = .ok (.aload_n 0, 1) := by decide +kernel
theorem dX12_make_210 : decode cX12_make 210 = .ok (.getfield 56, 3) := by decide +kernel
theorem dX12_make_213 : decode cX12_make 213 = .ok (.aload_n 0, 1) := by decide +kernel
theorem dX12_make_214 : decode cX12_make 214 = .ok (.getfield 71, 3) := by decide +kernel
theorem dX12_make_217 : decode cX12_make 217 = .ok (.aload_n 3, 1) := by decide +kernel
theorem dX12_make_218 : decode cX12_make 218 = .ok (.invokevirtual 211, 3) := by decide +kernel
theorem dX12_make_221 : decode cX12_make 221 = .ok (.aload_n 0, 1) := by decide +kernel
theorem dX12_make_222 : decode cX12_make 222 = .ok (.getfield 35, 3) := by decide +kernel
theorem dX12_make_225 : decode cX12_make 225 = .ok (.invokevirtual 215, 3) := by decide +kernel
theorem dX12_make_228 : decode cX12_make 228 = .ok (.aload_n 0, 1) := by decide +kernel
theorem dX12_make_229 : decode cX12_make 229 = .ok (.bipush (-2), 2) := by decide +kernel
theorem dX12_make_231 : decode cX12_make 231 = .ok (.putfield 60, 3) := by decide +kernel
theorem dX12_make_234 : decode cX12_make 234 = .ok (.aload_n 0, 1) := by decide +kernel
theorem dX12_make_235 : decode cX12_make 235 = .ok (.aload_n 3, 1) := by decide +kernel
theorem dX12_make_236 : decode cX12_make 236 = .ok (.iload_n 1, 1) := by decide +kernel
theorem dX12_make_237 : decode cX12_make 237 = .ok (.invokevirtual 218, 3) := by decide +kernel
theorem dX12_make_240 : decode cX12_make 240 = .ok (.ireturn, 1) := by decide +kernel
theorem dX12_keep_0 : decode cX12_keep 0 = .ok (.aload_n 1, 1) := by decide +kernel
theorem dX12_keep_1 : decode cX12_keep 1 = .ok (.iload_n 2, 1) := by decide +kernel
theorem dX12_keep_2 : decode cX12_keep 2 = .ok (.putfield 153, 3) := by decide +kernel
theorem dX12_keep_5 : decode cX12_keep 5 = .ok (.aload_n 1, 1) := by decide +kernel
theorem dX12_keep_6 : decode cX12_keep 6 = .ok (.aload_n 0, 1) := by decide +kernel
theorem dX12_keep_7 : decode cX12_keep 7 = .ok (.getfield 22, 3) := by decide +kernel
theorem dX12_keep_10 : decode cX12_keep 10 = .ok (.iload_n 2, 1) := by decide +kernel
theorem dX12_keep_11 : decode cX12_keep 11 = .ok (.iaload, 1) := by decide +kernel
theorem dX12_keep_12 : decode cX12_keep 12 = .ok (.putfield 156, 3) := by decide +kernel
theorem dX12_keep_15 : decode cX12_keep 15 = .ok (.aload_n 0, 1) := by decide +kernel
theorem dX12_keep_16 : decode cX12_keep 16 = .ok (.getfield 22, 3) := by decide +kernel
theorem dX12_keep_19 : decode cX12_keep 19 = .ok (.iload_n 2, 1) := by decide +kernel
theorem dX12_keep_20 : decode cX12_keep 20 = .ok (.dup2, 1) := by decide +kernel
theorem dX12_keep_21 : decode cX12_keep 21 = .ok (.iaload, 1) := by decide +kernel
theorem dX12_keep_22 : decode cX12_keep 22 = .ok (.iconst 1, 1) := by decide +kernel
theorem dX12_keep_23 : decode cX12_keep 23 = .ok (.iadd, 1) := by decide +kernel
theorem dX12_keep_24 : decode cX12_keep 24 = .ok (.iastore, 1) := by decide +kernel
theorem dX12_keep_25 : decode cX12_keep 25 = .ok (.aload_n 1, 1) := by decide +kernel
theorem dX12_keep_26 : decode cX12_keep 26 = .ok (.getfield 156, 3) := by decide +kernel
theorem dX12_keep_29 : decode cX12_keep 29 = .ok (.ireturn, 1) := by decide +kernel
theorem dX12_place_0 : decode cX12_place 0 = .ok (.aload_n 0, 1) := by decide +kernel
theorem dX12_place_1 : decode cX12_place 1 = .ok (.getfield 60, 3) := by decide +kernel
theorem dX12_place_4 : decode cX12_place 4 = .ok (.ireturn, 1) := by decide +kernel
theorem dX12_builds_0 : decode cX12_builds 0 = .ok (.iload_n 1, 1) := by decide +kernel
theorem dX12_builds_1 : decode cX12_builds 1 = .ok (.invokestatic 181, 3) := by decide +kernel
theorem dX12_builds_4 : decode cX12_builds 4 = .ok (.ifCond .eq 12, 3) := by decide +kernel
theorem dX12_builds_7 : decode cX12_builds 7 = .ok (.aload_n 0, 1) := by decide +kernel
theorem dX12_builds_8 : decode cX12_builds 8 = .ok (.getfield 22, 3) := by decide +kernel
theorem dX12_builds_11 : decode cX12_builds 11 = .ok (.iload_n 1, 1) := by decide +kernel
theorem dX12_builds_12 : decode cX12_builds 12 = .ok (.iaload, 1) := by decide +kernel
theorem dX12_builds_13 : decode cX12_builds 13 = .ok (.goto 4, 3) := by decide +kernel
theorem dX12_builds_16 : decode cX12_builds 16 = .ok (.iconst (-1), 1) := by decide +kernel
theorem dX12_builds_17 : decode cX12_builds 17 = .ok (.ireturn, 1) := by decide +kernel
theorem dX12_pick_0 : decode cX12_pick 0 = .ok (.iload_n 1, 1) := by decide +kernel
theorem dX12_pick_1 : decode cX12_pick 1 = .ok (.invokestatic 181, 3) := by decide +kernel
theorem dX12_pick_4 : decode cX12_pick 4 = .ok (.ifCond .eq 18, 3) := by decide +kernel
theorem dX12_pick_7 : decode cX12_pick 7 = .ok (.iload_n 2, 1) := by decide +kernel
theorem dX12_pick_8 : decode cX12_pick 8 = .ok (.bipush (-2), 2) := by decide +kernel
theorem dX12_pick_10 : decode cX12_pick 10 = .ok (.if_icmp .eq 14, 3) := by decide +kernel
theorem dX12_pick_13 : decode cX12_pick 13 = .ok (.aload_n 0, 1) := by decide +kernel
theorem dX12_pick_14 : decode cX12_pick 14 = .ok (.iload_n 1, 1) := by decide +kernel
theorem dX12_pick_15 : decode cX12_pick 15 = .ok (.iload_n 2, 1) := by decide +kernel
theorem dX12_pick_16 : decode cX12_pick 16 = .ok (.invokevirtual 139, 3) := by decide +kernel
theorem dX12_pick_19 : decode cX12_pick 19 = .ok (.ifnonnull 5, 3) := by decide +kernel
theorem dX12_pick_22 : decode cX12_pick 22 = .ok (.iconst (-1), 1) := by decide +kernel
theorem dX12_pick_23 : decode cX12_pick 23 = .ok (.ireturn, 1) := by decide +kernel
theorem dX12_pick_24 : decode cX12_pick 24 = .ok (.aload_n 0, 1) := by decide +kernel
theorem dX12_pick_25 : decode cX12_pick 25 = .ok (.getfield 26, 3) := by decide +kernel
theorem dX12_pick_28 : decode cX12_pick 28 = .ok (.iload_n 1, 1) := by decide +kernel
theorem dX12_pick_29 : decode cX12_pick 29 = .ok (.iaload, 1) := by decide +kernel
theorem dX12_pick_30 : decode cX12_pick 30 = .ok (.istore_n 3, 1) := by decide +kernel
theorem dX12_pick_31 : decode cX12_pick 31 = .ok (.aload_n 0, 1) := by decide +kernel
theorem dX12_pick_32 : decode cX12_pick 32 = .ok (.getfield 26, 3) := by decide +kernel
theorem dX12_pick_35 : decode cX12_pick 35 = .ok (.iload_n 1, 1) := by decide +kernel
theorem dX12_pick_36 : decode cX12_pick 36 = .ok (.iload_n 2, 1) := by decide +kernel
theorem dX12_pick_37 : decode cX12_pick 37 = .ok (.iastore, 1) := by decide +kernel
theorem dX12_pick_38 : decode cX12_pick 38 = .ok (.aload_n 0, 1) := by decide +kernel
theorem dX12_pick_39 : decode cX12_pick 39 = .ok (.invokevirtual 224, 3) := by decide +kernel
theorem dX12_pick_42 : decode cX12_pick 42 = .ok (.iload_n 3, 1) := by decide +kernel
theorem dX12_pick_43 : decode cX12_pick 43 = .ok (.ireturn, 1) := by decide +kernel
theorem dX12_renewWorld_0 : decode cX12_renewWorld 0 = .ok (.aload_n 0, 1) := by decide +kernel
theorem dX12_renewWorld_1 : decode cX12_renewWorld 1 = .ok (.aload_n 0, 1) := by decide +kernel
theorem dX12_renewWorld_2 : decode cX12_renewWorld 2 = .ok (.getfield 67, 3) := by decide +kernel
theorem dX12_renewWorld_5 : decode cX12_renewWorld 5 = .ok (.aload_n 0, 1) := by decide +kernel
theorem dX12_renewWorld_6 : decode cX12_renewWorld 6 = .ok (.getfield 26, 3) := by decide +kernel
theorem dX12_renewWorld_9 : decode cX12_renewWorld 9 = .ok (.invokevirtual 112, 3) := by decide +kernel
theorem dX12_renewWorld_12 : decode cX12_renewWorld 12 = .ok (.aload_n 0, 1) := by decide +kernel
theorem dX12_renewWorld_13 : decode cX12_renewWorld 13 = .ok (.getfield 99, 3) := by decide +kernel
theorem dX12_renewWorld_16 : decode cX12_renewWorld 16 = .ok (.aload_n 0, 1) := by decide +kernel
theorem dX12_renewWorld_17 : decode cX12_renewWorld 17 = .ok (.getfield 67, 3) := by decide +kernel
theorem dX12_renewWorld_20 : decode cX12_renewWorld 20 = .ok (.invokevirtual 116, 3) := by decide +kernel
theorem dX12_renewWorld_23 : decode cX12_renewWorld 23 = .ok (.aload_n 0, 1) := by decide +kernel
theorem dX12_renewWorld_24 : decode cX12_renewWorld 24 = .ok (.iconst 0, 1) := by decide +kernel
theorem dX12_renewWorld_25 : decode cX12_renewWorld 25 = .ok (.putfield 227, 3) := by decide +kernel
theorem dX12_renewWorld_28 : decode cX12_renewWorld 28 = .ok (.return_, 1) := by decide +kernel
theorem dX12_picked_0 : decode cX12_picked 0 = .ok (.iload_n 1, 1) := by decide +kernel
theorem dX12_picked_1 : decode cX12_picked 1 = .ok (.invokestatic 181, 3) := by decide +kernel
theorem dX12_picked_4 : decode cX12_picked 4 = .ok (.ifCond .eq 12, 3) := by decide +kernel
theorem dX12_picked_7 : decode cX12_picked 7 = .ok (.aload_n 0, 1) := by decide +kernel
theorem dX12_picked_8 : decode cX12_picked 8 = .ok (.getfield 26, 3) := by decide +kernel
theorem dX12_picked_11 : decode cX12_picked 11 = .ok (.iload_n 1, 1) := by decide +kernel
theorem dX12_picked_12 : decode cX12_picked 12 = .ok (.iaload, 1) := by decide +kernel
theorem dX12_picked_13 : decode cX12_picked 13 = .ok (.goto 4, 3) := by decide +kernel
theorem dX12_picked_16 : decode cX12_picked 16 = .ok (.iconst (-1), 1) := by decide +kernel
theorem dX12_picked_17 : decode cX12_picked 17 = .ok (.ireturn, 1) := by decide +kernel
theorem dX12_classes_0 : decode cX12_classes 0 = .ok (.aload_n 0, 1) := by decide +kernel
theorem dX12_classes_1 : decode cX12_classes 1 = .ok (.iload_n 1, 1) := by decide +kernel
theorem dX12_classes_2 : decode cX12_classes 2 = .ok (.iload_n 2, 1) := by decide +kernel
theorem dX12_classes_3 : decode cX12_classes 3 = .ok (.invokevirtual 139, 3) := by decide +kernel
theorem dX12_classes_6 : decode cX12_classes 6 = .ok (.astore_n 3, 1) := by decide +kernel
theorem dX12_classes_7 : decode cX12_classes 7 = .ok (.aload_n 3, 1) := by decide +kernel
theorem dX12_classes_8 : decode cX12_classes 8 = .ok (.ifnonnull 7, 3) := by decide +kernel
theorem dX12_classes_11 : decode cX12_classes 11 = .ok (.iconst (-1), 1) := by decide +kernel
theorem dX12_classes_12 : decode cX12_classes 12 = .ok (.goto 7, 3) := by decide +kernel
theorem dX12_classes_19 : decode cX12_classes 19 = .ok (.ireturn, 1) := by decide +kernel
theorem dX12_members_0 : decode cX12_members 0 = .ok (.aload_n 0, 1) := by decide +kernel
theorem dX12_members_1 : decode cX12_members 1 = .ok (.iload_n 1, 1) := by decide +kernel
theorem dX12_members_2 : decode cX12_members 2 = .ok (.iload_n 2, 1) := by decide +kernel
theorem dX12_members_3 : decode cX12_members 3 = .ok (.iload_n 3, 1) := by decide +kernel
theorem dX12_members_4 : decode cX12_members 4 = .ok (.invokevirtual 230, 3) := by decide +kernel
theorem dX12_members_7 : decode cX12_members 7 = .ok (.astore 4, 2) := by decide +kernel
theorem dX12_members_9 : decode cX12_members 9 = .ok (.aload 4, 2) := by decide +kernel
theorem dX12_members_11 : decode cX12_members 11 = .ok (.ifnonnull 7, 3) := by decide +kernel
theorem dX12_members_14 : decode cX12_members 14 = .ok (.iconst (-1), 1) := by decide +kernel
theorem dX12_members_15 : decode cX12_members 15 = .ok (.goto 8, 3) := by decide +kernel
theorem dX12_members_23 : decode cX12_members 23 = .ok (.ireturn, 1) := by decide +kernel
theorem dX12_shape_0 : decode cX12_shape 0 = .ok (.aload_n 0, 1) := by decide +kernel
theorem dX12_shape_1 : decode cX12_shape 1 = .ok (.iload_n 1, 1) := by decide +kernel
theorem dX12_shape_2 : decode cX12_shape 2 = .ok (.iload_n 2, 1) := by decide +kernel
theorem dX12_shape_3 : decode cX12_shape 3 = .ok (.iload_n 3, 1) := by decide +kernel
theorem dX12_shape_4 : decode cX12_shape 4 = .ok (.invokevirtual 230, 3) := by decide +kernel
theorem dX12_shape_7 : decode cX12_shape 7 = .ok (.astore 5, 2) := by decide +kernel
theorem dX12_shape_9 : decode cX12_shape 9 = .ok (.aload 5, 2) := by decide +kernel
theorem dX12_shape_11 : decode cX12_shape 11 = .ok (.ifnull 25, 3) := by decide +kernel
theorem dX12_shape_36 : decode cX12_shape 36 = .ok (.iconst (-1), 1) := by decide +kernel
theorem dX12_shape_37 : decode cX12_shape 37 = .ok (.ireturn, 1) := by decide +kernel
theorem dX12_tellByte_0 : decode cX12_tellByte 0 = .ok (.aload_n 0, 1) := by decide +kernel
theorem dX12_tellByte_1 : decode cX12_tellByte 1 = .ok (.getfield 146, 3) := by decide +kernel
theorem dX12_tellByte_4 : decode cX12_tellByte 4 = .ok (.sipush 600, 3) := by decide +kernel
theorem dX12_tellByte_7 : decode cX12_tellByte 7 = .ok (.if_icmp .ge 24, 3) := by decide +kernel
theorem dX12_tellByte_10 : decode cX12_tellByte 10 = .ok (.aload_n 0, 1) := by decide +kernel
theorem dX12_tellByte_11 : decode cX12_tellByte 11 = .ok (.getfield 13, 3) := by decide +kernel
theorem dX12_tellByte_14 : decode cX12_tellByte 14 = .ok (.aload_n 0, 1) := by decide +kernel
theorem dX12_tellByte_15 : decode cX12_tellByte 15 = .ok (.getfield 146, 3) := by decide +kernel
theorem dX12_tellByte_18 : decode cX12_tellByte 18 = .ok (.iload_n 1, 1) := by decide +kernel
theorem dX12_tellByte_19 : decode cX12_tellByte 19 = .ok (.i2b, 1) := by decide +kernel
theorem dX12_tellByte_20 : decode cX12_tellByte 20 = .ok (.bastore, 1) := by decide +kernel
theorem dX12_tellByte_21 : decode cX12_tellByte 21 = .ok (.aload_n 0, 1) := by decide +kernel
theorem dX12_tellByte_22 : decode cX12_tellByte 22 = .ok (.dup, 1) := by decide +kernel
theorem dX12_tellByte_23 : decode cX12_tellByte 23 = .ok (.getfield 146, 3) := by decide +kernel
theorem dX12_tellByte_26 : decode cX12_tellByte 26 = .ok (.iconst 1, 1) := by decide +kernel
theorem dX12_tellByte_27 : decode cX12_tellByte 27 = .ok (.iadd, 1) := by decide +kernel
theorem dX12_tellByte_28 : decode cX12_tellByte 28 = .ok (.putfield 146, 3) := by decide +kernel
theorem dX12_tellByte_31 : decode cX12_tellByte 31 = .ok (.return_, 1) := by decide +kernel
theorem dX12_tellType_0 : decode cX12_tellType 0 = .ok (.lload_n 1, 1) := by decide +kernel
theorem dX12_tellType_1 : decode cX12_tellType 1 = .ok (.ldc2_w 384, 3) := by decide +kernel
theorem dX12_tellType_4 : decode cX12_tellType 4 = .ok (.lcmp, 1) := by decide +kernel
theorem dX12_tellType_5 : decode cX12_tellType 5 = .ok (.ifCond .eq 11, 3) := by decide +kernel
theorem dX12_tellType_8 : decode cX12_tellType 8 = .ok (.lload_n 1, 1) := by decide +kernel
theorem dX12_tellType_9 : decode cX12_tellType 9 = .ok (.ldc2_w 386, 3) := by decide +kernel
theorem dX12_tellType_12 : decode cX12_tellType 12 = .ok (.lcmp, 1) := by decide +kernel
theorem dX12_tellType_13 : decode cX12_tellType 13 = .ok (.ifCond .ne 25, 3) := by decide +kernel
theorem dX12_tellType_38 : decode cX12_tellType 38 = .ok (.aload_n 0, 1) := by decide +kernel
theorem dX12_tellType_39 : decode cX12_tellType 39 = .ok (.bipush 97, 2) := by decide +kernel
theorem dX12_tellType_41 : decode cX12_tellType 41 = .ok (.lload_n 1, 1) := by decide +kernel
theorem dX12_tellType_42 : decode cX12_tellType 42 = .ok (.bipush 59, 2) := by decide +kernel
theorem dX12_tellType_44 : decode cX12_tellType 44 = .ok (.lushr, 1) := by decide +kernel
theorem dX12_tellType_45 : decode cX12_tellType 45 = .ok (.l2i, 1) := by decide +kernel
theorem dX12_tellType_46 : decode cX12_tellType 46 = .ok (.iadd, 1) := by decide +kernel
theorem dX12_tellType_47 : decode cX12_tellType 47 = .ok (.invokevirtual 379, 3) := by decide +kernel
theorem dX12_tellType_50 : decode cX12_tellType 50 = .ok (.aload_n 0, 1) := by decide +kernel
theorem dX12_tellType_51 : decode cX12_tellType 51 = .ok (.bipush 46, 2) := by decide +kernel
theorem dX12_tellType_53 : decode cX12_tellType 53 = .ok (.invokevirtual 379, 3) := by decide +kernel
theorem dX12_tellType_56 : decode cX12_tellType 56 = .ok (.aload_n 0, 1) := by decide +kernel
theorem dX12_tellType_57 : decode cX12_tellType 57 = .ok (.bipush 65, 2) := by decide +kernel
theorem dX12_tellType_59 : decode cX12_tellType 59 = .ok (.lload_n 1, 1) := by decide +kernel
theorem dX12_tellType_60 : decode cX12_tellType 60 = .ok (.bipush 54, 2) := by decide +kernel
theorem dX12_tellType_62 : decode cX12_tellType 62 = .ok (.lushr, 1) := by decide +kernel
theorem dX12_tellType_63 : decode cX12_tellType 63 = .ok (.ldc2_w 392, 3) := by decide +kernel
theorem dX12_tellType_66 : decode cX12_tellType 66 = .ok (.land, 1) := by decide +kernel
theorem dX12_tellType_67 : decode cX12_tellType 67 = .ok (.l2i, 1) := by decide +kernel
theorem dX12_tellType_68 : decode cX12_tellType 68 = .ok (.iadd, 1) := by decide +kernel
theorem dX12_tellType_69 : decode cX12_tellType 69 = .ok (.invokevirtual 379, 3) := by decide +kernel
theorem dX12_tellType_72 : decode cX12_tellType 72 = .ok (.aload_n 0, 1) := by decide +kernel
theorem dX12_tellType_73 : decode cX12_tellType 73 = .ok (.lload_n 1, 1) := by decide +kernel
theorem dX12_tellType_74 : decode cX12_tellType 74 = .ok (.invokevirtual 394, 3) := by decide +kernel
theorem dX12_tellType_77 : decode cX12_tellType 77 = .ok (.return_, 1) := by decide +kernel
theorem dX12_tellLetters_0 : decode cX12_tellLetters 0 = .ok (.bipush 48, 2) := by decide +kernel
theorem dX12_tellLetters_2 : decode cX12_tellLetters 2 = .ok (.istore_n 3, 1) := by decide +kernel
theorem dX12_tellLetters_3 : decode cX12_tellLetters 3 = .ok (.iload_n 3, 1) := by decide +kernel
theorem dX12_tellLetters_4 : decode cX12_tellLetters 4 = .ok (.ifCond .lt 71, 3) := by decide +kernel
theorem dX12_tellLetters_7 : decode cX12_tellLetters 7 = .ok (.lload_n 1, 1) := by decide +kernel
theorem dX12_tellLetters_8 : decode cX12_tellLetters 8 = .ok (.iload_n 3, 1) := by decide +kernel
theorem dX12_tellLetters_9 : decode cX12_tellLetters 9 = .ok (.lushr, 1) := by decide +kernel
theorem dX12_tellLetters_10 : decode cX12_tellLetters 10 = .ok (.ldc2_w 397, 3) := by decide +kernel
theorem dX12_tellLetters_13 : decode cX12_tellLetters 13 = .ok (.land, 1) := by decide +kernel
theorem dX12_tellLetters_14 : decode cX12_tellLetters 14 = .ok (.l2i, 1) := by decide +kernel
theorem dX12_tellLetters_15 : decode cX12_tellLetters 15 = .ok (.istore 4, 2) := by decide +kernel
theorem dX12_tellLetters_17 : decode cX12_tellLetters 17 = .ok (.iload 4, 2) := by decide +kernel
theorem dX12_tellLetters_19 : decode cX12_tellLetters 19 = .ok (.ifCond .le 50, 3) := by decide +kernel
theorem dX12_tellLetters_22 : decode cX12_tellLetters 22 = .ok (.aload_n 0, 1) := by decide +kernel
theorem dX12_tellLetters_23 : decode cX12_tellLetters 23 = .ok (.iload 4, 2) := by decide +kernel
theorem dX12_tellLetters_25 : decode cX12_tellLetters 25 = .ok (.bipush 26, 2) := by decide +kernel
theorem dX12_tellLetters_27 : decode cX12_tellLetters 27 = .ok (.if_icmp .gt 13, 3) := by decide +kernel
theorem dX12_tellLetters_30 : decode cX12_tellLetters 30 = .ok (.bipush 97, 2) := by decide +kernel
theorem dX12_tellLetters_32 : decode cX12_tellLetters 32 = .ok (.iload 4, 2) := by decide +kernel
theorem dX12_tellLetters_34 : decode cX12_tellLetters 34 = .ok (.iadd, 1) := by decide +kernel
theorem dX12_tellLetters_35 : decode cX12_tellLetters 35 = .ok (.iconst 1, 1) := by decide +kernel
theorem dX12_tellLetters_36 : decode cX12_tellLetters 36 = .ok (.isub, 1) := by decide +kernel
theorem dX12_tellLetters_37 : decode cX12_tellLetters 37 = .ok (.goto 29, 3) := by decide +kernel
theorem dX12_tellLetters_66 : decode cX12_tellLetters 66 = .ok (.invokevirtual 379, 3) := by decide +kernel
theorem dX12_tellLetters_69 : decode cX12_tellLetters 69 = .ok (.iinc 3 (-6), 3) := by decide +kernel
theorem dX12_tellLetters_72 : decode cX12_tellLetters 72 = .ok (.goto (-69), 3) := by decide +kernel
theorem dX12_tellLetters_75 : decode cX12_tellLetters 75 = .ok (.return_, 1) := by decide +kernel
theorem dX12_uses_0 : decode cX12_uses 0 = .ok (.aload_n 0, 1) := by decide +kernel
theorem dX12_uses_1 : decode cX12_uses 1 = .ok (.iload_n 1, 1) := by decide +kernel
theorem dX12_uses_2 : decode cX12_uses 2 = .ok (.iload_n 2, 1) := by decide +kernel
theorem dX12_uses_3 : decode cX12_uses 3 = .ok (.invokevirtual 139, 3) := by decide +kernel
theorem dX12_uses_6 : decode cX12_uses 6 = .ok (.astore_n 3, 1) := by decide +kernel
theorem dX12_uses_7 : decode cX12_uses 7 = .ok (.aload_n 3, 1) := by decide +kernel
theorem dX12_uses_8 : decode cX12_uses 8 = .ok (.ifnonnull 7, 3) := by decide +kernel
theorem dX12_uses_11 : decode cX12_uses 11 = .ok (.iconst (-1), 1) := by decide +kernel
theorem dX12_uses_12 : decode cX12_uses 12 = .ok (.goto 7, 3) := by decide +kernel
theorem dX12_uses_19 : decode cX12_uses 19 = .ok (.ireturn, 1) := by decide +kernel
theorem dX12_hasUse_0 : decode cX12_hasUse 0 = .ok (.aload_n 0, 1) := by decide +kernel
theorem dX12_hasUse_1 : decode cX12_hasUse 1 = .ok (.ifnull 19, 3) := by decide +kernel
theorem dX12_hasUse_20 : decode cX12_hasUse 20 = .ok (.iconst 0, 1) := by decide +kernel
theorem dX12_hasUse_21 : decode cX12_hasUse 21 = .ok (.ireturn, 1) := by decide +kernel
theorem dX12_use_0 : decode cX12_use 0 = .ok (.aload_n 0, 1) := by decide +kernel
theorem dX12_use_1 : decode cX12_use 1 = .ok (.iload_n 1, 1) := by decide +kernel
theorem dX12_use_2 : decode cX12_use 2 = .ok (.iload_n 2, 1) := by decide +kernel
theorem dX12_use_3 : decode cX12_use 3 = .ok (.invokevirtual 139, 3) := by decide +kernel
theorem dX12_use_6 : decode cX12_use 6 = .ok (.astore 5, 2) := by decide +kernel
theorem dX12_use_8 : decode cX12_use 8 = .ok (.aload 5, 2) := by decide +kernel
theorem dX12_use_10 : decode cX12_use 10 = .ok (.iload_n 3, 1) := by decide +kernel
theorem dX12_use_11 : decode cX12_use 11 = .ok (.invokestatic 417, 3) := by decide +kernel
theorem dX12_use_14 : decode cX12_use 14 = .ok (.ifCond .eq 14, 3) := by decide +kernel
theorem dX12_use_28 : decode cX12_use 28 = .ok (.iconst (-1), 1) := by decide +kernel
theorem dX12_use_29 : decode cX12_use 29 = .ok (.ireturn, 1) := by decide +kernel
theorem dX12_tell_0 : decode cX12_tell 0 = .ok (.aload_n 0, 1) := by decide +kernel
theorem dX12_tell_1 : decode cX12_tell 1 = .ok (.iload_n 1, 1) := by decide +kernel
theorem dX12_tell_2 : decode cX12_tell 2 = .ok (.iload_n 2, 1) := by decide +kernel
theorem dX12_tell_3 : decode cX12_tell 3 = .ok (.invokevirtual 139, 3) := by decide +kernel
theorem dX12_tell_6 : decode cX12_tell 6 = .ok (.astore 4, 2) := by decide +kernel
theorem dX12_tell_8 : decode cX12_tell 8 = .ok (.aload 4, 2) := by decide +kernel
theorem dX12_tell_10 : decode cX12_tell 10 = .ok (.iload_n 3, 1) := by decide +kernel
theorem dX12_tell_11 : decode cX12_tell 11 = .ok (.invokestatic 417, 3) := by decide +kernel
theorem dX12_tell_14 : decode cX12_tell 14 = .ok (.ifCond .ne 5, 3) := by decide +kernel
theorem dX12_tell_17 : decode cX12_tell 17 = .ok (.iconst (-1), 1) := by decide +kernel
theorem dX12_tell_18 : decode cX12_tell 18 = .ok (.ireturn, 1) := by decide +kernel
theorem dX12_meet_0 : decode cX12_meet 0 = .ok (.aload_n 0, 1) := by decide +kernel
theorem dX12_meet_1 : decode cX12_meet 1 = .ok (.iload_n 1, 1) := by decide +kernel
theorem dX12_meet_2 : decode cX12_meet 2 = .ok (.iload_n 2, 1) := by decide +kernel
theorem dX12_meet_3 : decode cX12_meet 3 = .ok (.invokevirtual 139, 3) := by decide +kernel
theorem dX12_meet_6 : decode cX12_meet 6 = .ok (.iload_n 3, 1) := by decide +kernel
theorem dX12_meet_7 : decode cX12_meet 7 = .ok (.invokestatic 417, 3) := by decide +kernel
theorem dX12_meet_10 : decode cX12_meet 10 = .ok (.ifCond .ne 5, 3) := by decide +kernel
theorem dX12_meet_13 : decode cX12_meet 13 = .ok (.iconst (-1), 1) := by decide +kernel
theorem dX12_meet_14 : decode cX12_meet 14 = .ok (.ireturn, 1) := by decide +kernel
theorem dX12_met_0 : decode cX12_met 0 = .ok (.aload_n 0, 1) := by decide +kernel
theorem dX12_met_1 : decode cX12_met 1 = .ok (.iconst 0, 1) := by decide +kernel
theorem dX12_met_2 : decode cX12_met 2 = .ok (.putfield 146, 3) := by decide +kernel
theorem dX12_met_5 : decode cX12_met 5 = .ok (.aload_n 0, 1) := by decide +kernel
theorem dX12_met_6 : decode cX12_met 6 = .ok (.getfield 79, 3) := by decide +kernel
theorem dX12_met_9 : decode cX12_met 9 = .ok (.getfield 460, 3) := by decide +kernel
theorem dX12_met_12 : decode cX12_met 12 = .ok (.ifnull 21, 3) := by decide +kernel
theorem dX12_met_33 : decode cX12_met 33 = .ok (.aload_n 0, 1) := by decide +kernel
theorem dX12_met_34 : decode cX12_met 34 = .ok (.getfield 146, 3) := by decide +kernel
theorem dX12_met_37 : decode cX12_met 37 = .ok (.ireturn, 1) := by decide +kernel
theorem dX12_looked_0 : decode cX12_looked 0 = .ok (.iload_n 1, 1) := by decide +kernel
theorem dX12_looked_1 : decode cX12_looked 1 = .ok (.ifCond .lt 14, 3) := by decide +kernel
theorem dX12_looked_4 : decode cX12_looked 4 = .ok (.iload_n 1, 1) := by decide +kernel
theorem dX12_looked_5 : decode cX12_looked 5 = .ok (.aload_n 0, 1) := by decide +kernel
theorem dX12_looked_6 : decode cX12_looked 6 = .ok (.getfield 79, 3) := by decide +kernel
theorem dX12_looked_9 : decode cX12_looked 9 = .ok (.getfield 467, 3) := by decide +kernel
theorem dX12_looked_12 : decode cX12_looked 12 = .ok (.if_icmp .lt 7, 3) := by decide +kernel
theorem dX12_looked_15 : decode cX12_looked 15 = .ok (.iconst (-1), 1) := by decide +kernel
theorem dX12_looked_16 : decode cX12_looked 16 = .ok (.goto 12, 3) := by decide +kernel
theorem dX12_looked_28 : decode cX12_looked 28 = .ok (.ireturn, 1) := by decide +kernel
theorem dX12_broken_0 : decode cX12_broken 0 = .ok (.aload_n 0, 1) := by decide +kernel
theorem dX12_broken_1 : decode cX12_broken 1 = .ok (.iconst 0, 1) := by decide +kernel
theorem dX12_broken_2 : decode cX12_broken 2 = .ok (.putfield 227, 3) := by decide +kernel
theorem dX12_broken_5 : decode cX12_broken 5 = .ok (.aload_n 0, 1) := by decide +kernel
theorem dX12_broken_6 : decode cX12_broken 6 = .ok (.aload_n 0, 1) := by decide +kernel
theorem dX12_broken_7 : decode cX12_broken 7 = .ok (.getfield 67, 3) := by decide +kernel
theorem dX12_broken_10 : decode cX12_broken 10 = .ok (.aload_n 0, 1) := by decide +kernel
theorem dX12_broken_11 : decode cX12_broken 11 = .ok (.getfield 26, 3) := by decide +kernel
theorem dX12_broken_14 : decode cX12_broken 14 = .ok (.iconst 1, 1) := by decide +kernel
theorem dX12_broken_15 : decode cX12_broken 15 = .ok (.invokevirtual 473, 3) := by decide +kernel
theorem dX12_broken_18 : decode cX12_broken 18 = .ok (.ireturn, 1) := by decide +kernel
theorem dX12_countBroken_0 : decode cX12_countBroken 0 = .ok (.iconst 0, 1) := by decide +kernel
theorem dX12_countBroken_1 : decode cX12_countBroken 1 = .ok (.istore 4, 2) := by decide +kernel
theorem dX12_countBroken_3 : decode cX12_countBroken 3 = .ok (.iconst 0, 1) := by decide +kernel
