theorem dX5_resolve_95 : decode cX5_resolve 95 = .ok (.invokevirtual 253, 3) := by decide +kernel
theorem dX5_resolve_98 : decode cX5_resolve 98 = .ok (.istore 4, 2) := by decide +kernel
theorem dX5_resolve_100 : decode cX5_resolve 100 = .ok (.iconst 0, 1) := by decide +kernel
theorem dX5_resolve_101 : decode cX5_resolve 101 = .ok (.istore 5, 2) := by decide +kernel
theorem dX5_resolve_103 : decode cX5_resolve 103 = .ok (.iload 5, 2) := by decide +kernel
theorem dX5_resolve_105 : decode cX5_resolve 105 = .ok (.iload 4, 2) := by decide +kernel
theorem dX5_resolve_107 : decode cX5_resolve 107 = .ok (.if_icmp .ge 43, 3) := by decide +kernel
theorem dX5_resolve_110 : decode cX5_resolve 110 = .ok (.aload_n 0, 1) := by decide +kernel
theorem dX5_resolve_111 : decode cX5_resolve 111 = .ok (.getfield 36, 3) := by decide +kernel
theorem dX5_resolve_114 : decode cX5_resolve 114 = .ok (.aload_n 0, 1) := by decide +kernel
theorem dX5_resolve_115 : decode cX5_resolve 115 = .ok (.getfield 189, 3) := by decide +kernel
theorem dX5_resolve_118 : decode cX5_resolve 118 = .ok (.aload_n 0, 1) := by decide +kernel
theorem dX5_resolve_119 : decode cX5_resolve 119 = .ok (.getfield 51, 3) := by decide +kernel
theorem dX5_resolve_122 : decode cX5_resolve 122 = .ok (.getfield 256, 3) := by decide +kernel
theorem dX5_resolve_125 : decode cX5_resolve 125 = .ok (.iload_n 1, 1) := by decide +kernel
theorem dX5_resolve_126 : decode cX5_resolve 126 = .ok (.bipush 64, 2) := by decide +kernel
theorem dX5_resolve_128 : decode cX5_resolve 128 = .ok (.imul, 1) := by decide +kernel
theorem dX5_resolve_129 : decode cX5_resolve 129 = .ok (.iload 5, 2) := by decide +kernel
theorem dX5_resolve_131 : decode cX5_resolve 131 = .ok (.iadd, 1) := by decide +kernel
theorem dX5_resolve_132 : decode cX5_resolve 132 = .ok (.iaload, 1) := by decide +kernel
theorem dX5_resolve_133 : decode cX5_resolve 133 = .ok (.iastore, 1) := by decide +kernel
theorem dX5_resolve_134 : decode cX5_resolve 134 = .ok (.aload_n 0, 1) := by decide +kernel
theorem dX5_resolve_135 : decode cX5_resolve 135 = .ok (.dup, 1) := by decide +kernel
theorem dX5_resolve_136 : decode cX5_resolve 136 = .ok (.getfield 189, 3) := by decide +kernel
theorem dX5_resolve_139 : decode cX5_resolve 139 = .ok (.iconst 1, 1) := by decide +kernel
theorem dX5_resolve_140 : decode cX5_resolve 140 = .ok (.iadd, 1) := by decide +kernel
theorem dX5_resolve_141 : decode cX5_resolve 141 = .ok (.putfield 189, 3) := by decide +kernel
theorem dX5_resolve_144 : decode cX5_resolve 144 = .ok (.iinc 5 1, 3) := by decide +kernel
theorem dX5_resolve_147 : decode cX5_resolve 147 = .ok (.goto (-44), 3) := by decide +kernel
theorem dX5_resolve_150 : decode cX5_resolve 150 = .ok (.aload_n 0, 1) := by decide +kernel
theorem dX5_resolve_151 : decode cX5_resolve 151 = .ok (.getfield 51, 3) := by decide +kernel
theorem dX5_resolve_154 : decode cX5_resolve 154 = .ok (.iload_n 1, 1) := by decide +kernel
theorem dX5_resolve_155 : decode cX5_resolve 155 = .ok (.aload_n 2, 1) := by decide +kernel
theorem dX5_resolve_156 : decode cX5_resolve 156 = .ok (.invokevirtual 259, 3) := by decide +kernel
theorem dX5_resolve_159 : decode cX5_resolve 159 = .ok (.iconst 1, 1) := by decide +kernel
theorem dX5_resolve_160 : decode cX5_resolve 160 = .ok (.if_icmp .ne 11, 3) := by decide +kernel
theorem dX5_resolve_163 : decode cX5_resolve 163 = .ok (.aload_n 0, 1) := by decide +kernel
theorem dX5_resolve_164 : decode cX5_resolve 164 = .ok (.getfield 51, 3) := by decide +kernel
theorem dX5_resolve_167 : decode cX5_resolve 167 = .ok (.getfield 262, 3) := by decide +kernel
theorem dX5_resolve_170 : decode cX5_resolve 170 = .ok (.areturn, 1) := by decide +kernel
theorem dX5_resolve_171 : decode cX5_resolve 171 = .ok (.iconst 0, 1) := by decide +kernel
theorem dX5_resolve_172 : decode cX5_resolve 172 = .ok (.istore 5, 2) := by decide +kernel
theorem dX5_resolve_174 : decode cX5_resolve 174 = .ok (.iload 5, 2) := by decide +kernel
theorem dX5_resolve_176 : decode cX5_resolve 176 = .ok (.iload 4, 2) := by decide +kernel
theorem dX5_resolve_178 : decode cX5_resolve 178 = .ok (.if_icmp .ge 68, 3) := by decide +kernel
theorem dX5_resolve_181 : decode cX5_resolve 181 = .ok (.aload_n 0, 1) := by decide +kernel
theorem dX5_resolve_182 : decode cX5_resolve 182 = .ok (.getfield 51, 3) := by decide +kernel
theorem dX5_resolve_185 : decode cX5_resolve 185 = .ok (.aload_n 0, 1) := by decide +kernel
theorem dX5_resolve_186 : decode cX5_resolve 186 = .ok (.getfield 51, 3) := by decide +kernel
theorem dX5_resolve_189 : decode cX5_resolve 189 = .ok (.getfield 256, 3) := by decide +kernel
theorem dX5_resolve_192 : decode cX5_resolve 192 = .ok (.iload_n 1, 1) := by decide +kernel
theorem dX5_resolve_193 : decode cX5_resolve 193 = .ok (.bipush 64, 2) := by decide +kernel
theorem dX5_resolve_195 : decode cX5_resolve 195 = .ok (.imul, 1) := by decide +kernel
theorem dX5_resolve_196 : decode cX5_resolve 196 = .ok (.iload 5, 2) := by decide +kernel
theorem dX5_resolve_198 : decode cX5_resolve 198 = .ok (.iadd, 1) := by decide +kernel
theorem dX5_resolve_199 : decode cX5_resolve 199 = .ok (.iaload, 1) := by decide +kernel
theorem dX5_resolve_200 : decode cX5_resolve 200 = .ok (.putfield 233, 3) := by decide +kernel
theorem dX5_resolve_203 : decode cX5_resolve 203 = .ok (.aload_n 0, 1) := by decide +kernel
theorem dX5_resolve_204 : decode cX5_resolve 204 = .ok (.getfield 51, 3) := by decide +kernel
theorem dX5_resolve_207 : decode cX5_resolve 207 = .ok (.getfield 73, 3) := by decide +kernel
theorem dX5_resolve_210 : decode cX5_resolve 210 = .ok (.aload_n 0, 1) := by decide +kernel
theorem dX5_resolve_211 : decode cX5_resolve 211 = .ok (.getfield 51, 3) := by decide +kernel
theorem dX5_resolve_214 : decode cX5_resolve 214 = .ok (.getfield 233, 3) := by decide +kernel
theorem dX5_resolve_217 : decode cX5_resolve 217 = .ok (.aaload, 1) := by decide +kernel
theorem dX5_resolve_218 : decode cX5_resolve 218 = .ok (.aload_n 2, 1) := by decide +kernel
theorem dX5_resolve_219 : decode cX5_resolve 219 = .ok (.invokevirtual 139, 3) := by decide +kernel
theorem dX5_resolve_222 : decode cX5_resolve 222 = .ok (.astore 6, 2) := by decide +kernel
theorem dX5_resolve_224 : decode cX5_resolve 224 = .ok (.aload 6, 2) := by decide +kernel
theorem dX5_resolve_226 : decode cX5_resolve 226 = .ok (.ifnull 14, 3) := by decide +kernel
theorem dX5_resolve_229 : decode cX5_resolve 229 = .ok (.aload 6, 2) := by decide +kernel
theorem dX5_resolve_231 : decode cX5_resolve 231 = .ok (.invokevirtual 135, 3) := by decide +kernel
theorem dX5_resolve_234 : decode cX5_resolve 234 = .ok (.ifCond .eq 6, 3) := by decide +kernel
theorem dX5_resolve_237 : decode cX5_resolve 237 = .ok (.aload 6, 2) := by decide +kernel
theorem dX5_resolve_239 : decode cX5_resolve 239 = .ok (.areturn, 1) := by decide +kernel
theorem dX5_resolve_240 : decode cX5_resolve 240 = .ok (.iinc 5 1, 3) := by decide +kernel
theorem dX5_resolve_243 : decode cX5_resolve 243 = .ok (.goto (-69), 3) := by decide +kernel
theorem dX5_resolve_246 : decode cX5_resolve 246 = .ok (.aconst_null, 1) := by decide +kernel
theorem dX5_resolve_247 : decode cX5_resolve 247 = .ok (.areturn, 1) := by decide +kernel
theorem dX5_askSuper_0 : decode cX5_askSuper 0 = .ok (.iload_n 1, 1) := by decide +kernel
theorem dX5_askSuper_1 : decode cX5_askSuper 1 = .ok (.istore_n 3, 1) := by decide +kernel
theorem dX5_askSuper_2 : decode cX5_askSuper 2 = .ok (.aload_n 0, 1) := by decide +kernel
theorem dX5_askSuper_3 : decode cX5_askSuper 3 = .ok (.bipush (-2), 2) := by decide +kernel
theorem dX5_askSuper_5 : decode cX5_askSuper 5 = .ok (.putfield 86, 3) := by decide +kernel
theorem dX5_askSuper_8 : decode cX5_askSuper 8 = .ok (.iconst 0, 1) := by decide +kernel
theorem dX5_askSuper_9 : decode cX5_askSuper 9 = .ok (.istore 4, 2) := by decide +kernel
theorem dX5_askSuper_11 : decode cX5_askSuper 11 = .ok (.iload_n 1, 1) := by decide +kernel
theorem dX5_askSuper_12 : decode cX5_askSuper 12 = .ok (.ifCond .lt 89, 3) := by decide +kernel
theorem dX5_askSuper_15 : decode cX5_askSuper 15 = .ok (.iload 4, 2) := by decide +kernel
theorem dX5_askSuper_17 : decode cX5_askSuper 17 = .ok (.aload_n 0, 1) := by decide +kernel
theorem dX5_askSuper_18 : decode cX5_askSuper 18 = .ok (.getfield 51, 3) := by decide +kernel
theorem dX5_askSuper_21 : decode cX5_askSuper 21 = .ok (.getfield 129, 3) := by decide +kernel
theorem dX5_askSuper_24 : decode cX5_askSuper 24 = .ok (.iload_n 1, 1) := by decide +kernel
theorem dX5_askSuper_25 : decode cX5_askSuper 25 = .ok (.iaload, 1) := by decide +kernel
theorem dX5_askSuper_26 : decode cX5_askSuper 26 = .ok (.if_icmp .gt 75, 3) := by decide +kernel
theorem dX5_askSuper_29 : decode cX5_askSuper 29 = .ok (.iload_n 3, 1) := by decide +kernel
theorem dX5_askSuper_30 : decode cX5_askSuper 30 = .ok (.ifCond .lt 71, 3) := by decide +kernel
theorem dX5_askSuper_33 : decode cX5_askSuper 33 = .ok (.aload_n 0, 1) := by decide +kernel
theorem dX5_askSuper_34 : decode cX5_askSuper 34 = .ok (.getfield 51, 3) := by decide +kernel
theorem dX5_askSuper_37 : decode cX5_askSuper 37 = .ok (.getfield 73, 3) := by decide +kernel
theorem dX5_askSuper_40 : decode cX5_askSuper 40 = .ok (.iload_n 3, 1) := by decide +kernel
theorem dX5_askSuper_41 : decode cX5_askSuper 41 = .ok (.aaload, 1) := by decide +kernel
theorem dX5_askSuper_42 : decode cX5_askSuper 42 = .ok (.aload_n 2, 1) := by decide +kernel
theorem dX5_askSuper_43 : decode cX5_askSuper 43 = .ok (.invokevirtual 139, 3) := by decide +kernel
theorem dX5_askSuper_46 : decode cX5_askSuper 46 = .ok (.astore 5, 2) := by decide +kernel
theorem dX5_askSuper_48 : decode cX5_askSuper 48 = .ok (.aload 5, 2) := by decide +kernel
theorem dX5_askSuper_50 : decode cX5_askSuper 50 = .ok (.ifnull 35, 3) := by decide +kernel
theorem dX5_askSuper_53 : decode cX5_askSuper 53 = .ok (.aload 5, 2) := by decide +kernel
theorem dX5_askSuper_55 : decode cX5_askSuper 55 = .ok (.getfield 242, 3) := by decide +kernel
theorem dX5_askSuper_58 : decode cX5_askSuper 58 = .ok (.ifCond .ne 27, 3) := by decide +kernel
theorem dX5_askSuper_61 : decode cX5_askSuper 61 = .ok (.aload 5, 2) := by decide +kernel
theorem dX5_askSuper_63 : decode cX5_askSuper 63 = .ok (.getfield 265, 3) := by decide +kernel
theorem dX5_askSuper_66 : decode cX5_askSuper 66 = .ok (.ifCond .eq 6, 3) := by decide +kernel
theorem dX5_askSuper_69 : decode cX5_askSuper 69 = .ok (.bipush 6, 2) := by decide +kernel
theorem dX5_askSuper_71 : decode cX5_askSuper 71 = .ok (.ireturn, 1) := by decide +kernel
theorem dX5_askSuper_72 : decode cX5_askSuper 72 = .ok (.aload_n 0, 1) := by decide +kernel
theorem dX5_askSuper_73 : decode cX5_askSuper 73 = .ok (.aload 5, 2) := by decide +kernel
theorem dX5_askSuper_75 : decode cX5_askSuper 75 = .ok (.putfield 82, 3) := by decide +kernel
theorem dX5_askSuper_78 : decode cX5_askSuper 78 = .ok (.aload_n 0, 1) := by decide +kernel
theorem dX5_askSuper_79 : decode cX5_askSuper 79 = .ok (.iload_n 3, 1) := by decide +kernel
theorem dX5_askSuper_80 : decode cX5_askSuper 80 = .ok (.putfield 86, 3) := by decide +kernel
theorem dX5_askSuper_83 : decode cX5_askSuper 83 = .ok (.iconst 0, 1) := by decide +kernel
theorem dX5_askSuper_84 : decode cX5_askSuper 84 = .ok (.ireturn, 1) := by decide +kernel
theorem dX5_askSuper_85 : decode cX5_askSuper 85 = .ok (.aload_n 0, 1) := by decide +kernel
theorem dX5_askSuper_86 : decode cX5_askSuper 86 = .ok (.getfield 51, 3) := by decide +kernel
theorem dX5_askSuper_89 : decode cX5_askSuper 89 = .ok (.getfield 97, 3) := by decide +kernel
theorem dX5_askSuper_92 : decode cX5_askSuper 92 = .ok (.iload_n 3, 1) := by decide +kernel
theorem dX5_askSuper_93 : decode cX5_askSuper 93 = .ok (.iaload, 1) := by decide +kernel
theorem dX5_askSuper_94 : decode cX5_askSuper 94 = .ok (.istore_n 3, 1) := by decide +kernel
theorem dX5_askSuper_95 : decode cX5_askSuper 95 = .ok (.iinc 4 1, 3) := by decide +kernel
theorem dX5_askSuper_98 : decode cX5_askSuper 98 = .ok (.goto (-87), 3) := by decide +kernel
theorem dX5_askSuper_101 : decode cX5_askSuper 101 = .ok (.iload_n 1, 1) := by decide +kernel
theorem dX5_askSuper_102 : decode cX5_askSuper 102 = .ok (.ifCond .ge 7, 3) := by decide +kernel
theorem dX5_askSuper_105 : decode cX5_askSuper 105 = .ok (.iconst 0, 1) := by decide +kernel
theorem dX5_askSuper_106 : decode cX5_askSuper 106 = .ok (.goto 12, 3) := by decide +kernel
theorem dX5_askSuper_109 : decode cX5_askSuper 109 = .ok (.aload_n 0, 1) := by decide +kernel
theorem dX5_askSuper_110 : decode cX5_askSuper 110 = .ok (.getfield 51, 3) := by decide +kernel
theorem dX5_askSuper_113 : decode cX5_askSuper 113 = .ok (.iload_n 1, 1) := by decide +kernel
theorem dX5_askSuper_114 : decode cX5_askSuper 114 = .ok (.aload_n 2, 1) := by decide +kernel
theorem dX5_askSuper_115 : decode cX5_askSuper 115 = .ok (.invokevirtual 259, 3) := by decide +kernel
theorem dX5_askSuper_118 : decode cX5_askSuper 118 = .ok (.istore 4, 2) := by decide +kernel
theorem dX5_askSuper_120 : decode cX5_askSuper 120 = .ok (.iload 4, 2) := by decide +kernel
theorem dX5_askSuper_122 : decode cX5_askSuper 122 = .ok (.iconst 1, 1) := by decide +kernel
theorem dX5_askSuper_123 : decode cX5_askSuper 123 = .ok (.if_icmp .eq 16, 3) := by decide +kernel
theorem dX5_askSuper_126 : decode cX5_askSuper 126 = .ok (.iload 4, 2) := by decide +kernel
theorem dX5_askSuper_128 : decode cX5_askSuper 128 = .ok (.iconst 1, 1) := by decide +kernel
theorem dX5_askSuper_129 : decode cX5_askSuper 129 = .ok (.if_icmp .le 7, 3) := by decide +kernel
theorem dX5_askSuper_132 : decode cX5_askSuper 132 = .ok (.iconst 3, 1) := by decide +kernel
theorem dX5_askSuper_133 : decode cX5_askSuper 133 = .ok (.goto 5, 3) := by decide +kernel
theorem dX5_askSuper_136 : decode cX5_askSuper 136 = .ok (.bipush 6, 2) := by decide +kernel
theorem dX5_askSuper_138 : decode cX5_askSuper 138 = .ok (.ireturn, 1) := by decide +kernel
theorem dX5_askSuper_139 : decode cX5_askSuper 139 = .ok (.aload_n 0, 1) := by decide +kernel
theorem dX5_askSuper_140 : decode cX5_askSuper 140 = .ok (.aload_n 0, 1) := by decide +kernel
theorem dX5_askSuper_141 : decode cX5_askSuper 141 = .ok (.getfield 51, 3) := by decide +kernel
theorem dX5_askSuper_144 : decode cX5_askSuper 144 = .ok (.getfield 262, 3) := by decide +kernel
theorem dX5_askSuper_147 : decode cX5_askSuper 147 = .ok (.putfield 82, 3) := by decide +kernel
theorem dX5_askSuper_150 : decode cX5_askSuper 150 = .ok (.aload_n 0, 1) := by decide +kernel
theorem dX5_askSuper_151 : decode cX5_askSuper 151 = .ok (.aload_n 0, 1) := by decide +kernel
theorem dX5_askSuper_152 : decode cX5_askSuper 152 = .ok (.getfield 51, 3) := by decide +kernel
theorem dX5_askSuper_155 : decode cX5_askSuper 155 = .ok (.getfield 233, 3) := by decide +kernel
theorem dX5_askSuper_158 : decode cX5_askSuper 158 = .ok (.putfield 86, 3) := by decide +kernel
theorem dX5_askSuper_161 : decode cX5_askSuper 161 = .ok (.iconst 0, 1) := by decide +kernel
theorem dX5_askSuper_162 : decode cX5_askSuper 162 = .ok (.ireturn, 1) := by decide +kernel
theorem dX5_askCopy_0 : decode cX5_askCopy 0 = .ok (.aload_n 0, 1) := by decide +kernel
theorem dX5_askCopy_1 : decode cX5_askCopy 1 = .ok (.getfield 51, 3) := by decide +kernel
theorem dX5_askCopy_4 : decode cX5_askCopy 4 = .ok (.lload_n 1, 1) := by decide +kernel
theorem dX5_askCopy_5 : decode cX5_askCopy 5 = .ok (.invokevirtual 176, 3) := by decide +kernel
theorem dX5_askCopy_8 : decode cX5_askCopy 8 = .ok (.istore 6, 2) := by decide +kernel
theorem dX5_askCopy_10 : decode cX5_askCopy 10 = .ok (.iload 6, 2) := by decide +kernel
theorem dX5_askCopy_12 : decode cX5_askCopy 12 = .ok (.ifCond .lt 7, 3) := by decide +kernel
theorem dX5_askCopy_15 : decode cX5_askCopy 15 = .ok (.aload_n 3, 1) := by decide +kernel
theorem dX5_askCopy_16 : decode cX5_askCopy 16 = .ok (.ifnonnull 7, 3) := by decide +kernel
theorem dX5_askCopy_19 : decode cX5_askCopy 19 = .ok (.aconst_null, 1) := by decide +kernel
theorem dX5_askCopy_20 : decode cX5_askCopy 20 = .ok (.goto 19, 3) := by decide +kernel
theorem dX5_askCopy_23 : decode cX5_askCopy 23 = .ok (.aload_n 0, 1) := by decide +kernel
theorem dX5_askCopy_24 : decode cX5_askCopy 24 = .ok (.getfield 51, 3) := by decide +kernel
theorem dX5_askCopy_27 : decode cX5_askCopy 27 = .ok (.iload 6, 2) := by decide +kernel
theorem dX5_askCopy_29 : decode cX5_askCopy 29 = .ok (.aload_n 3, 1) := by decide +kernel
theorem dX5_askCopy_30 : decode cX5_askCopy 30 = .ok (.getfield 225, 3) := by decide +kernel
theorem dX5_askCopy_33 : decode cX5_askCopy 33 = .ok (.ldc2_w 266, 3) := by decide +kernel
theorem dX5_askCopy_36 : decode cX5_askCopy 36 = .ok (.invokevirtual 229, 3) := by decide +kernel
theorem dX5_askCopy_39 : decode cX5_askCopy 39 = .ok (.astore 7, 2) := by decide +kernel
theorem dX5_askCopy_41 : decode cX5_askCopy 41 = .ok (.aload 7, 2) := by decide +kernel
theorem dX5_askCopy_43 : decode cX5_askCopy 43 = .ok (.ifnull 27, 3) := by decide +kernel
theorem dX5_askCopy_46 : decode cX5_askCopy 46 = .ok (.aload 7, 2) := by decide +kernel
theorem dX5_askCopy_48 : decode cX5_askCopy 48 = .ok (.getfield 268, 3) := by decide +kernel
theorem dX5_askCopy_51 : decode cX5_askCopy 51 = .ok (.ifCond .eq 19, 3) := by decide +kernel
theorem dX5_askCopy_54 : decode cX5_askCopy 54 = .ok (.aload 7, 2) := by decide +kernel
theorem dX5_askCopy_56 : decode cX5_askCopy 56 = .ok (.getfield 271, 3) := by decide +kernel
theorem dX5_askCopy_59 : decode cX5_askCopy 59 = .ok (.i2l, 1) := by decide +kernel
theorem dX5_askCopy_60 : decode cX5_askCopy 60 = .ok (.lload 4, 2) := by decide +kernel
theorem dX5_askCopy_62 : decode cX5_askCopy 62 = .ok (.lcmp, 1) := by decide +kernel
theorem dX5_askCopy_63 : decode cX5_askCopy 63 = .ok (.ifCond .ne 7, 3) := by decide +kernel
theorem dX5_askCopy_66 : decode cX5_askCopy 66 = .ok (.iconst 0, 1) := by decide +kernel
theorem dX5_askCopy_67 : decode cX5_askCopy 67 = .ok (.goto 5, 3) := by decide +kernel
theorem dX5_askCopy_70 : decode cX5_askCopy 70 = .ok (.bipush 17, 2) := by decide +kernel
theorem dX5_askCopy_72 : decode cX5_askCopy 72 = .ok (.ireturn, 1) := by decide +kernel
theorem dX5_isLet_0 : decode cX5_isLet 0 = .ok (.aload_n 1, 1) := by decide +kernel
theorem dX5_isLet_1 : decode cX5_isLet 1 = .ok (.getfield 274, 3) := by decide +kernel
theorem dX5_isLet_4 : decode cX5_isLet 4 = .ok (.ifCond .ne 9, 3) := by decide +kernel
theorem dX5_isLet_7 : decode cX5_isLet 7 = .ok (.iload 4, 2) := by decide +kernel
theorem dX5_isLet_9 : decode cX5_isLet 9 = .ok (.iload_n 2, 1) := by decide +kernel
theorem dX5_isLet_10 : decode cX5_isLet 10 = .ok (.if_icmp .ne 16, 3) := by decide +kernel
theorem dX5_isLet_13 : decode cX5_isLet 13 = .ok (.aload_n 0, 1) := by decide +kernel
theorem dX5_isLet_14 : decode cX5_isLet 14 = .ok (.getfield 51, 3) := by decide +kernel
theorem dX5_isLet_17 : decode cX5_isLet 17 = .ok (.aload_n 1, 1) := by decide +kernel
theorem dX5_isLet_18 : decode cX5_isLet 18 = .ok (.iload_n 2, 1) := by decide +kernel
theorem dX5_isLet_19 : decode cX5_isLet 19 = .ok (.iload_n 3, 1) := by decide +kernel
theorem dX5_isLet_20 : decode cX5_isLet 20 = .ok (.iload 4, 2) := by decide +kernel
theorem dX5_isLet_22 : decode cX5_isLet 22 = .ok (.invokevirtual 277, 3) := by decide +kernel
theorem dX5_isLet_25 : decode cX5_isLet 25 = .ok (.ireturn, 1) := by decide +kernel
theorem dX5_isLet_26 : decode cX5_isLet 26 = .ok (.aload_n 0, 1) := by decide +kernel
theorem dX5_isLet_27 : decode cX5_isLet 27 = .ok (.getfield 51, 3) := by decide +kernel
theorem dX5_isLet_30 : decode cX5_isLet 30 = .ok (.getfield 278, 3) := by decide +kernel
theorem dX5_isLet_33 : decode cX5_isLet 33 = .ok (.iload 4, 2) := by decide +kernel
theorem dX5_isLet_35 : decode cX5_isLet 35 = .ok (.iaload, 1) := by decide +kernel
theorem dX5_isLet_36 : decode cX5_isLet 36 = .ok (.ifCond .lt 33, 3) := by decide +kernel
theorem dX5_isLet_39 : decode cX5_isLet 39 = .ok (.aload_n 0, 1) := by decide +kernel
theorem dX5_isLet_40 : decode cX5_isLet 40 = .ok (.aload_n 0, 1) := by decide +kernel
theorem dX5_isLet_41 : decode cX5_isLet 41 = .ok (.getfield 51, 3) := by decide +kernel
theorem dX5_isLet_44 : decode cX5_isLet 44 = .ok (.getfield 278, 3) := by decide +kernel
theorem dX5_isLet_47 : decode cX5_isLet 47 = .ok (.iload 4, 2) := by decide +kernel
theorem dX5_isLet_49 : decode cX5_isLet 49 = .ok (.iaload, 1) := by decide +kernel
theorem dX5_isLet_50 : decode cX5_isLet 50 = .ok (.invokevirtual 116, 3) := by decide +kernel
theorem dX5_isLet_53 : decode cX5_isLet 53 = .ok (.ifCond .ne 16, 3) := by decide +kernel
theorem dX5_isLet_56 : decode cX5_isLet 56 = .ok (.aload_n 0, 1) := by decide +kernel
theorem dX5_isLet_57 : decode cX5_isLet 57 = .ok (.getfield 51, 3) := by decide +kernel
theorem dX5_isLet_60 : decode cX5_isLet 60 = .ok (.getfield 281, 3) := by decide +kernel
theorem dX5_isLet_63 : decode cX5_isLet 63 = .ok (.iload 4, 2) := by decide +kernel
theorem dX5_isLet_65 : decode cX5_isLet 65 = .ok (.iaload, 1) := by decide +kernel
theorem dX5_isLet_66 : decode cX5_isLet 66 = .ok (.goto 5, 3) := by decide +kernel
theorem dX5_isLet_69 : decode cX5_isLet 69 = .ok (.iload 4, 2) := by decide +kernel
theorem dX5_isLet_71 : decode cX5_isLet 71 = .ok (.istore 5, 2) := by decide +kernel
theorem dX5_isLet_73 : decode cX5_isLet 73 = .ok (.aload_n 0, 1) := by decide +kernel
theorem dX5_isLet_74 : decode cX5_isLet 74 = .ok (.getfield 51, 3) := by decide +kernel
theorem dX5_isLet_77 : decode cX5_isLet 77 = .ok (.getfield 278, 3) := by decide +kernel
theorem dX5_isLet_80 : decode cX5_isLet 80 = .ok (.iload_n 2, 1) := by decide +kernel
theorem dX5_isLet_81 : decode cX5_isLet 81 = .ok (.iaload, 1) := by decide +kernel
theorem dX5_isLet_82 : decode cX5_isLet 82 = .ok (.ifCond .lt 31, 3) := by decide +kernel
theorem dX5_isLet_85 : decode cX5_isLet 85 = .ok (.aload_n 0, 1) := by decide +kernel
theorem dX5_isLet_86 : decode cX5_isLet 86 = .ok (.aload_n 0, 1) := by decide +kernel
theorem dX5_isLet_87 : decode cX5_isLet 87 = .ok (.getfield 51, 3) := by decide +kernel
theorem dX5_isLet_90 : decode cX5_isLet 90 = .ok (.getfield 278, 3) := by decide +kernel
theorem dX5_isLet_93 : decode cX5_isLet 93 = .ok (.iload_n 2, 1) := by decide +kernel
theorem dX5_isLet_94 : decode cX5_isLet 94 = .ok (.iaload, 1) := by decide +kernel
theorem dX5_isLet_95 : decode cX5_isLet 95 = .ok (.invokevirtual 116, 3) := by decide +kernel
theorem dX5_isLet_98 : decode cX5_isLet 98 = .ok (.ifCond .ne 15, 3) := by decide +kernel
theorem dX5_isLet_101 : decode cX5_isLet 101 = .ok (.aload_n 0, 1) := by decide +kernel
theorem dX5_isLet_102 : decode cX5_isLet 102 = .ok (.getfield 51, 3) := by decide +kernel
theorem dX5_isLet_105 : decode cX5_isLet 105 = .ok (.getfield 281, 3) := by decide +kernel
theorem dX5_isLet_108 : decode cX5_isLet 108 = .ok (.iload_n 2, 1) := by decide +kernel
theorem dX5_isLet_109 : decode cX5_isLet 109 = .ok (.iaload, 1) := by decide +kernel
theorem dX5_isLet_110 : decode cX5_isLet 110 = .ok (.goto 4, 3) := by decide +kernel
theorem dX5_isLet_113 : decode cX5_isLet 113 = .ok (.iload_n 2, 1) := by decide +kernel
theorem dX5_isLet_114 : decode cX5_isLet 114 = .ok (.istore 6, 2) := by decide +kernel
theorem dX5_isLet_116 : decode cX5_isLet 116 = .ok (.iload 5, 2) := by decide +kernel
theorem dX5_isLet_118 : decode cX5_isLet 118 = .ok (.iload 6, 2) := by decide +kernel
theorem dX5_isLet_120 : decode cX5_isLet 120 = .ok (.if_icmp .ne 7, 3) := by decide +kernel
theorem dX5_isLet_123 : decode cX5_isLet 123 = .ok (.iconst 1, 1) := by decide +kernel
theorem dX5_isLet_124 : decode cX5_isLet 124 = .ok (.goto 4, 3) := by decide +kernel
theorem dX5_isLet_127 : decode cX5_isLet 127 = .ok (.iconst 0, 1) := by decide +kernel
theorem dX5_isLet_128 : decode cX5_isLet 128 = .ok (.ireturn, 1) := by decide +kernel
theorem dX6_init_0 : decode cX6_init 0 = .ok (.aload_n 0, 1) := by decide +kernel
theorem dX6_init_1 : decode cX6_init 1 = .ok (.invokespecial 3, 3) := by decide +kernel
theorem dX6_init_4 : decode cX6_init 4 = .ok (.aload_n 0, 1) := by decide +kernel
theorem dX6_init_5 : decode cX6_init 5 = .ok (.new 9, 3) := by decide +kernel
theorem dX6_init_8 : decode cX6_init 8 = .ok (.dup, 1) := by decide +kernel
theorem dX6_init_9 : decode cX6_init 9 = .ok (.sipush 4940, 3) := by decide +kernel
theorem dX6_init_12 : decode cX6_init 12 = .ok (.invokespecial 11, 3) := by decide +kernel
theorem dX6_init_15 : decode cX6_init 15 = .ok (.putfield 14, 3) := by decide +kernel
theorem dX6_init_18 : decode cX6_init 18 = .ok (.aload_n 0, 1) := by decide +kernel
theorem dX6_init_19 : decode cX6_init 19 = .ok (.sipush 24000, 3) := by decide +kernel
theorem dX6_init_22 : decode cX6_init 22 = .ok (.newarray .int, 2) := by decide +kernel
theorem dX6_init_24 : decode cX6_init 24 = .ok (.putfield 20, 3) := by decide +kernel
theorem dX6_init_27 : decode cX6_init 27 = .ok (.aload_n 0, 1) := by decide +kernel
theorem dX6_init_28 : decode cX6_init 28 = .ok (.bipush 25, 2) := by decide +kernel
theorem dX6_init_30 : decode cX6_init 30 = .ok (.bipush 7, 2) := by decide +kernel
theorem dX6_init_32 : decode cX6_init 32 = .ok (.multianewarray 24 2, 4) := by decide +kernel
theorem dX6_init_36 : decode cX6_init 36 = .ok (.putfield 26, 3) := by decide +kernel
theorem dX6_init_39 : decode cX6_init 39 = .ok (.aload_n 0, 1) := by decide +kernel
theorem dX6_init_40 : decode cX6_init 40 = .ok (.sipush 1152, 3) := by decide +kernel
theorem dX6_init_43 : decode cX6_init 43 = .ok (.newarray .int, 2) := by decide +kernel
theorem dX6_init_45 : decode cX6_init 45 = .ok (.putfield 29, 3) := by decide +kernel
theorem dX6_init_48 : decode cX6_init 48 = .ok (.aload_n 0, 1) := by decide +kernel
theorem dX6_init_49 : decode cX6_init 49 = .ok (.sipush 202, 3) := by decide +kernel
theorem dX6_init_52 : decode cX6_init 52 = .ok (.newarray .int, 2) := by decide +kernel
theorem dX6_init_54 : decode cX6_init 54 = .ok (.putfield 32, 3) := by decide +kernel
theorem dX6_init_57 : decode cX6_init 57 = .ok (.aload_n 0, 1) := by decide +kernel
theorem dX6_init_58 : decode cX6_init 58 = .ok (.sipush 202, 3) := by decide +kernel
theorem dX6_init_61 : decode cX6_init 61 = .ok (.newarray .int, 2) := by decide +kernel
theorem dX6_init_63 : decode cX6_init 63 = .ok (.putfield 35, 3) := by decide +kernel
theorem dX6_init_66 : decode cX6_init 66 = .ok (.aload_n 0, 1) := by decide +kernel
theorem dX6_init_67 : decode cX6_init 67 = .ok (.sipush 2000, 3) := by decide +kernel
theorem dX6_init_70 : decode cX6_init 70 = .ok (.newarray .int, 2) := by decide +kernel
theorem dX6_init_72 : decode cX6_init 72 = .ok (.putfield 38, 3) := by decide +kernel
theorem dX6_init_75 : decode cX6_init 75 = .ok (.aload_n 0, 1) := by decide +kernel
theorem dX6_init_76 : decode cX6_init 76 = .ok (.sipush 1280, 3) := by decide +kernel
theorem dX6_init_79 : decode cX6_init 79 = .ok (.newarray .int, 2) := by decide +kernel
theorem dX6_init_81 : decode cX6_init 81 = .ok (.putfield 41, 3) := by decide +kernel
theorem dX6_init_84 : decode cX6_init 84 = .ok (.aload_n 0, 1) := by decide +kernel
theorem dX6_init_85 : decode cX6_init 85 = .ok (.bipush 100, 2) := by decide +kernel
theorem dX6_init_87 : decode cX6_init 87 = .ok (.newarray .int, 2) := by decide +kernel
theorem dX6_init_89 : decode cX6_init 89 = .ok (.putfield 44, 3) := by decide +kernel
theorem dX6_init_92 : decode cX6_init 92 = .ok (.return_, 1) := by decide +kernel
theorem dX6_clear_0 : decode cX6_clear 0 = .ok (.aload_n 0, 1) := by decide +kernel
theorem dX6_clear_1 : decode cX6_clear 1 = .ok (.aload_n 1, 1) := by decide +kernel
theorem dX6_clear_2 : decode cX6_clear 2 = .ok (.putfield 47, 3) := by decide +kernel
theorem dX6_clear_5 : decode cX6_clear 5 = .ok (.aload_n 0, 1) := by decide +kernel
theorem dX6_clear_6 : decode cX6_clear 6 = .ok (.getfield 14, 3) := by decide +kernel
theorem dX6_clear_9 : decode cX6_clear 9 = .ok (.aload_n 1, 1) := by decide +kernel
theorem dX6_clear_10 : decode cX6_clear 10 = .ok (.invokevirtual 51, 3) := by decide +kernel
theorem dX6_clear_13 : decode cX6_clear 13 = .ok (.aload_n 0, 1) := by decide +kernel
theorem dX6_clear_14 : decode cX6_clear 14 = .ok (.iconst 0, 1) := by decide +kernel
theorem dX6_clear_15 : decode cX6_clear 15 = .ok (.putfield 55, 3) := by decide +kernel
theorem dX6_clear_18 : decode cX6_clear 18 = .ok (.aload_n 0, 1) := by decide +kernel
theorem dX6_clear_19 : decode cX6_clear 19 = .ok (.iconst 0, 1) := by decide +kernel
theorem dX6_clear_20 : decode cX6_clear 20 = .ok (.putfield 59, 3) := by decide +kernel
theorem dX6_clear_23 : decode cX6_clear 23 = .ok (.aload_n 0, 1) := by decide +kernel
theorem dX6_clear_24 : decode cX6_clear 24 = .ok (.getfield 41, 3) := by decide +kernel
theorem dX6_clear_27 : decode cX6_clear 27 = .ok (.iconst 0, 1) := by decide +kernel
theorem dX6_clear_28 : decode cX6_clear 28 = .ok (.invokestatic 62, 3) := by decide +kernel
theorem dX6_clear_31 : decode cX6_clear 31 = .ok (.return_, 1) := by decide +kernel
theorem dX6_open_0 : decode cX6_open 0 = .ok (.aload_n 0, 1) := by decide +kernel
theorem dX6_open_1 : decode cX6_open 1 = .ok (.iconst 0, 1) := by decide +kernel
theorem dX6_open_2 : decode cX6_open 2 = .ok (.putfield 68, 3) := by decide +kernel
theorem dX6_open_5 : decode cX6_open 5 = .ok (.aload_n 0, 1) := by decide +kernel
theorem dX6_open_6 : decode cX6_open 6 = .ok (.iconst 0, 1) := by decide +kernel
theorem dX6_open_7 : decode cX6_open 7 = .ok (.putfield 71, 3) := by decide +kernel
theorem dX6_open_10 : decode cX6_open 10 = .ok (.aload_n 0, 1) := by decide +kernel
theorem dX6_open_11 : decode cX6_open 11 = .ok (.iconst 0, 1) := by decide +kernel
theorem dX6_open_12 : decode cX6_open 12 = .ok (.putfield 74, 3) := by decide +kernel
theorem dX6_open_15 : decode cX6_open 15 = .ok (.aload_n 0, 1) := by decide +kernel
theorem dX6_open_16 : decode cX6_open 16 = .ok (.iconst 0, 1) := by decide +kernel
theorem dX6_open_17 : decode cX6_open 17 = .ok (.putfield 77, 3) := by decide +kernel
theorem dX6_open_20 : decode cX6_open 20 = .ok (.aload_n 0, 1) := by decide +kernel
theorem dX6_open_21 : decode cX6_open 21 = .ok (.iconst 0, 1) := by decide +kernel
theorem dX6_open_22 : decode cX6_open 22 = .ok (.putfield 80, 3) := by decide +kernel
theorem dX6_open_25 : decode cX6_open 25 = .ok (.aload_n 0, 1) := by decide +kernel
theorem dX6_open_26 : decode cX6_open 26 = .ok (.iconst 0, 1) := by decide +kernel
theorem dX6_open_27 : decode cX6_open 27 = .ok (.putfield 83, 3) := by decide +kernel
theorem dX6_open_30 : decode cX6_open 30 = .ok (.aload_n 0, 1) := by decide +kernel
theorem dX6_open_31 : decode cX6_open 31 = .ok (.iconst 0, 1) := by decide +kernel
theorem dX6_open_32 : decode cX6_open 32 = .ok (.putfield 86, 3) := by decide +kernel
theorem dX6_open_35 : decode cX6_open 35 = .ok (.aload_n 0, 1) := by decide +kernel
theorem dX6_open_36 : decode cX6_open 36 = .ok (.iconst 0, 1) := by decide +kernel
theorem dX6_open_37 : decode cX6_open 37 = .ok (.putfield 89, 3) := by decide +kernel
theorem dX6_open_40 : decode cX6_open 40 = .ok (.aload_n 0, 1) := by decide +kernel
theorem dX6_open_41 : decode cX6_open 41 = .ok (.iload_n 1, 1) := by decide +kernel
theorem dX6_open_42 : decode cX6_open 42 = .ok (.invokevirtual 92, 3) := by decide +kernel
theorem dX6_open_45 : decode cX6_open 45 = .ok (.pop, 1) := by decide +kernel
theorem dX6_open_46 : decode cX6_open 46 = .ok (.return_, 1) := by decide +kernel
theorem dX6_fail_0 : decode cX6_fail 0 = .ok (.aload_n 0, 1) := by decide +kernel
theorem dX6_fail_1 : decode cX6_fail 1 = .ok (.iload_n 1, 1) := by decide +kernel
theorem dX6_fail_2 : decode cX6_fail 2 = .ok (.putfield 74, 3) := by decide +kernel
theorem dX6_fail_5 : decode cX6_fail 5 = .ok (.aload_n 0, 1) := by decide +kernel
theorem dX6_fail_6 : decode cX6_fail 6 = .ok (.getfield 86, 3) := by decide +kernel
theorem dX6_fail_9 : decode cX6_fail 9 = .ok (.iconst 1, 1) := by decide +kernel
theorem dX6_fail_10 : decode cX6_fail 10 = .ok (.isub, 1) := by decide +kernel
theorem dX6_fail_11 : decode cX6_fail 11 = .ok (.istore_n 2, 1) := by decide +kernel
theorem dX6_fail_12 : decode cX6_fail 12 = .ok (.iload_n 2, 1) := by decide +kernel
theorem dX6_fail_13 : decode cX6_fail 13 = .ok (.ifCond .lt 56, 3) := by decide +kernel
theorem dX6_fail_16 : decode cX6_fail 16 = .ok (.aload_n 0, 1) := by decide +kernel
theorem dX6_fail_17 : decode cX6_fail 17 = .ok (.getfield 26, 3) := by decide +kernel
theorem dX6_fail_20 : decode cX6_fail 20 = .ok (.iload_n 2, 1) := by decide +kernel
theorem dX6_fail_21 : decode cX6_fail 21 = .ok (.aaload, 1) := by decide +kernel
theorem dX6_fail_22 : decode cX6_fail 22 = .ok (.iconst 4, 1) := by decide +kernel
theorem dX6_fail_23 : decode cX6_fail 23 = .ok (.iaload, 1) := by decide +kernel
theorem dX6_fail_24 : decode cX6_fail 24 = .ok (.iconst 3, 1) := by decide +kernel
theorem dX6_fail_25 : decode cX6_fail 25 = .ok (.if_icmp .ne 38, 3) := by decide +kernel
theorem dX6_fail_28 : decode cX6_fail 28 = .ok (.aload_n 0, 1) := by decide +kernel
theorem dX6_fail_29 : decode cX6_fail 29 = .ok (.getfield 14, 3) := by decide +kernel
theorem dX6_fail_32 : decode cX6_fail 32 = .ok (.getfield 96, 3) := by decide +kernel
theorem dX6_fail_35 : decode cX6_fail 35 = .ok (.aload_n 0, 1) := by decide +kernel
theorem dX6_fail_36 : decode cX6_fail 36 = .ok (.getfield 26, 3) := by decide +kernel
theorem dX6_fail_39 : decode cX6_fail 39 = .ok (.iload_n 2, 1) := by decide +kernel
theorem dX6_fail_40 : decode cX6_fail 40 = .ok (.aaload, 1) := by decide +kernel
theorem dX6_fail_41 : decode cX6_fail 41 = .ok (.iconst 0, 1) := by decide +kernel
theorem dX6_fail_42 : decode cX6_fail 42 = .ok (.iaload, 1) := by decide +kernel
theorem dX6_fail_43 : decode cX6_fail 43 = .ok (.bipush 7, 2) := by decide +kernel
theorem dX6_fail_45 : decode cX6_fail 45 = .ok (.iastore, 1) := by decide +kernel
theorem dX6_fail_46 : decode cX6_fail 46 = .ok (.aload_n 0, 1) := by decide +kernel
theorem dX6_fail_47 : decode cX6_fail 47 = .ok (.getfield 14, 3) := by decide +kernel
theorem dX6_fail_50 : decode cX6_fail 50 = .ok (.aload_n 0, 1) := by decide +kernel
theorem dX6_fail_51 : decode cX6_fail 51 = .ok (.getfield 26, 3) := by decide +kernel
theorem dX6_fail_54 : decode cX6_fail 54 = .ok (.iload_n 2, 1) := by decide +kernel
theorem dX6_fail_55 : decode cX6_fail 55 = .ok (.aaload, 1) := by decide +kernel
theorem dX6_fail_56 : decode cX6_fail 56 = .ok (.iconst 0, 1) := by decide +kernel
theorem dX6_fail_57 : decode cX6_fail 57 = .ok (.iaload, 1) := by decide +kernel
theorem dX6_fail_58 : decode cX6_fail 58 = .ok (.bipush 7, 2) := by decide +kernel
theorem dX6_fail_60 : decode cX6_fail 60 = .ok (.invokevirtual 99, 3) := by decide +kernel
theorem dX6_fail_63 : decode cX6_fail 63 = .ok (.iinc 2 (-1), 3) := by decide +kernel
theorem dX6_fail_66 : decode cX6_fail 66 = .ok (.goto (-54), 3) := by decide +kernel
theorem dX6_fail_69 : decode cX6_fail 69 = .ok (.aload_n 0, 1) := by decide +kernel
theorem dX6_fail_70 : decode cX6_fail 70 = .ok (.iconst 0, 1) := by decide +kernel
theorem dX6_fail_71 : decode cX6_fail 71 = .ok (.putfield 86, 3) := by decide +kernel
theorem dX6_fail_74 : decode cX6_fail 74 = .ok (.aload_n 0, 1) := by decide +kernel
theorem dX6_fail_75 : decode cX6_fail 75 = .ok (.iconst 0, 1) := by decide +kernel
theorem dX6_fail_76 : decode cX6_fail 76 = .ok (.putfield 83, 3) := by decide +kernel
theorem dX6_fail_79 : decode cX6_fail 79 = .ok (.aload_n 0, 1) := by decide +kernel
theorem dX6_fail_80 : decode cX6_fail 80 = .ok (.iconst 0, 1) := by decide +kernel
theorem dX6_fail_81 : decode cX6_fail 81 = .ok (.putfield 89, 3) := by decide +kernel
theorem dX6_fail_84 : decode cX6_fail 84 = .ok (.return_, 1) := by decide +kernel
theorem dX6_push_0 : decode cX6_push 0 = .ok (.aload_n 0, 1) := by decide +kernel
theorem dX6_push_1 : decode cX6_push 1 = .ok (.getfield 83, 3) := by decide +kernel
theorem dX6_push_4 : decode cX6_push 4 = .ok (.aload_n 0, 1) := by decide +kernel
theorem dX6_push_5 : decode cX6_push 5 = .ok (.getfield 20, 3) := by decide +kernel
theorem dX6_push_8 : decode cX6_push 8 = .ok (.arraylength, 1) := by decide +kernel
theorem dX6_push_9 : decode cX6_push 9 = .ok (.if_icmp .ge 23, 3) := by decide +kernel
theorem dX6_push_12 : decode cX6_push 12 = .ok (.aload_n 0, 1) := by decide +kernel
theorem dX6_push_13 : decode cX6_push 13 = .ok (.getfield 20, 3) := by decide +kernel
theorem dX6_push_16 : decode cX6_push 16 = .ok (.aload_n 0, 1) := by decide +kernel
theorem dX6_push_17 : decode cX6_push 17 = .ok (.getfield 83, 3) := by decide +kernel
theorem dX6_push_20 : decode cX6_push 20 = .ok (.iload_n 1, 1) := by decide +kernel
theorem dX6_push_21 : decode cX6_push 21 = .ok (.iastore, 1) := by decide +kernel
theorem dX6_push_22 : decode cX6_push 22 = .ok (.aload_n 0, 1) := by decide +kernel
theorem dX6_push_23 : decode cX6_push 23 = .ok (.dup, 1) := by decide +kernel
theorem dX6_push_24 : decode cX6_push 24 = .ok (.getfield 83, 3) := by decide +kernel
theorem dX6_push_27 : decode cX6_push 27 = .ok (.iconst 1, 1) := by decide +kernel
theorem dX6_push_28 : decode cX6_push 28 = .ok (.iadd, 1) := by decide +kernel
theorem dX6_push_29 : decode cX6_push 29 = .ok (.putfield 83, 3) := by decide +kernel
theorem dX6_push_32 : decode cX6_push 32 = .ok (.return_, 1) := by decide +kernel
theorem dX6_pop_0 : decode cX6_pop 0 = .ok (.aload_n 0, 1) := by decide +kernel
theorem dX6_pop_1 : decode cX6_pop 1 = .ok (.getfield 83, 3) := by decide +kernel
theorem dX6_pop_4 : decode cX6_pop 4 = .ok (.ifCond .gt 5, 3) := by decide +kernel
theorem dX6_pop_7 : decode cX6_pop 7 = .ok (.iconst 0, 1) := by decide +kernel
theorem dX6_pop_8 : decode cX6_pop 8 = .ok (.ireturn, 1) := by decide +kernel
theorem dX6_pop_9 : decode cX6_pop 9 = .ok (.aload_n 0, 1) := by decide +kernel
theorem dX6_pop_10 : decode cX6_pop 10 = .ok (.dup, 1) := by decide +kernel
theorem dX6_pop_11 : decode cX6_pop 11 = .ok (.getfield 83, 3) := by decide +kernel
theorem dX6_pop_14 : decode cX6_pop 14 = .ok (.iconst 1, 1) := by decide +kernel
theorem dX6_pop_15 : decode cX6_pop 15 = .ok (.isub, 1) := by decide +kernel
theorem dX6_pop_16 : decode cX6_pop 16 = .ok (.putfield 83, 3) := by decide +kernel
theorem dX6_pop_19 : decode cX6_pop 19 = .ok (.aload_n 0, 1) := by decide +kernel
theorem dX6_pop_20 : decode cX6_pop 20 = .ok (.getfield 20, 3) := by decide +kernel
theorem dX6_pop_23 : decode cX6_pop 23 = .ok (.aload_n 0, 1) := by decide +kernel
theorem dX6_pop_24 : decode cX6_pop 24 = .ok (.getfield 83, 3) := by decide +kernel
theorem dX6_pop_27 : decode cX6_pop 27 = .ok (.iaload, 1) := by decide +kernel
theorem dX6_pop_28 : decode cX6_pop 28 = .ok (.ireturn, 1) := by decide +kernel
theorem dX6_peek_0 : decode cX6_peek 0 = .ok (.aload_n 0, 1) := by decide +kernel
theorem dX6_peek_1 : decode cX6_peek 1 = .ok (.getfield 83, 3) := by decide +kernel
theorem dX6_peek_4 : decode cX6_peek 4 = .ok (.iconst 1, 1) := by decide +kernel
theorem dX6_peek_5 : decode cX6_peek 5 = .ok (.isub, 1) := by decide +kernel
theorem dX6_peek_6 : decode cX6_peek 6 = .ok (.iload_n 1, 1) := by decide +kernel
theorem dX6_peek_7 : decode cX6_peek 7 = .ok (.isub, 1) := by decide +kernel
theorem dX6_peek_8 : decode cX6_peek 8 = .ok (.istore_n 2, 1) := by decide +kernel
theorem dX6_peek_9 : decode cX6_peek 9 = .ok (.iload_n 2, 1) := by decide +kernel
theorem dX6_peek_10 : decode cX6_peek 10 = .ok (.ifCond .lt 21, 3) := by decide +kernel
theorem dX6_peek_13 : decode cX6_peek 13 = .ok (.iload_n 2, 1) := by decide +kernel
theorem dX6_peek_14 : decode cX6_peek 14 = .ok (.aload_n 0, 1) := by decide +kernel
theorem dX6_peek_15 : decode cX6_peek 15 = .ok (.getfield 20, 3) := by decide +kernel
theorem dX6_peek_18 : decode cX6_peek 18 = .ok (.arraylength, 1) := by decide +kernel
theorem dX6_peek_19 : decode cX6_peek 19 = .ok (.if_icmp .ge 12, 3) := by decide +kernel
theorem dX6_peek_22 : decode cX6_peek 22 = .ok (.aload_n 0, 1) := by decide +kernel
theorem dX6_peek_23 : decode cX6_peek 23 = .ok (.getfield 20, 3) := by decide +kernel
theorem dX6_peek_26 : decode cX6_peek 26 = .ok (.iload_n 2, 1) := by decide +kernel
theorem dX6_peek_27 : decode cX6_peek 27 = .ok (.iaload, 1) := by decide +kernel
theorem dX6_peek_28 : decode cX6_peek 28 = .ok (.goto 4, 3) := by decide +kernel
theorem dX6_peek_31 : decode cX6_peek 31 = .ok (.iconst 0, 1) := by decide +kernel
theorem dX6_peek_32 : decode cX6_peek 32 = .ok (.ireturn, 1) := by decide +kernel
theorem dX6_ready_0 : decode cX6_ready 0 = .ok (.aload_n 0, 1) := by decide +kernel
theorem dX6_ready_1 : decode cX6_ready 1 = .ok (.getfield 14, 3) := by decide +kernel
theorem dX6_ready_4 : decode cX6_ready 4 = .ok (.getfield 96, 3) := by decide +kernel
theorem dX6_ready_7 : decode cX6_ready 7 = .ok (.iload_n 1, 1) := by decide +kernel
theorem dX6_ready_8 : decode cX6_ready 8 = .ok (.iaload, 1) := by decide +kernel
theorem dX6_ready_9 : decode cX6_ready 9 = .ok (.istore_n 2, 1) := by decide +kernel
theorem dX6_ready_10 : decode cX6_ready 10 = .ok (.iload_n 2, 1) := by decide +kernel
theorem dX6_ready_11 : decode cX6_ready 11 = .ok (.iconst 4, 1) := by decide +kernel
theorem dX6_ready_12 : decode cX6_ready 12 = .ok (.if_icmp .eq 8, 3) := by decide +kernel
theorem dX6_ready_15 : decode cX6_ready 15 = .ok (.iload_n 2, 1) := by decide +kernel
theorem dX6_ready_16 : decode cX6_ready 16 = .ok (.iconst 3, 1) := by decide +kernel
theorem dX6_ready_17 : decode cX6_ready 17 = .ok (.if_icmp .ne 5, 3) := by decide +kernel
theorem dX6_ready_20 : decode cX6_ready 20 = .ok (.iconst 1, 1) := by decide +kernel
theorem dX6_ready_21 : decode cX6_ready 21 = .ok (.ireturn, 1) := by decide +kernel
theorem dX6_ready_22 : decode cX6_ready 22 = .ok (.iload_n 2, 1) := by decide +kernel
theorem dX6_ready_23 : decode cX6_ready 23 = .ok (.bipush 7, 2) := by decide +kernel
theorem dX6_ready_25 : decode cX6_ready 25 = .ok (.if_icmp .eq 12, 3) := by decide +kernel
theorem dX6_ready_28 : decode cX6_ready 28 = .ok (.aload_n 0, 1) := by decide +kernel
theorem dX6_ready_29 : decode cX6_ready 29 = .ok (.getfield 86, 3) := by decide +kernel
theorem dX6_ready_32 : decode cX6_ready 32 = .ok (.bipush 24, 2) := by decide +kernel
theorem dX6_ready_34 : decode cX6_ready 34 = .ok (.if_icmp .lt 22, 3) := by decide +kernel
theorem dX6_ready_37 : decode cX6_ready 37 = .ok (.aload_n 0, 1) := by decide +kernel
theorem dX6_ready_38 : decode cX6_ready 38 = .ok (.iload_n 2, 1) := by decide +kernel
theorem dX6_ready_39 : decode cX6_ready 39 = .ok (.bipush 7, 2) := by decide +kernel
theorem dX6_ready_41 : decode cX6_ready 41 = .ok (.if_icmp .ne 8, 3) := by decide +kernel
theorem dX6_ready_44 : decode cX6_ready 44 = .ok (.bipush 9, 2) := by decide +kernel
theorem dX6_ready_46 : decode cX6_ready 46 = .ok (.goto 5, 3) := by decide +kernel
theorem dX6_ready_49 : decode cX6_ready 49 = .ok (.bipush 15, 2) := by decide +kernel
theorem dX6_ready_51 : decode cX6_ready 51 = .ok (.invokevirtual 103, 3) := by decide +kernel
theorem dX6_ready_54 : decode cX6_ready 54 = .ok (.iconst 0, 1) := by decide +kernel
theorem dX6_ready_55 : decode cX6_ready 55 = .ok (.ireturn, 1) := by decide +kernel
theorem dX6_ready_56 : decode cX6_ready 56 = .ok (.aload_n 0, 1) := by decide +kernel
theorem dX6_ready_57 : decode cX6_ready 57 = .ok (.getfield 14, 3) := by decide +kernel
theorem dX6_ready_60 : decode cX6_ready 60 = .ok (.iload_n 1, 1) := by decide +kernel
theorem dX6_ready_61 : decode cX6_ready 61 = .ok (.invokevirtual 106, 3) := by decide +kernel
theorem dX6_ready_64 : decode cX6_ready 64 = .ok (.istore_n 3, 1) := by decide +kernel
theorem dX6_ready_65 : decode cX6_ready 65 = .ok (.iload_n 3, 1) := by decide +kernel
theorem dX6_ready_66 : decode cX6_ready 66 = .ok (.ifCond .eq 10, 3) := by decide +kernel
theorem dX6_ready_69 : decode cX6_ready 69 = .ok (.aload_n 0, 1) := by decide +kernel
theorem dX6_ready_70 : decode cX6_ready 70 = .ok (.iload_n 3, 1) := by decide +kernel
theorem dX6_ready_71 : decode cX6_ready 71 = .ok (.invokevirtual 103, 3) := by decide +kernel
theorem dX6_ready_74 : decode cX6_ready 74 = .ok (.iconst 0, 1) := by decide +kernel
theorem dX6_ready_75 : decode cX6_ready 75 = .ok (.ireturn, 1) := by decide +kernel
theorem dX6_ready_76 : decode cX6_ready 76 = .ok (.aload_n 0, 1) := by decide +kernel
theorem dX6_ready_77 : decode cX6_ready 77 = .ok (.getfield 14, 3) := by decide +kernel
theorem dX6_ready_80 : decode cX6_ready 80 = .ok (.getfield 96, 3) := by decide +kernel
theorem dX6_ready_83 : decode cX6_ready 83 = .ok (.iload_n 1, 1) := by decide +kernel
theorem dX6_ready_84 : decode cX6_ready 84 = .ok (.iconst 3, 1) := by decide +kernel
theorem dX6_ready_85 : decode cX6_ready 85 = .ok (.iastore, 1) := by decide +kernel
theorem dX6_ready_86 : decode cX6_ready 86 = .ok (.aload_n 0, 1) := by decide +kernel
theorem dX6_ready_87 : decode cX6_ready 87 = .ok (.getfield 14, 3) := by decide +kernel
theorem dX6_ready_90 : decode cX6_ready 90 = .ok (.iload_n 1, 1) := by decide +kernel
theorem dX6_ready_91 : decode cX6_ready 91 = .ok (.iconst 3, 1) := by decide +kernel
theorem dX6_ready_92 : decode cX6_ready 92 = .ok (.invokevirtual 99, 3) := by decide +kernel
theorem dX6_ready_95 : decode cX6_ready 95 = .ok (.aload_n 0, 1) := by decide +kernel
theorem dX6_ready_96 : decode cX6_ready 96 = .ok (.iload_n 1, 1) := by decide +kernel
theorem dX6_ready_97 : decode cX6_ready 97 = .ok (.iconst 3, 1) := by decide +kernel
theorem dX6_ready_98 : decode cX6_ready 98 = .ok (.aload_n 0, 1) := by decide +kernel
theorem dX6_ready_99 : decode cX6_ready 99 = .ok (.getfield 83, 3) := by decide +kernel
theorem dX6_ready_102 : decode cX6_ready 102 = .ok (.aload_n 0, 1) := by decide +kernel
theorem dX6_ready_103 : decode cX6_ready 103 = .ok (.getfield 47, 3) := by decide +kernel
theorem dX6_ready_106 : decode cX6_ready 106 = .ok (.getfield 110, 3) := by decide +kernel
theorem dX6_ready_109 : decode cX6_ready 109 = .ok (.iload_n 1, 1) := by decide +kernel
theorem dX6_ready_110 : decode cX6_ready 110 = .ok (.aaload, 1) := by decide +kernel
theorem dX6_ready_111 : decode cX6_ready 111 = .ok (.getfield 116, 3) := by decide +kernel
theorem dX6_ready_114 : decode cX6_ready 114 = .ok (.invokevirtual 122, 3) := by decide +kernel
theorem dX6_ready_117 : decode cX6_ready 117 = .ok (.aload_n 0, 1) := by decide +kernel
theorem dX6_ready_118 : decode cX6_ready 118 = .ok (.getfield 26, 3) := by decide +kernel
theorem dX6_ready_121 : decode cX6_ready 121 = .ok (.aload_n 0, 1) := by decide +kernel
theorem dX6_ready_122 : decode cX6_ready 122 = .ok (.getfield 86, 3) := by decide +kernel
theorem dX6_ready_125 : decode cX6_ready 125 = .ok (.iconst 1, 1) := by decide +kernel
theorem dX6_ready_126 : decode cX6_ready 126 = .ok (.isub, 1) := by decide +kernel
theorem dX6_ready_127 : decode cX6_ready 127 = .ok (.aaload, 1) := by decide +kernel
theorem dX6_ready_128 : decode cX6_ready 128 = .ok (.bipush 6, 2) := by decide +kernel
theorem dX6_ready_130 : decode cX6_ready 130 = .ok (.iconst 0, 1) := by decide +kernel
theorem dX6_ready_131 : decode cX6_ready 131 = .ok (.iastore, 1) := by decide +kernel
theorem dX6_ready_132 : decode cX6_ready 132 = .ok (.iconst 0, 1) := by decide +kernel
theorem dX6_ready_133 : decode cX6_ready 133 = .ok (.ireturn, 1) := by decide +kernel
theorem dX6_openFrame_0 : decode cX6_openFrame 0 = .ok (.aload_n 0, 1) := by decide +kernel
theorem dX6_openFrame_1 : decode cX6_openFrame 1 = .ok (.getfield 26, 3) := by decide +kernel
theorem dX6_openFrame_4 : decode cX6_openFrame 4 = .ok (.aload_n 0, 1) := by decide +kernel
theorem dX6_openFrame_5 : decode cX6_openFrame 5 = .ok (.getfield 86, 3) := by decide +kernel
theorem dX6_openFrame_8 : decode cX6_openFrame 8 = .ok (.aaload, 1) := by decide +kernel
theorem dX6_openFrame_9 : decode cX6_openFrame 9 = .ok (.astore 5, 2) := by decide +kernel
theorem dX6_openFrame_11 : decode cX6_openFrame 11 = .ok (.aload 5, 2) := by decide +kernel
theorem dX6_openFrame_13 : decode cX6_openFrame 13 = .ok (.iconst 0, 1) := by decide +kernel
theorem dX6_openFrame_14 : decode cX6_openFrame 14 = .ok (.iload_n 1, 1) := by decide +kernel
theorem dX6_openFrame_15 : decode cX6_openFrame 15 = .ok (.iastore, 1) := by decide +kernel
theorem dX6_openFrame_16 : decode cX6_openFrame 16 = .ok (.aload 5, 2) := by decide +kernel
theorem dX6_openFrame_18 : decode cX6_openFrame 18 = .ok (.iconst 4, 1) := by decide +kernel
theorem dX6_openFrame_19 : decode cX6_openFrame 19 = .ok (.iload_n 2, 1) := by decide +kernel
theorem dX6_openFrame_20 : decode cX6_openFrame 20 = .ok (.iastore, 1) := by decide +kernel
theorem dX6_openFrame_21 : decode cX6_openFrame 21 = .ok (.aload 5, 2) := by decide +kernel
theorem dX6_openFrame_23 : decode cX6_openFrame 23 = .ok (.iconst 2, 1) := by decide +kernel
theorem dX6_openFrame_24 : decode cX6_openFrame 24 = .ok (.iload_n 3, 1) := by decide +kernel
theorem dX6_openFrame_25 : decode cX6_openFrame 25 = .ok (.iastore, 1) := by decide +kernel
theorem dX6_openFrame_26 : decode cX6_openFrame 26 = .ok (.aload 5, 2) := by decide +kernel
theorem dX6_openFrame_28 : decode cX6_openFrame 28 = .ok (.iconst 3, 1) := by decide +kernel
theorem dX6_openFrame_29 : decode cX6_openFrame 29 = .ok (.aload_n 0, 1) := by decide +kernel
theorem dX6_openFrame_30 : decode cX6_openFrame 30 = .ok (.getfield 89, 3) := by decide +kernel
theorem dX6_openFrame_33 : decode cX6_openFrame 33 = .ok (.iastore, 1) := by decide +kernel
theorem dX6_openFrame_34 : decode cX6_openFrame 34 = .ok (.aload 5, 2) := by decide +kernel
theorem dX6_openFrame_36 : decode cX6_openFrame 36 = .ok (.bipush 6, 2) := by decide +kernel
theorem dX6_openFrame_38 : decode cX6_openFrame 38 = .ok (.bipush (-2), 2) := by decide +kernel
theorem dX6_openFrame_40 : decode cX6_openFrame 40 = .ok (.iastore, 1) := by decide +kernel
theorem dX6_openFrame_41 : decode cX6_openFrame 41 = .ok (.aload 5, 2) := by decide +kernel
theorem dX6_openFrame_43 : decode cX6_openFrame 43 = .ok (.iconst 5, 1) := by decide +kernel
theorem dX6_openFrame_44 : decode cX6_openFrame 44 = .ok (.iconst 0, 1) := by decide +kernel
theorem dX6_openFrame_45 : decode cX6_openFrame 45 = .ok (.iastore, 1) := by decide +kernel
theorem dX6_openFrame_46 : decode cX6_openFrame 46 = .ok (.aload 5, 2) := by decide +kernel
theorem dX6_openFrame_48 : decode cX6_openFrame 48 = .ok (.iconst 1, 1) := by decide +kernel
theorem dX6_openFrame_49 : decode cX6_openFrame 49 = .ok (.aload 4, 2) := by decide +kernel
theorem dX6_openFrame_51 : decode cX6_openFrame 51 = .ok (.ifnonnull 7, 3) := by decide +kernel
theorem dX6_openFrame_54 : decode cX6_openFrame 54 = .ok (.iconst 0, 1) := by decide +kernel
theorem dX6_openFrame_55 : decode cX6_openFrame 55 = .ok (.goto 8, 3) := by decide +kernel
theorem dX6_openFrame_58 : decode cX6_openFrame 58 = .ok (.aload 4, 2) := by decide +kernel
theorem dX6_openFrame_60 : decode cX6_openFrame 60 = .ok (.getfield 126, 3) := by decide +kernel
theorem dX6_openFrame_63 : decode cX6_openFrame 63 = .ok (.iastore, 1) := by decide +kernel
theorem dX6_openFrame_64 : decode cX6_openFrame 64 = .ok (.aload_n 0, 1) := by decide +kernel
theorem dX6_openFrame_65 : decode cX6_openFrame 65 = .ok (.dup, 1) := by decide +kernel
theorem dX6_openFrame_66 : decode cX6_openFrame 66 = .ok (.getfield 86, 3) := by decide +kernel
theorem dX6_openFrame_69 : decode cX6_openFrame 69 = .ok (.iconst 1, 1) := by decide +kernel
theorem dX6_openFrame_70 : decode cX6_openFrame 70 = .ok (.iadd, 1) := by decide +kernel
theorem dX6_openFrame_71 : decode cX6_openFrame 71 = .ok (.putfield 86, 3) := by decide +kernel
theorem dX6_openFrame_74 : decode cX6_openFrame 74 = .ok (.iload_n 3, 1) := by decide +kernel
theorem dX6_openFrame_75 : decode cX6_openFrame 75 = .ok (.aload 4, 2) := by decide +kernel
theorem dX6_openFrame_77 : decode cX6_openFrame 77 = .ok (.ifnonnull 7, 3) := by decide +kernel
theorem dX6_openFrame_80 : decode cX6_openFrame 80 = .ok (.iconst 0, 1) := by decide +kernel
theorem dX6_openFrame_81 : decode cX6_openFrame 81 = .ok (.goto 8, 3) := by decide +kernel
theorem dX6_openFrame_84 : decode cX6_openFrame 84 = .ok (.aload 4, 2) := by decide +kernel
theorem dX6_openFrame_86 : decode cX6_openFrame 86 = .ok (.getfield 131, 3) := by decide +kernel
theorem dX6_openFrame_89 : decode cX6_openFrame 89 = .ok (.iadd, 1) := by decide +kernel
theorem dX6_openFrame_90 : decode cX6_openFrame 90 = .ok (.istore 6, 2) := by decide +kernel
theorem dX6_openFrame_92 : decode cX6_openFrame 92 = .ok (.aload_n 0, 1) := by decide +kernel
theorem dX6_openFrame_93 : decode cX6_openFrame 93 = .ok (.getfield 83, 3) := by decide +kernel
theorem dX6_openFrame_96 : decode cX6_openFrame 96 = .ok (.iload 6, 2) := by decide +kernel
theorem dX6_openFrame_98 : decode cX6_openFrame 98 = .ok (.if_icmp .ge 38, 3) := by decide +kernel
theorem dX6_openFrame_101 : decode cX6_openFrame 101 = .ok (.aload_n 0, 1) := by decide +kernel
theorem dX6_openFrame_102 : decode cX6_openFrame 102 = .ok (.getfield 83, 3) := by decide +kernel
theorem dX6_openFrame_105 : decode cX6_openFrame 105 = .ok (.aload_n 0, 1) := by decide +kernel
theorem dX6_openFrame_106 : decode cX6_openFrame 106 = .ok (.getfield 20, 3) := by decide +kernel
theorem dX6_openFrame_109 : decode cX6_openFrame 109 = .ok (.arraylength, 1) := by decide +kernel
theorem dX6_openFrame_110 : decode cX6_openFrame 110 = .ok (.if_icmp .ge 26, 3) := by decide +kernel
theorem dX6_openFrame_113 : decode cX6_openFrame 113 = .ok (.aload_n 0, 1) := by decide +kernel
theorem dX6_openFrame_114 : decode cX6_openFrame 114 = .ok (.getfield 20, 3) := by decide +kernel
theorem dX6_openFrame_117 : decode cX6_openFrame 117 = .ok (.aload_n 0, 1) := by decide +kernel
theorem dX6_openFrame_118 : decode cX6_openFrame 118 = .ok (.getfield 83, 3) := by decide +kernel
theorem dX6_openFrame_121 : decode cX6_openFrame 121 = .ok (.iconst 0, 1) := by decide +kernel
theorem dX6_openFrame_122 : decode cX6_openFrame 122 = .ok (.iastore, 1) := by decide +kernel
theorem dX6_openFrame_123 : decode cX6_openFrame 123 = .ok (.aload_n 0, 1) := by decide +kernel
theorem dX6_openFrame_124 : decode cX6_openFrame 124 = .ok (.dup, 1) := by decide +kernel
theorem dX6_openFrame_125 : decode cX6_openFrame 125 = .ok (.getfield 83, 3) := by decide +kernel
theorem dX6_openFrame_128 : decode cX6_openFrame 128 = .ok (.iconst 1, 1) := by decide +kernel
theorem dX6_openFrame_129 : decode cX6_openFrame 129 = .ok (.iadd, 1) := by decide +kernel
theorem dX6_openFrame_130 : decode cX6_openFrame 130 = .ok (.putfield 83, 3) := by decide +kernel
theorem dX6_openFrame_133 : decode cX6_openFrame 133 = .ok (.goto (-41), 3) := by decide +kernel
theorem dX6_openFrame_136 : decode cX6_openFrame 136 = .ok (.return_, 1) := by decide +kernel
theorem dX6_call_0 : decode cX6_call 0 = .ok (.aload_n 0, 1) := by decide +kernel
theorem dX6_call_1 : decode cX6_call 1 = .ok (.getfield 68, 3) := by decide +kernel
theorem dX6_call_4 : decode cX6_call 4 = .ok (.sipush 20000, 3) := by decide +kernel
theorem dX6_call_7 : decode cX6_call 7 = .ok (.if_icmp .lt 12, 3) := by decide +kernel
theorem dX6_call_10 : decode cX6_call 10 = .ok (.aload_n 0, 1) := by decide +kernel
theorem dX6_call_11 : decode cX6_call 11 = .ok (.bipush 14, 2) := by decide +kernel
theorem dX6_call_13 : decode cX6_call 13 = .ok (.invokevirtual 103, 3) := by decide +kernel
theorem dX6_call_16 : decode cX6_call 16 = .ok (.goto 69, 3) := by decide +kernel
theorem dX6_call_19 : decode cX6_call 19 = .ok (.aload_n 0, 1) := by decide +kernel
theorem dX6_call_20 : decode cX6_call 20 = .ok (.getfield 86, 3) := by decide +kernel
theorem dX6_call_23 : decode cX6_call 23 = .ok (.bipush 24, 2) := by decide +kernel
theorem dX6_call_25 : decode cX6_call 25 = .ok (.if_icmp .ge 27, 3) := by decide +kernel
theorem dX6_call_28 : decode cX6_call 28 = .ok (.aload_n 0, 1) := by decide +kernel
theorem dX6_call_29 : decode cX6_call 29 = .ok (.getfield 83, 3) := by decide +kernel
theorem dX6_call_32 : decode cX6_call 32 = .ok (.iload_n 3, 1) := by decide +kernel
theorem dX6_call_33 : decode cX6_call 33 = .ok (.if_icmp .lt 19, 3) := by decide +kernel
theorem dX6_call_36 : decode cX6_call 36 = .ok (.aload_n 0, 1) := by decide +kernel
theorem dX6_call_37 : decode cX6_call 37 = .ok (.getfield 83, 3) := by decide +kernel
theorem dX6_call_40 : decode cX6_call 40 = .ok (.sipush 800, 3) := by decide +kernel
theorem dX6_call_43 : decode cX6_call 43 = .ok (.iadd, 1) := by decide +kernel
theorem dX6_call_44 : decode cX6_call 44 = .ok (.aload_n 0, 1) := by decide +kernel
theorem dX6_call_45 : decode cX6_call 45 = .ok (.getfield 20, 3) := by decide +kernel
theorem dX6_call_48 : decode cX6_call 48 = .ok (.arraylength, 1) := by decide +kernel
theorem dX6_call_49 : decode cX6_call 49 = .ok (.if_icmp .le 12, 3) := by decide +kernel
theorem dX6_call_52 : decode cX6_call 52 = .ok (.aload_n 0, 1) := by decide +kernel
theorem dX6_call_53 : decode cX6_call 53 = .ok (.bipush 15, 2) := by decide +kernel
theorem dX6_call_55 : decode cX6_call 55 = .ok (.invokevirtual 103, 3) := by decide +kernel
theorem dX6_call_58 : decode cX6_call 58 = .ok (.goto 27, 3) := by decide +kernel
theorem dX6_call_61 : decode cX6_call 61 = .ok (.aload_n 0, 1) := by decide +kernel
theorem dX6_call_62 : decode cX6_call 62 = .ok (.dup, 1) := by decide +kernel
theorem dX6_call_63 : decode cX6_call 63 = .ok (.getfield 68, 3) := by decide +kernel
theorem dX6_call_66 : decode cX6_call 66 = .ok (.iconst 1, 1) := by decide +kernel
theorem dX6_call_67 : decode cX6_call 67 = .ok (.iadd, 1) := by decide +kernel
theorem dX6_call_68 : decode cX6_call 68 = .ok (.putfield 68, 3) := by decide +kernel
theorem dX6_call_71 : decode cX6_call 71 = .ok (.aload_n 0, 1) := by decide +kernel
theorem dX6_call_72 : decode cX6_call 72 = .ok (.iload_n 1, 1) := by decide +kernel
theorem dX6_call_73 : decode cX6_call 73 = .ok (.iload 4, 2) := by decide +kernel
theorem dX6_call_75 : decode cX6_call 75 = .ok (.aload_n 0, 1) := by decide +kernel
theorem dX6_call_76 : decode cX6_call 76 = .ok (.getfield 83, 3) := by decide +kernel
theorem dX6_call_79 : decode cX6_call 79 = .ok (.iload_n 3, 1) := by decide +kernel
theorem dX6_call_80 : decode cX6_call 80 = .ok (.isub, 1) := by decide +kernel
theorem dX6_call_81 : decode cX6_call 81 = .ok (.aload_n 2, 1) := by decide +kernel
theorem dX6_call_82 : decode cX6_call 82 = .ok (.invokevirtual 122, 3) := by decide +kernel
theorem dX6_call_85 : decode cX6_call 85 = .ok (.return_, 1) := by decide +kernel
theorem dX6_turn_0 : decode cX6_turn 0 = .ok (.aload_n 0, 1) := by decide +kernel
theorem dX6_turn_1 : decode cX6_turn 1 = .ok (.getfield 26, 3) := by decide +kernel
theorem dX6_turn_4 : decode cX6_turn 4 = .ok (.aload_n 0, 1) := by decide +kernel
theorem dX6_turn_5 : decode cX6_turn 5 = .ok (.getfield 86, 3) := by decide +kernel
theorem dX6_turn_8 : decode cX6_turn 8 = .ok (.iconst 1, 1) := by decide +kernel
theorem dX6_turn_9 : decode cX6_turn 9 = .ok (.isub, 1) := by decide +kernel
theorem dX6_turn_10 : decode cX6_turn 10 = .ok (.aaload, 1) := by decide +kernel
theorem dX6_turn_11 : decode cX6_turn 11 = .ok (.astore_n 1, 1) := by decide +kernel
theorem dX6_turn_12 : decode cX6_turn 12 = .ok (.aload_n 1, 1) := by decide +kernel
theorem dX6_turn_13 : decode cX6_turn 13 = .ok (.bipush 6, 2) := by decide +kernel
theorem dX6_turn_15 : decode cX6_turn 15 = .ok (.iaload, 1) := by decide +kernel
theorem dX6_turn_16 : decode cX6_turn 16 = .ok (.ifCond .lt 20, 3) := by decide +kernel
theorem dX6_turn_19 : decode cX6_turn 19 = .ok (.aload_n 0, 1) := by decide +kernel
theorem dX6_turn_20 : decode cX6_turn 20 = .ok (.aload_n 1, 1) := by decide +kernel
theorem dX6_turn_21 : decode cX6_turn 21 = .ok (.invokevirtual 134, 3) := by decide +kernel
theorem dX6_turn_24 : decode cX6_turn 24 = .ok (.istore_n 2, 1) := by decide +kernel
theorem dX6_turn_25 : decode cX6_turn 25 = .ok (.iload_n 2, 1) := by decide +kernel
theorem dX6_turn_26 : decode cX6_turn 26 = .ok (.ifCond .lt 9, 3) := by decide +kernel
theorem dX6_turn_29 : decode cX6_turn 29 = .ok (.aload_n 0, 1) := by decide +kernel
theorem dX6_turn_30 : decode cX6_turn 30 = .ok (.iload_n 2, 1) := by decide +kernel
theorem dX6_turn_31 : decode cX6_turn 31 = .ok (.invokevirtual 92, 3) := by decide +kernel
theorem dX6_turn_34 : decode cX6_turn 34 = .ok (.pop, 1) := by decide +kernel
theorem dX6_turn_35 : decode cX6_turn 35 = .ok (.return_, 1) := by decide +kernel
theorem dX6_turn_36 : decode cX6_turn 36 = .ok (.aload_n 1, 1) := by decide +kernel
theorem dX6_turn_37 : decode cX6_turn 37 = .ok (.iconst 0, 1) := by decide +kernel
theorem dX6_turn_38 : decode cX6_turn 38 = .ok (.iaload, 1) := by decide +kernel
theorem dX6_turn_39 : decode cX6_turn 39 = .ok (.istore_n 2, 1) := by decide +kernel
theorem dX6_turn_40 : decode cX6_turn 40 = .ok (.aload_n 0, 1) := by decide +kernel
theorem dX6_turn_41 : decode cX6_turn 41 = .ok (.getfield 47, 3) := by decide +kernel
theorem dX6_turn_44 : decode cX6_turn 44 = .ok (.getfield 110, 3) := by decide +kernel
theorem dX6_turn_47 : decode cX6_turn 47 = .ok (.iload_n 2, 1) := by decide +kernel
theorem dX6_turn_48 : decode cX6_turn 48 = .ok (.aaload, 1) := by decide +kernel
theorem dX6_turn_49 : decode cX6_turn 49 = .ok (.getfield 138, 3) := by decide +kernel
theorem dX6_turn_52 : decode cX6_turn 52 = .ok (.astore_n 3, 1) := by decide +kernel
theorem dX6_turn_53 : decode cX6_turn 53 = .ok (.aload_n 1, 1) := by decide +kernel
theorem dX6_turn_54 : decode cX6_turn 54 = .ok (.iconst 1, 1) := by decide +kernel
theorem dX6_turn_55 : decode cX6_turn 55 = .ok (.iaload, 1) := by decide +kernel
theorem dX6_turn_56 : decode cX6_turn 56 = .ok (.istore 4, 2) := by decide +kernel
theorem dX6_turn_58 : decode cX6_turn 58 = .ok (.iload 4, 2) := by decide +kernel
theorem dX6_turn_60 : decode cX6_turn 60 = .ok (.ifCond .lt 14, 3) := by decide +kernel
theorem dX6_turn_63 : decode cX6_turn 63 = .ok (.iload 4, 2) := by decide +kernel
theorem dX6_turn_65 : decode cX6_turn 65 = .ok (.iconst 1, 1) := by decide +kernel
theorem dX6_turn_66 : decode cX6_turn 66 = .ok (.iadd, 1) := by decide +kernel
theorem dX6_turn_67 : decode cX6_turn 67 = .ok (.aload_n 3, 1) := by decide +kernel
theorem dX6_turn_68 : decode cX6_turn 68 = .ok (.getfield 142, 3) := by decide +kernel
theorem dX6_turn_71 : decode cX6_turn 71 = .ok (.if_icmp .lt 10, 3) := by decide +kernel
theorem dX6_turn_74 : decode cX6_turn 74 = .ok (.aload_n 0, 1) := by decide +kernel
theorem dX6_turn_75 : decode cX6_turn 75 = .ok (.bipush 14, 2) := by decide +kernel
theorem dX6_turn_77 : decode cX6_turn 77 = .ok (.invokevirtual 103, 3) := by decide +kernel
theorem dX6_turn_80 : decode cX6_turn 80 = .ok (.return_, 1) := by decide +kernel
theorem dX6_turn_81 : decode cX6_turn 81 = .ok (.aload_n 3, 1) := by decide +kernel
theorem dX6_turn_82 : decode cX6_turn 82 = .ok (.getfield 147, 3) := by decide +kernel
theorem dX6_turn_85 : decode cX6_turn 85 = .ok (.iload 4, 2) := by decide +kernel
theorem dX6_turn_87 : decode cX6_turn 87 = .ok (.iaload, 1) := by decide +kernel
theorem dX6_turn_88 : decode cX6_turn 88 = .ok (.istore 5, 2) := by decide +kernel
theorem dX6_turn_90 : decode cX6_turn 90 = .ok (.aload_n 3, 1) := by decide +kernel
theorem dX6_turn_91 : decode cX6_turn 91 = .ok (.getfield 147, 3) := by decide +kernel
theorem dX6_turn_94 : decode cX6_turn 94 = .ok (.iload 4, 2) := by decide +kernel
theorem dX6_turn_96 : decode cX6_turn 96 = .ok (.iconst 1, 1) := by decide +kernel
theorem dX6_turn_97 : decode cX6_turn 97 = .ok (.iadd, 1) := by decide +kernel
theorem dX6_turn_98 : decode cX6_turn 98 = .ok (.iaload, 1) := by decide +kernel
theorem dX6_turn_99 : decode cX6_turn 99 = .ok (.istore 6, 2) := by decide +kernel
theorem dX6_turn_101 : decode cX6_turn 101 = .ok (.iconst 1, 1) := by decide +kernel
theorem dX6_turn_102 : decode cX6_turn 102 = .ok (.istore 7, 2) := by decide +kernel
theorem dX6_turn_104 : decode cX6_turn 104 = .ok (.iload 5, 2) := by decide +kernel
theorem dX6_turn_106 : decode cX6_turn 106 = .ok (.bipush 12, 2) := by decide +kernel
theorem dX6_turn_108 : decode cX6_turn 108 = .ok (.if_icmp .ge 17, 3) := by decide +kernel
theorem dX6_turn_111 : decode cX6_turn 111 = .ok (.aload_n 0, 1) := by decide +kernel
theorem dX6_turn_112 : decode cX6_turn 112 = .ok (.aload_n 1, 1) := by decide +kernel
theorem dX6_turn_113 : decode cX6_turn 113 = .ok (.iload 5, 2) := by decide +kernel
theorem dX6_turn_115 : decode cX6_turn 115 = .ok (.iload 6, 2) := by decide +kernel
theorem dX6_turn_117 : decode cX6_turn 117 = .ok (.invokevirtual 149, 3) := by decide +kernel
theorem dX6_turn_120 : decode cX6_turn 120 = .ok (.istore 7, 2) := by decide +kernel
theorem dX6_turn_122 : decode cX6_turn 122 = .ok (.goto 216, 3) := by decide +kernel
theorem dX6_turn_125 : decode cX6_turn 125 = .ok (.iload 5, 2) := by decide +kernel
theorem dX6_turn_127 : decode cX6_turn 127 = .ok (.bipush 30, 2) := by decide +kernel
theorem dX6_turn_129 : decode cX6_turn 129 = .ok (.if_icmp .ge 17, 3) := by decide +kernel
theorem dX6_turn_132 : decode cX6_turn 132 = .ok (.aload_n 0, 1) := by decide +kernel
theorem dX6_turn_133 : decode cX6_turn 133 = .ok (.aload_n 1, 1) := by decide +kernel
theorem dX6_turn_134 : decode cX6_turn 134 = .ok (.iload 5, 2) := by decide +kernel
theorem dX6_turn_136 : decode cX6_turn 136 = .ok (.iload 6, 2) := by decide +kernel
theorem dX6_turn_138 : decode cX6_turn 138 = .ok (.invokevirtual 153, 3) := by decide +kernel
theorem dX6_turn_141 : decode cX6_turn 141 = .ok (.istore 7, 2) := by decide +kernel
theorem dX6_turn_143 : decode cX6_turn 143 = .ok (.goto 195, 3) := by decide +kernel
theorem dX6_turn_146 : decode cX6_turn 146 = .ok (.iload 5, 2) := by decide +kernel
theorem dX6_turn_148 : decode cX6_turn 148 = .ok (.bipush 37, 2) := by decide +kernel
theorem dX6_turn_150 : decode cX6_turn 150 = .ok (.if_icmp .eq 10, 3) := by decide +kernel
theorem dX6_turn_153 : decode cX6_turn 153 = .ok (.iload 5, 2) := by decide +kernel
theorem dX6_turn_155 : decode cX6_turn 155 = .ok (.bipush 38, 2) := by decide +kernel
theorem dX6_turn_157 : decode cX6_turn 157 = .ok (.if_icmp .ne 11, 3) := by decide +kernel
theorem dX6_turn_160 : decode cX6_turn 160 = .ok (.aload_n 0, 1) := by decide +kernel
theorem dX6_turn_161 : decode cX6_turn 161 = .ok (.iconst 0, 1) := by decide +kernel
theorem dX6_turn_162 : decode cX6_turn 162 = .ok (.invokevirtual 156, 3) := by decide +kernel
theorem dX6_turn_165 : decode cX6_turn 165 = .ok (.ifCond .eq 173, 3) := by decide +kernel
theorem dX6_turn_168 : decode cX6_turn 168 = .ok (.aload_n 0, 1) := by decide +kernel
theorem dX6_turn_169 : decode cX6_turn 169 = .ok (.getfield 14, 3) := by decide +kernel
theorem dX6_turn_172 : decode cX6_turn 172 = .ok (.iload_n 2, 1) := by decide +kernel
theorem dX6_turn_173 : decode cX6_turn 173 = .ok (.iload 6, 2) := by decide +kernel
theorem dX6_turn_175 : decode cX6_turn 175 = .ok (.invokevirtual 159, 3) := by decide +kernel
theorem dX6_turn_178 : decode cX6_turn 178 = .ok (.ifCond .eq 7, 3) := by decide +kernel
theorem dX6_turn_181 : decode cX6_turn 181 = .ok (.iconst 0, 1) := by decide +kernel
theorem dX6_turn_182 : decode cX6_turn 182 = .ok (.goto 13, 3) := by decide +kernel
theorem dX6_turn_185 : decode cX6_turn 185 = .ok (.aload_n 0, 1) := by decide +kernel
theorem dX6_turn_186 : decode cX6_turn 186 = .ok (.getfield 14, 3) := by decide +kernel
theorem dX6_turn_189 : decode cX6_turn 189 = .ok (.iload_n 2, 1) := by decide +kernel
theorem dX6_turn_190 : decode cX6_turn 190 = .ok (.iload 6, 2) := by decide +kernel
theorem dX6_turn_192 : decode cX6_turn 192 = .ok (.invokevirtual 163, 3) := by decide +kernel
theorem dX6_turn_195 : decode cX6_turn 195 = .ok (.istore 8, 2) := by decide +kernel
theorem dX6_turn_197 : decode cX6_turn 197 = .ok (.iload 5, 2) := by decide +kernel
theorem dX6_turn_199 : decode cX6_turn 199 = .ok (.bipush 35, 2) := by decide +kernel
theorem dX6_turn_201 : decode cX6_turn 201 = .ok (.if_icmp .ne 13, 3) := by decide +kernel
theorem dX6_turn_204 : decode cX6_turn 204 = .ok (.aload_n 0, 1) := by decide +kernel
theorem dX6_turn_205 : decode cX6_turn 205 = .ok (.getfield 14, 3) := by decide +kernel
theorem dX6_turn_208 : decode cX6_turn 208 = .ok (.getfield 167, 3) := by decide +kernel
theorem dX6_turn_211 : decode cX6_turn 211 = .ok (.goto 59, 3) := by decide +kernel
theorem dX6_turn_214 : decode cX6_turn 214 = .ok (.iload 5, 2) := by decide +kernel
theorem dX6_turn_216 : decode cX6_turn 216 = .ok (.bipush 32, 2) := by decide +kernel
theorem dX6_turn_218 : decode cX6_turn 218 = .ok (.if_icmp .eq 40, 3) := by decide +kernel
theorem dX6_turn_221 : decode cX6_turn 221 = .ok (.iload 5, 2) := by decide +kernel
theorem dX6_turn_223 : decode cX6_turn 223 = .ok (.bipush 33, 2) := by decide +kernel
theorem dX6_turn_225 : decode cX6_turn 225 = .ok (.if_icmp .eq 33, 3) := by decide +kernel
theorem dX6_turn_228 : decode cX6_turn 228 = .ok (.iload 5, 2) := by decide +kernel
theorem dX6_turn_230 : decode cX6_turn 230 = .ok (.bipush 34, 2) := by decide +kernel
theorem dX6_turn_232 : decode cX6_turn 232 = .ok (.if_icmp .ne 36, 3) := by decide +kernel
theorem dX6_turn_235 : decode cX6_turn 235 = .ok (.aload_n 0, 1) := by decide +kernel
theorem dX6_turn_236 : decode cX6_turn 236 = .ok (.getfield 14, 3) := by decide +kernel
theorem dX6_turn_239 : decode cX6_turn 239 = .ok (.getfield 170, 3) := by decide +kernel
theorem dX6_turn_242 : decode cX6_turn 242 = .ok (.ifnull 26, 3) := by decide +kernel
theorem dX6_turn_245 : decode cX6_turn 245 = .ok (.aload_n 0, 1) := by decide +kernel
theorem dX6_turn_246 : decode cX6_turn 246 = .ok (.getfield 14, 3) := by decide +kernel
theorem dX6_turn_249 : decode cX6_turn 249 = .ok (.getfield 170, 3) := by decide +kernel
theorem dX6_turn_252 : decode cX6_turn 252 = .ok (.getfield 173, 3) := by decide +kernel
theorem dX6_turn_255 : decode cX6_turn 255 = .ok (.ifCond .eq 13, 3) := by decide +kernel
theorem dX6_turn_258 : decode cX6_turn 258 = .ok (.aload_n 0, 1) := by decide +kernel
theorem dX6_turn_259 : decode cX6_turn 259 = .ok (.getfield 14, 3) := by decide +kernel
theorem dX6_turn_262 : decode cX6_turn 262 = .ok (.getfield 177, 3) := by decide +kernel
theorem dX6_turn_265 : decode cX6_turn 265 = .ok (.goto 5, 3) := by decide +kernel
theorem dX6_turn_268 : decode cX6_turn 268 = .ok (.bipush (-2), 2) := by decide +kernel
theorem dX6_turn_270 : decode cX6_turn 270 = .ok (.istore 9, 2) := by decide +kernel
theorem dX6_turn_272 : decode cX6_turn 272 = .ok (.iload 8, 2) := by decide +kernel
theorem dX6_turn_274 : decode cX6_turn 274 = .ok (.ifCond .eq 10, 3) := by decide +kernel
theorem dX6_turn_277 : decode cX6_turn 277 = .ok (.aload_n 0, 1) := by decide +kernel
theorem dX6_turn_278 : decode cX6_turn 278 = .ok (.iload 8, 2) := by decide +kernel
theorem dX6_turn_280 : decode cX6_turn 280 = .ok (.invokevirtual 103, 3) := by decide +kernel
theorem dX6_turn_283 : decode cX6_turn 283 = .ok (.return_, 1) := by decide +kernel
theorem dX6_turn_284 : decode cX6_turn 284 = .ok (.aload_n 0, 1) := by decide +kernel
theorem dX6_turn_285 : decode cX6_turn 285 = .ok (.getfield 14, 3) := by decide +kernel
theorem dX6_turn_288 : decode cX6_turn 288 = .ok (.iload_n 2, 1) := by decide +kernel
theorem dX6_turn_289 : decode cX6_turn 289 = .ok (.iload 6, 2) := by decide +kernel
theorem dX6_turn_291 : decode cX6_turn 291 = .ok (.invokevirtual 180, 3) := by decide +kernel
theorem dX6_turn_294 : decode cX6_turn 294 = .ok (.iload 9, 2) := by decide +kernel
theorem dX6_turn_296 : decode cX6_turn 296 = .ok (.ifCond .lt 13, 3) := by decide +kernel
theorem dX6_turn_299 : decode cX6_turn 299 = .ok (.aload_n 0, 1) := by decide +kernel
theorem dX6_turn_300 : decode cX6_turn 300 = .ok (.iload 9, 2) := by decide +kernel
theorem dX6_turn_302 : decode cX6_turn 302 = .ok (.invokevirtual 92, 3) := by decide +kernel
theorem dX6_turn_305 : decode cX6_turn 305 = .ok (.ifCond .ne 4, 3) := by decide +kernel
theorem dX6_turn_308 : decode cX6_turn 308 = .ok (.return_, 1) := by decide +kernel
theorem dX6_turn_309 : decode cX6_turn 309 = .ok (.aload_n 0, 1) := by decide +kernel
theorem dX6_turn_310 : decode cX6_turn 310 = .ok (.aload_n 1, 1) := by decide +kernel
theorem dX6_turn_311 : decode cX6_turn 311 = .ok (.iload 5, 2) := by decide +kernel
theorem dX6_turn_313 : decode cX6_turn 313 = .ok (.aload_n 3, 1) := by decide +kernel
theorem dX6_turn_314 : decode cX6_turn 314 = .ok (.getfield 183, 3) := by decide +kernel
theorem dX6_turn_317 : decode cX6_turn 317 = .ok (.aload_n 0, 1) := by decide +kernel
theorem dX6_turn_318 : decode cX6_turn 318 = .ok (.getfield 47, 3) := by decide +kernel
theorem dX6_turn_321 : decode cX6_turn 321 = .ok (.getfield 110, 3) := by decide +kernel
theorem dX6_turn_324 : decode cX6_turn 324 = .ok (.iload_n 2, 1) := by decide +kernel
theorem dX6_turn_325 : decode cX6_turn 325 = .ok (.aaload, 1) := by decide +kernel
theorem dX6_turn_326 : decode cX6_turn 326 = .ok (.getfield 186, 3) := by decide +kernel
theorem dX6_turn_329 : decode cX6_turn 329 = .ok (.iload 6, 2) := by decide +kernel
theorem dX6_turn_331 : decode cX6_turn 331 = .ok (.iadd, 1) := by decide +kernel
theorem dX6_turn_332 : decode cX6_turn 332 = .ok (.iaload, 1) := by decide +kernel
theorem dX6_turn_333 : decode cX6_turn 333 = .ok (.invokevirtual 189, 3) := by decide +kernel
theorem dX6_turn_336 : decode cX6_turn 336 = .ok (.istore 7, 2) := by decide +kernel
theorem dX6_turn_338 : decode cX6_turn 338 = .ok (.iload 7, 2) := by decide +kernel
theorem dX6_turn_340 : decode cX6_turn 340 = .ok (.ifCond .eq 10, 3) := by decide +kernel
theorem dX6_turn_343 : decode cX6_turn 343 = .ok (.aload_n 1, 1) := by decide +kernel
theorem dX6_turn_344 : decode cX6_turn 344 = .ok (.iconst 1, 1) := by decide +kernel
theorem dX6_turn_345 : decode cX6_turn 345 = .ok (.iload 4, 2) := by decide +kernel
theorem dX6_turn_347 : decode cX6_turn 347 = .ok (.iconst 2, 1) := by decide +kernel
theorem dX6_turn_348 : decode cX6_turn 348 = .ok (.iadd, 1) := by decide +kernel
theorem dX6_turn_349 : decode cX6_turn 349 = .ok (.iastore, 1) := by decide +kernel
theorem dX6_turn_350 : decode cX6_turn 350 = .ok (.return_, 1) := by decide +kernel
theorem dX6_nextStart_0 : decode cX6_nextStart 0 = .ok (.aload_n 1, 1) := by decide +kernel
theorem dX6_nextStart_1 : decode cX6_nextStart 1 = .ok (.iconst 0, 1) := by decide +kernel
theorem dX6_nextStart_2 : decode cX6_nextStart 2 = .ok (.iaload, 1) := by decide +kernel
theorem dX6_nextStart_3 : decode cX6_nextStart 3 = .ok (.istore_n 2, 1) := by decide +kernel
theorem dX6_nextStart_4 : decode cX6_nextStart 4 = .ok (.aload_n 1, 1) := by decide +kernel
theorem dX6_nextStart_5 : decode cX6_nextStart 5 = .ok (.bipush 6, 2) := by decide +kernel
theorem dX6_nextStart_7 : decode cX6_nextStart 7 = .ok (.iaload, 1) := by decide +kernel
theorem dX6_nextStart_8 : decode cX6_nextStart 8 = .ok (.istore_n 3, 1) := by decide +kernel
theorem dX6_nextStart_9 : decode cX6_nextStart 9 = .ok (.aload_n 0, 1) := by decide +kernel
theorem dX6_nextStart_10 : decode cX6_nextStart 10 = .ok (.getfield 47, 3) := by decide +kernel
theorem dX6_nextStart_13 : decode cX6_nextStart 13 = .ok (.getfield 110, 3) := by decide +kernel
theorem dX6_nextStart_16 : decode cX6_nextStart 16 = .ok (.iload_n 2, 1) := by decide +kernel
theorem dX6_nextStart_17 : decode cX6_nextStart 17 = .ok (.aaload, 1) := by decide +kernel
theorem dX6_nextStart_18 : decode cX6_nextStart 18 = .ok (.getfield 192, 3) := by decide +kernel
theorem dX6_nextStart_21 : decode cX6_nextStart 21 = .ok (.ifCond .eq 8, 3) := by decide +kernel
theorem dX6_nextStart_24 : decode cX6_nextStart 24 = .ok (.bipush (-2), 2) := by decide +kernel
theorem dX6_nextStart_26 : decode cX6_nextStart 26 = .ok (.goto 25, 3) := by decide +kernel
theorem dX6_nextStart_29 : decode cX6_nextStart 29 = .ok (.iload_n 3, 1) := by decide +kernel
theorem dX6_nextStart_30 : decode cX6_nextStart 30 = .ok (.ifCond .ne 15, 3) := by decide +kernel
theorem dX6_nextStart_33 : decode cX6_nextStart 33 = .ok (.aload_n 0, 1) := by decide +kernel
theorem dX6_nextStart_34 : decode cX6_nextStart 34 = .ok (.getfield 47, 3) := by decide +kernel
theorem dX6_nextStart_37 : decode cX6_nextStart 37 = .ok (.getfield 195, 3) := by decide +kernel
theorem dX6_nextStart_40 : decode cX6_nextStart 40 = .ok (.iload_n 2, 1) := by decide +kernel
theorem dX6_nextStart_41 : decode cX6_nextStart 41 = .ok (.iaload, 1) := by decide +kernel
theorem dX6_nextStart_42 : decode cX6_nextStart 42 = .ok (.goto 9, 3) := by decide +kernel
theorem dX6_nextStart_45 : decode cX6_nextStart 45 = .ok (.aload_n 0, 1) := by decide +kernel
theorem dX6_nextStart_46 : decode cX6_nextStart 46 = .ok (.iload_n 2, 1) := by decide +kernel
theorem dX6_nextStart_47 : decode cX6_nextStart 47 = .ok (.iload_n 3, 1) := by decide +kernel
theorem dX6_nextStart_48 : decode cX6_nextStart 48 = .ok (.invokevirtual 198, 3) := by decide +kernel
theorem dX6_nextStart_51 : decode cX6_nextStart 51 = .ok (.istore 4, 2) := by decide +kernel
theorem dX6_nextStart_53 : decode cX6_nextStart 53 = .ok (.aload_n 1, 1) := by decide +kernel
theorem dX6_nextStart_54 : decode cX6_nextStart 54 = .ok (.bipush 6, 2) := by decide +kernel
theorem dX6_nextStart_56 : decode cX6_nextStart 56 = .ok (.dup2, 1) := by decide +kernel
theorem dX6_nextStart_57 : decode cX6_nextStart 57 = .ok (.iaload, 1) := by decide +kernel
theorem dX6_nextStart_58 : decode cX6_nextStart 58 = .ok (.iconst 1, 1) := by decide +kernel
theorem dX6_nextStart_59 : decode cX6_nextStart 59 = .ok (.iadd, 1) := by decide +kernel
theorem dX6_nextStart_60 : decode cX6_nextStart 60 = .ok (.iastore, 1) := by decide +kernel
theorem dX6_nextStart_61 : decode cX6_nextStart 61 = .ok (.iload 4, 2) := by decide +kernel
theorem dX6_nextStart_63 : decode cX6_nextStart 63 = .ok (.ifCond .lt 6, 3) := by decide +kernel
theorem dX6_nextStart_66 : decode cX6_nextStart 66 = .ok (.iload 4, 2) := by decide +kernel
theorem dX6_nextStart_68 : decode cX6_nextStart 68 = .ok (.ireturn, 1) := by decide +kernel
theorem dX6_nextStart_69 : decode cX6_nextStart 69 = .ok (.aload_n 1, 1) := by decide +kernel
theorem dX6_nextStart_70 : decode cX6_nextStart 70 = .ok (.bipush 6, 2) := by decide +kernel
theorem dX6_nextStart_72 : decode cX6_nextStart 72 = .ok (.bipush (-2), 2) := by decide +kernel
theorem dX6_nextStart_74 : decode cX6_nextStart 74 = .ok (.iastore, 1) := by decide +kernel
theorem dX6_nextStart_75 : decode cX6_nextStart 75 = .ok (.aload_n 0, 1) := by decide +kernel
theorem dX6_nextStart_76 : decode cX6_nextStart 76 = .ok (.getfield 47, 3) := by decide +kernel
theorem dX6_nextStart_79 : decode cX6_nextStart 79 = .ok (.getfield 110, 3) := by decide +kernel
theorem dX6_nextStart_82 : decode cX6_nextStart 82 = .ok (.iload_n 2, 1) := by decide +kernel
theorem dX6_nextStart_83 : decode cX6_nextStart 83 = .ok (.aaload, 1) := by decide +kernel
theorem dX6_nextStart_84 : decode cX6_nextStart 84 = .ok (.astore 5, 2) := by decide +kernel
theorem dX6_nextStart_86 : decode cX6_nextStart 86 = .ok (.iconst 0, 1) := by decide +kernel
theorem dX6_nextStart_87 : decode cX6_nextStart 87 = .ok (.istore 6, 2) := by decide +kernel
theorem dX6_nextStart_89 : decode cX6_nextStart 89 = .ok (.iload 6, 2) := by decide +kernel
theorem dX6_nextStart_91 : decode cX6_nextStart 91 = .ok (.aload 5, 2) := by decide +kernel
theorem dX6_nextStart_93 : decode cX6_nextStart 93 = .ok (.getfield 201, 3) := by decide +kernel
theorem dX6_nextStart_96 : decode cX6_nextStart 96 = .ok (.if_icmp .ge 55, 3) := by decide +kernel
theorem dX6_nextStart_99 : decode cX6_nextStart 99 = .ok (.aload 5, 2) := by decide +kernel
theorem dX6_nextStart_101 : decode cX6_nextStart 101 = .ok (.getfield 204, 3) := by decide +kernel
theorem dX6_nextStart_104 : decode cX6_nextStart 104 = .ok (.iload 6, 2) := by decide +kernel
theorem dX6_nextStart_106 : decode cX6_nextStart 106 = .ok (.aaload, 1) := by decide +kernel
theorem dX6_nextStart_107 : decode cX6_nextStart 107 = .ok (.astore 7, 2) := by decide +kernel
theorem dX6_nextStart_109 : decode cX6_nextStart 109 = .ok (.aload 7, 2) := by decide +kernel
theorem dX6_nextStart_111 : decode cX6_nextStart 111 = .ok (.getfield 208, 3) := by decide +kernel
theorem dX6_nextStart_114 : decode cX6_nextStart 114 = .ok (.ifCond .ne 31, 3) := by decide +kernel
theorem dX6_nextStart_117 : decode cX6_nextStart 117 = .ok (.aload 7, 2) := by decide +kernel
theorem dX6_nextStart_119 : decode cX6_nextStart 119 = .ok (.getfield 211, 3) := by decide +kernel
theorem dX6_nextStart_122 : decode cX6_nextStart 122 = .ok (.ifCond .eq 23, 3) := by decide +kernel
theorem dX6_nextStart_125 : decode cX6_nextStart 125 = .ok (.aload_n 0, 1) := by decide +kernel
theorem dX6_nextStart_126 : decode cX6_nextStart 126 = .ok (.getfield 41, 3) := by decide +kernel
theorem dX6_nextStart_129 : decode cX6_nextStart 129 = .ok (.iload_n 2, 1) := by decide +kernel
theorem dX6_nextStart_130 : decode cX6_nextStart 130 = .ok (.bipush 20, 2) := by decide +kernel
theorem dX6_nextStart_132 : decode cX6_nextStart 132 = .ok (.imul, 1) := by decide +kernel
theorem dX6_nextStart_133 : decode cX6_nextStart 133 = .ok (.aload 7, 2) := by decide +kernel
theorem dX6_nextStart_135 : decode cX6_nextStart 135 = .ok (.getfield 126, 3) := by decide +kernel
theorem dX6_nextStart_138 : decode cX6_nextStart 138 = .ok (.iadd, 1) := by decide +kernel
theorem dX6_nextStart_139 : decode cX6_nextStart 139 = .ok (.aload 7, 2) := by decide +kernel
theorem dX6_nextStart_141 : decode cX6_nextStart 141 = .ok (.getfield 214, 3) := by decide +kernel
theorem dX6_nextStart_144 : decode cX6_nextStart 144 = .ok (.iastore, 1) := by decide +kernel
theorem dX6_nextStart_145 : decode cX6_nextStart 145 = .ok (.iinc 6 1, 3) := by decide +kernel
theorem dX6_nextStart_148 : decode cX6_nextStart 148 = .ok (.goto (-59), 3) := by decide +kernel
theorem dX6_nextStart_151 : decode cX6_nextStart 151 = .ok (.bipush (-2), 2) := by decide +kernel
theorem dX6_nextStart_153 : decode cX6_nextStart 153 = .ok (.ireturn, 1) := by decide +kernel
theorem dX6_startedFace_0 : decode cX6_startedFace 0 = .ok (.lconst 0, 1) := by decide +kernel
theorem dX6_startedFace_1 : decode cX6_startedFace 1 = .ok (.lstore_n 3, 1) := by decide +kernel
theorem dX6_startedFace_2 : decode cX6_startedFace 2 = .ok (.iload_n 2, 1) := by decide +kernel
theorem dX6_startedFace_3 : decode cX6_startedFace 3 = .ok (.istore 5, 2) := by decide +kernel
theorem dX6_startedFace_5 : decode cX6_startedFace 5 = .ok (.iconst 1, 1) := by decide +kernel
theorem dX6_startedFace_6 : decode cX6_startedFace 6 = .ok (.istore 6, 2) := by decide +kernel
theorem dX6_startedFace_8 : decode cX6_startedFace 8 = .ok (.aload_n 0, 1) := by decide +kernel
theorem dX6_startedFace_9 : decode cX6_startedFace 9 = .ok (.getfield 83, 3) := by decide +kernel
theorem dX6_startedFace_12 : decode cX6_startedFace 12 = .ok (.istore 7, 2) := by decide +kernel
theorem dX6_startedFace_14 : decode cX6_startedFace 14 = .ok (.iload 7, 2) := by decide +kernel
theorem dX6_startedFace_16 : decode cX6_startedFace 16 = .ok (.sipush 128, 3) := by decide +kernel
theorem dX6_startedFace_19 : decode cX6_startedFace 19 = .ok (.iadd, 1) := by decide +kernel
theorem dX6_startedFace_20 : decode cX6_startedFace 20 = .ok (.iconst 2, 1) := by decide +kernel
theorem dX6_startedFace_21 : decode cX6_startedFace 21 = .ok (.iadd, 1) := by decide +kernel
theorem dX6_startedFace_22 : decode cX6_startedFace 22 = .ok (.aload_n 0, 1) := by decide +kernel
theorem dX6_startedFace_23 : decode cX6_startedFace 23 = .ok (.getfield 20, 3) := by decide +kernel
theorem dX6_startedFace_26 : decode cX6_startedFace 26 = .ok (.arraylength, 1) := by decide +kernel
theorem dX6_startedFace_27 : decode cX6_startedFace 27 = .ok (.if_icmp .le 6, 3) := by decide +kernel
theorem dX6_startedFace_30 : decode cX6_startedFace 30 = .ok (.bipush (-2), 2) := by decide +kernel
theorem dX6_startedFace_32 : decode cX6_startedFace 32 = .ok (.ireturn, 1) := by decide +kernel
theorem dX6_startedFace_33 : decode cX6_startedFace 33 = .ok (.aload_n 0, 1) := by decide +kernel
theorem dX6_startedFace_34 : decode cX6_startedFace 34 = .ok (.getfield 20, 3) := by decide +kernel
theorem dX6_startedFace_37 : decode cX6_startedFace 37 = .ok (.iload 7, 2) := by decide +kernel
theorem dX6_startedFace_39 : decode cX6_startedFace 39 = .ok (.iload_n 1, 1) := by decide +kernel
theorem dX6_startedFace_40 : decode cX6_startedFace 40 = .ok (.iastore, 1) := by decide +kernel
theorem dX6_startedFace_41 : decode cX6_startedFace 41 = .ok (.aload_n 0, 1) := by decide +kernel
theorem dX6_startedFace_42 : decode cX6_startedFace 42 = .ok (.getfield 20, 3) := by decide +kernel
theorem dX6_startedFace_45 : decode cX6_startedFace 45 = .ok (.iload 7, 2) := by decide +kernel
theorem dX6_startedFace_47 : decode cX6_startedFace 47 = .ok (.iconst 1, 1) := by decide +kernel
theorem dX6_startedFace_48 : decode cX6_startedFace 48 = .ok (.iadd, 1) := by decide +kernel
theorem dX6_startedFace_49 : decode cX6_startedFace 49 = .ok (.iconst 0, 1) := by decide +kernel
theorem dX6_startedFace_50 : decode cX6_startedFace 50 = .ok (.iastore, 1) := by decide +kernel
theorem dX6_startedFace_51 : decode cX6_startedFace 51 = .ok (.iconst 0, 1) := by decide +kernel
theorem dX6_startedFace_52 : decode cX6_startedFace 52 = .ok (.istore 8, 2) := by decide +kernel
theorem dX6_startedFace_54 : decode cX6_startedFace 54 = .ok (.iload 8, 2) := by decide +kernel
theorem dX6_startedFace_56 : decode cX6_startedFace 56 = .ok (.ldc 217, 2) := by decide +kernel
theorem dX6_startedFace_58 : decode cX6_startedFace 58 = .ok (.if_icmp .ge 182, 3) := by decide +kernel
theorem dX6_startedFace_61 : decode cX6_startedFace 61 = .ok (.iload 6, 2) := by decide +kernel
theorem dX6_startedFace_63 : decode cX6_startedFace 63 = .ok (.ifCond .le 177, 3) := by decide +kernel
theorem dX6_startedFace_66 : decode cX6_startedFace 66 = .ok (.iload 7, 2) := by decide +kernel
theorem dX6_startedFace_68 : decode cX6_startedFace 68 = .ok (.iconst 2, 1) := by decide +kernel
theorem dX6_startedFace_69 : decode cX6_startedFace 69 = .ok (.iload 6, 2) := by decide +kernel
theorem dX6_startedFace_71 : decode cX6_startedFace 71 = .ok (.iconst 1, 1) := by decide +kernel
theorem dX6_startedFace_72 : decode cX6_startedFace 72 = .ok (.isub, 1) := by decide +kernel
theorem dX6_startedFace_73 : decode cX6_startedFace 73 = .ok (.imul, 1) := by decide +kernel
theorem dX6_startedFace_74 : decode cX6_startedFace 74 = .ok (.iadd, 1) := by decide +kernel
theorem dX6_startedFace_75 : decode cX6_startedFace 75 = .ok (.istore 9, 2) := by decide +kernel
theorem dX6_startedFace_77 : decode cX6_startedFace 77 = .ok (.aload_n 0, 1) := by decide +kernel
theorem dX6_startedFace_78 : decode cX6_startedFace 78 = .ok (.getfield 20, 3) := by decide +kernel
theorem dX6_startedFace_81 : decode cX6_startedFace 81 = .ok (.iload 9, 2) := by decide +kernel
theorem dX6_startedFace_83 : decode cX6_startedFace 83 = .ok (.iaload, 1) := by decide +kernel
theorem dX6_startedFace_84 : decode cX6_startedFace 84 = .ok (.istore 10, 2) := by decide +kernel
theorem dX6_startedFace_86 : decode cX6_startedFace 86 = .ok (.aload_n 0, 1) := by decide +kernel
theorem dX6_startedFace_87 : decode cX6_startedFace 87 = .ok (.getfield 20, 3) := by decide +kernel
theorem dX6_startedFace_90 : decode cX6_startedFace 90 = .ok (.iload 9, 2) := by decide +kernel
theorem dX6_startedFace_92 : decode cX6_startedFace 92 = .ok (.iconst 1, 1) := by decide +kernel
theorem dX6_startedFace_93 : decode cX6_startedFace 93 = .ok (.iadd, 1) := by decide +kernel
theorem dX6_startedFace_94 : decode cX6_startedFace 94 = .ok (.iaload, 1) := by decide +kernel
theorem dX6_startedFace_95 : decode cX6_startedFace 95 = .ok (.istore 11, 2) := by decide +kernel
theorem dX6_startedFace_97 : decode cX6_startedFace 97 = .ok (.aload_n 0, 1) := by decide +kernel
theorem dX6_startedFace_98 : decode cX6_startedFace 98 = .ok (.getfield 20, 3) := by decide +kernel
theorem dX6_startedFace_101 : decode cX6_startedFace 101 = .ok (.iload 9, 2) := by decide +kernel
theorem dX6_startedFace_103 : decode cX6_startedFace 103 = .ok (.iconst 1, 1) := by decide +kernel
theorem dX6_startedFace_104 : decode cX6_startedFace 104 = .ok (.iadd, 1) := by decide +kernel
theorem dX6_startedFace_105 : decode cX6_startedFace 105 = .ok (.dup2, 1) := by decide +kernel
theorem dX6_startedFace_106 : decode cX6_startedFace 106 = .ok (.iaload, 1) := by decide +kernel
theorem dX6_startedFace_107 : decode cX6_startedFace 107 = .ok (.iconst 1, 1) := by decide +kernel
theorem dX6_startedFace_108 : decode cX6_startedFace 108 = .ok (.iadd, 1) := by decide +kernel
theorem dX6_startedFace_109 : decode cX6_startedFace 109 = .ok (.iastore, 1) := by decide +kernel
theorem dX6_startedFace_110 : decode cX6_startedFace 110 = .ok (.iload 11, 2) := by decide +kernel
theorem dX6_startedFace_112 : decode cX6_startedFace 112 = .ok (.iconst 4, 1) := by decide +kernel
theorem dX6_startedFace_113 : decode cX6_startedFace 113 = .ok (.if_icmp .ge 21, 3) := by decide +kernel
theorem dX6_startedFace_116 : decode cX6_startedFace 116 = .ok (.aload_n 0, 1) := by decide +kernel
theorem dX6_startedFace_117 : decode cX6_startedFace 117 = .ok (.getfield 47, 3) := by decide +kernel
theorem dX6_startedFace_120 : decode cX6_startedFace 120 = .ok (.getfield 218, 3) := by decide +kernel
theorem dX6_startedFace_123 : decode cX6_startedFace 123 = .ok (.iload 10, 2) := by decide +kernel
theorem dX6_startedFace_125 : decode cX6_startedFace 125 = .ok (.iconst 4, 1) := by decide +kernel
theorem dX6_startedFace_126 : decode cX6_startedFace 126 = .ok (.imul, 1) := by decide +kernel
theorem dX6_startedFace_127 : decode cX6_startedFace 127 = .ok (.iload 11, 2) := by decide +kernel
theorem dX6_startedFace_129 : decode cX6_startedFace 129 = .ok (.iadd, 1) := by decide +kernel
theorem dX6_startedFace_130 : decode cX6_startedFace 130 = .ok (.iaload, 1) := by decide +kernel
theorem dX6_startedFace_131 : decode cX6_startedFace 131 = .ok (.goto 5, 3) := by decide +kernel
theorem dX6_startedFace_134 : decode cX6_startedFace 134 = .ok (.bipush (-2), 2) := by decide +kernel
theorem dX6_startedFace_136 : decode cX6_startedFace 136 = .ok (.istore 12, 2) := by decide +kernel
theorem dX6_startedFace_138 : decode cX6_startedFace 138 = .ok (.iload 11, 2) := by decide +kernel
theorem dX6_startedFace_140 : decode cX6_startedFace 140 = .ok (.iconst 4, 1) := by decide +kernel
theorem dX6_startedFace_141 : decode cX6_startedFace 141 = .ok (.if_icmp .lt 46, 3) := by decide +kernel
theorem dX6_startedFace_144 : decode cX6_startedFace 144 = .ok (.iinc 6 (-1), 3) := by decide +kernel
theorem dX6_startedFace_147 : decode cX6_startedFace 147 = .ok (.iload 5, 2) := by decide +kernel
theorem dX6_startedFace_149 : decode cX6_startedFace 149 = .ok (.iload 10, 2) := by decide +kernel
theorem dX6_startedFace_151 : decode cX6_startedFace 151 = .ok (.iload_n 1, 1) := by decide +kernel
theorem dX6_startedFace_152 : decode cX6_startedFace 152 = .ok (.if_icmp .eq 23, 3) := by decide +kernel
theorem dX6_startedFace_155 : decode cX6_startedFace 155 = .ok (.aload_n 0, 1) := by decide +kernel
theorem dX6_startedFace_156 : decode cX6_startedFace 156 = .ok (.getfield 47, 3) := by decide +kernel
theorem dX6_startedFace_159 : decode cX6_startedFace 159 = .ok (.getfield 110, 3) := by decide +kernel
theorem dX6_startedFace_162 : decode cX6_startedFace 162 = .ok (.iload 10, 2) := by decide +kernel
theorem dX6_startedFace_164 : decode cX6_startedFace 164 = .ok (.aaload, 1) := by decide +kernel
theorem dX6_startedFace_165 : decode cX6_startedFace 165 = .ok (.invokevirtual 220, 3) := by decide +kernel
theorem dX6_startedFace_168 : decode cX6_startedFace 168 = .ok (.ifCond .eq 7, 3) := by decide +kernel
theorem dX6_startedFace_171 : decode cX6_startedFace 171 = .ok (.iconst 1, 1) := by decide +kernel
theorem dX6_startedFace_172 : decode cX6_startedFace 172 = .ok (.goto 4, 3) := by decide +kernel
theorem dX6_startedFace_175 : decode cX6_startedFace 175 = .ok (.iconst 0, 1) := by decide +kernel
theorem dX6_startedFace_176 : decode cX6_startedFace 176 = .ok (.isub, 1) := by decide +kernel
theorem dX6_startedFace_177 : decode cX6_startedFace 177 = .ok (.istore 5, 2) := by decide +kernel
theorem dX6_startedFace_179 : decode cX6_startedFace 179 = .ok (.iload 5, 2) := by decide +kernel
theorem dX6_startedFace_181 : decode cX6_startedFace 181 = .ok (.ifCond .ne 53, 3) := by decide +kernel
theorem dX6_startedFace_184 : decode cX6_startedFace 184 = .ok (.iload 10, 2) := by decide +kernel
theorem dX6_startedFace_186 : decode cX6_startedFace 186 = .ok (.ireturn, 1) := by decide +kernel
theorem dX6_startedFace_187 : decode cX6_startedFace 187 = .ok (.iload 12, 2) := by decide +kernel
theorem dX6_startedFace_189 : decode cX6_startedFace 189 = .ok (.ifCond .lt 45, 3) := by decide +kernel
theorem dX6_startedFace_192 : decode cX6_startedFace 192 = .ok (.lload_n 3, 1) := by decide +kernel
theorem dX6_startedFace_193 : decode cX6_startedFace 193 = .ok (.iload 12, 2) := by decide +kernel
theorem dX6_startedFace_195 : decode cX6_startedFace 195 = .ok (.lushr, 1) := by decide +kernel
theorem dX6_startedFace_196 : decode cX6_startedFace 196 = .ok (.lconst 1, 1) := by decide +kernel
theorem dX6_startedFace_197 : decode cX6_startedFace 197 = .ok (.land, 1) := by decide +kernel
theorem dX6_startedFace_198 : decode cX6_startedFace 198 = .ok (.lconst 0, 1) := by decide +kernel
theorem dX6_startedFace_199 : decode cX6_startedFace 199 = .ok (.lcmp, 1) := by decide +kernel
theorem dX6_startedFace_200 : decode cX6_startedFace 200 = .ok (.ifCond .ne 34, 3) := by decide +kernel
theorem dX6_startedFace_203 : decode cX6_startedFace 203 = .ok (.lload_n 3, 1) := by decide +kernel
theorem dX6_startedFace_204 : decode cX6_startedFace 204 = .ok (.lconst 1, 1) := by decide +kernel
theorem dX6_startedFace_205 : decode cX6_startedFace 205 = .ok (.iload 12, 2) := by decide +kernel
theorem dX6_startedFace_207 : decode cX6_startedFace 207 = .ok (.lshl, 1) := by decide +kernel
theorem dX6_startedFace_208 : decode cX6_startedFace 208 = .ok (.lor, 1) := by decide +kernel
theorem dX6_startedFace_209 : decode cX6_startedFace 209 = .ok (.lstore_n 3, 1) := by decide +kernel
theorem dX6_startedFace_210 : decode cX6_startedFace 210 = .ok (.aload_n 0, 1) := by decide +kernel
theorem dX6_startedFace_211 : decode cX6_startedFace 211 = .ok (.getfield 20, 3) := by decide +kernel
theorem dX6_startedFace_214 : decode cX6_startedFace 214 = .ok (.iload 9, 2) := by decide +kernel
theorem dX6_startedFace_216 : decode cX6_startedFace 216 = .ok (.iconst 2, 1) := by decide +kernel
theorem dX6_startedFace_217 : decode cX6_startedFace 217 = .ok (.iadd, 1) := by decide +kernel
theorem dX6_startedFace_218 : decode cX6_startedFace 218 = .ok (.iload 12, 2) := by decide +kernel
theorem dX6_startedFace_220 : decode cX6_startedFace 220 = .ok (.iastore, 1) := by decide +kernel
theorem dX6_startedFace_221 : decode cX6_startedFace 221 = .ok (.aload_n 0, 1) := by decide +kernel
theorem dX6_startedFace_222 : decode cX6_startedFace 222 = .ok (.getfield 20, 3) := by decide +kernel
theorem dX6_startedFace_225 : decode cX6_startedFace 225 = .ok (.iload 9, 2) := by decide +kernel
theorem dX6_startedFace_227 : decode cX6_startedFace 227 = .ok (.iconst 3, 1) := by decide +kernel
theorem dX6_startedFace_228 : decode cX6_startedFace 228 = .ok (.iadd, 1) := by decide +kernel
theorem dX6_startedFace_229 : decode cX6_startedFace 229 = .ok (.iconst 0, 1) := by decide +kernel
theorem dX6_startedFace_230 : decode cX6_startedFace 230 = .ok (.iastore, 1) := by decide +kernel
theorem dX6_startedFace_231 : decode cX6_startedFace 231 = .ok (.iinc 6 1, 3) := by decide +kernel
theorem dX6_startedFace_234 : decode cX6_startedFace 234 = .ok (.iinc 8 1, 3) := by decide +kernel
theorem dX6_startedFace_237 : decode cX6_startedFace 237 = .ok (.goto (-183), 3) := by decide +kernel
theorem dX6_startedFace_240 : decode cX6_startedFace 240 = .ok (.bipush (-2), 2) := by decide +kernel
theorem dX6_startedFace_242 : decode cX6_startedFace 242 = .ok (.ireturn, 1) := by decide +kernel
theorem dX6_plainOne_0 : decode cX6_plainOne 0 = .ok (.iload_n 2, 1) := by decide +kernel
theorem dX6_plainOne_1 : decode cX6_plainOne 1 = .ok (.tableswitch 170 1 6 #[39, 69, 76, 114, 152, 159], 39) := by decide +kernel
theorem dX6_plainOne_40 : decode cX6_plainOne 40 = .ok (.aload_n 0, 1) := by decide +kernel
theorem dX6_plainOne_41 : decode cX6_plainOne 41 = .ok (.getfield 68, 3) := by decide +kernel
theorem dX6_plainOne_44 : decode cX6_plainOne 44 = .ok (.sipush 20000, 3) := by decide +kernel
theorem dX6_plainOne_47 : decode cX6_plainOne 47 = .ok (.if_icmp .lt 11, 3) := by decide +kernel
theorem dX6_plainOne_50 : decode cX6_plainOne 50 = .ok (.aload_n 0, 1) := by decide +kernel
theorem dX6_plainOne_51 : decode cX6_plainOne 51 = .ok (.bipush 14, 2) := by decide +kernel
theorem dX6_plainOne_53 : decode cX6_plainOne 53 = .ok (.invokevirtual 103, 3) := by decide +kernel
theorem dX6_plainOne_56 : decode cX6_plainOne 56 = .ok (.iconst 0, 1) := by decide +kernel
theorem dX6_plainOne_57 : decode cX6_plainOne 57 = .ok (.ireturn, 1) := by decide +kernel
theorem dX6_plainOne_58 : decode cX6_plainOne 58 = .ok (.aload_n 0, 1) := by decide +kernel
theorem dX6_plainOne_59 : decode cX6_plainOne 59 = .ok (.dup, 1) := by decide +kernel
theorem dX6_plainOne_60 : decode cX6_plainOne 60 = .ok (.getfield 68, 3) := by decide +kernel
theorem dX6_plainOne_63 : decode cX6_plainOne 63 = .ok (.iconst 1, 1) := by decide +kernel
theorem dX6_plainOne_64 : decode cX6_plainOne 64 = .ok (.iadd, 1) := by decide +kernel
theorem dX6_plainOne_65 : decode cX6_plainOne 65 = .ok (.putfield 68, 3) := by decide +kernel
theorem dX6_plainOne_68 : decode cX6_plainOne 68 = .ok (.iconst 1, 1) := by decide +kernel
theorem dX6_plainOne_69 : decode cX6_plainOne 69 = .ok (.ireturn, 1) := by decide +kernel
theorem dX6_plainOne_70 : decode cX6_plainOne 70 = .ok (.aload_n 0, 1) := by decide +kernel
theorem dX6_plainOne_71 : decode cX6_plainOne 71 = .ok (.iload_n 3, 1) := by decide +kernel
theorem dX6_plainOne_72 : decode cX6_plainOne 72 = .ok (.invokevirtual 224, 3) := by decide +kernel
theorem dX6_plainOne_75 : decode cX6_plainOne 75 = .ok (.iconst 1, 1) := by decide +kernel
theorem dX6_plainOne_76 : decode cX6_plainOne 76 = .ok (.ireturn, 1) := by decide +kernel
theorem dX6_plainOne_77 : decode cX6_plainOne 77 = .ok (.aload_n 1, 1) := by decide +kernel
theorem dX6_plainOne_78 : decode cX6_plainOne 78 = .ok (.iconst 2, 1) := by decide +kernel
theorem dX6_plainOne_79 : decode cX6_plainOne 79 = .ok (.iaload, 1) := by decide +kernel
theorem dX6_plainOne_80 : decode cX6_plainOne 80 = .ok (.iload_n 3, 1) := by decide +kernel
theorem dX6_plainOne_81 : decode cX6_plainOne 81 = .ok (.iadd, 1) := by decide +kernel
theorem dX6_plainOne_82 : decode cX6_plainOne 82 = .ok (.istore 4, 2) := by decide +kernel
theorem dX6_plainOne_84 : decode cX6_plainOne 84 = .ok (.aload_n 0, 1) := by decide +kernel
theorem dX6_plainOne_85 : decode cX6_plainOne 85 = .ok (.iload 4, 2) := by decide +kernel
theorem dX6_plainOne_87 : decode cX6_plainOne 87 = .ok (.ifCond .lt 22, 3) := by decide +kernel
theorem dX6_plainOne_90 : decode cX6_plainOne 90 = .ok (.iload 4, 2) := by decide +kernel
theorem dX6_plainOne_92 : decode cX6_plainOne 92 = .ok (.aload_n 0, 1) := by decide +kernel
theorem dX6_plainOne_93 : decode cX6_plainOne 93 = .ok (.getfield 83, 3) := by decide +kernel
theorem dX6_plainOne_96 : decode cX6_plainOne 96 = .ok (.if_icmp .ge 13, 3) := by decide +kernel
theorem dX6_plainOne_99 : decode cX6_plainOne 99 = .ok (.aload_n 0, 1) := by decide +kernel
theorem dX6_plainOne_100 : decode cX6_plainOne 100 = .ok (.getfield 20, 3) := by decide +kernel
theorem dX6_plainOne_103 : decode cX6_plainOne 103 = .ok (.iload 4, 2) := by decide +kernel
theorem dX6_plainOne_105 : decode cX6_plainOne 105 = .ok (.iaload, 1) := by decide +kernel
theorem dX6_plainOne_106 : decode cX6_plainOne 106 = .ok (.goto 4, 3) := by decide +kernel
theorem dX6_plainOne_109 : decode cX6_plainOne 109 = .ok (.iconst 0, 1) := by decide +kernel
theorem dX6_plainOne_110 : decode cX6_plainOne 110 = .ok (.invokevirtual 224, 3) := by decide +kernel
theorem dX6_plainOne_113 : decode cX6_plainOne 113 = .ok (.iconst 1, 1) := by decide +kernel
theorem dX6_plainOne_114 : decode cX6_plainOne 114 = .ok (.ireturn, 1) := by decide +kernel
theorem dX6_plainOne_115 : decode cX6_plainOne 115 = .ok (.aload_n 0, 1) := by decide +kernel
theorem dX6_plainOne_116 : decode cX6_plainOne 116 = .ok (.invokevirtual 227, 3) := by decide +kernel
theorem dX6_plainOne_119 : decode cX6_plainOne 119 = .ok (.istore 5, 2) := by decide +kernel
theorem dX6_plainOne_121 : decode cX6_plainOne 121 = .ok (.aload_n 1, 1) := by decide +kernel
theorem dX6_plainOne_122 : decode cX6_plainOne 122 = .ok (.iconst 2, 1) := by decide +kernel
theorem dX6_plainOne_123 : decode cX6_plainOne 123 = .ok (.iaload, 1) := by decide +kernel
theorem dX6_plainOne_124 : decode cX6_plainOne 124 = .ok (.iload_n 3, 1) := by decide +kernel
theorem dX6_plainOne_125 : decode cX6_plainOne 125 = .ok (.iadd, 1) := by decide +kernel
theorem dX6_plainOne_126 : decode cX6_plainOne 126 = .ok (.istore 6, 2) := by decide +kernel
theorem dX6_plainOne_128 : decode cX6_plainOne 128 = .ok (.iload 6, 2) := by decide +kernel
theorem dX6_plainOne_130 : decode cX6_plainOne 130 = .ok (.ifCond .lt 21, 3) := by decide +kernel
theorem dX6_plainOne_133 : decode cX6_plainOne 133 = .ok (.iload 6, 2) := by decide +kernel
theorem dX6_plainOne_135 : decode cX6_plainOne 135 = .ok (.aload_n 0, 1) := by decide +kernel
theorem dX6_plainOne_136 : decode cX6_plainOne 136 = .ok (.getfield 83, 3) := by decide +kernel
theorem dX6_plainOne_139 : decode cX6_plainOne 139 = .ok (.if_icmp .ge 12, 3) := by decide +kernel
theorem dX6_plainOne_142 : decode cX6_plainOne 142 = .ok (.aload_n 0, 1) := by decide +kernel
theorem dX6_plainOne_143 : decode cX6_plainOne 143 = .ok (.getfield 20, 3) := by decide +kernel
theorem dX6_plainOne_146 : decode cX6_plainOne 146 = .ok (.iload 6, 2) := by decide +kernel
theorem dX6_plainOne_148 : decode cX6_plainOne 148 = .ok (.iload 5, 2) := by decide +kernel
theorem dX6_plainOne_150 : decode cX6_plainOne 150 = .ok (.iastore, 1) := by decide +kernel
theorem dX6_plainOne_151 : decode cX6_plainOne 151 = .ok (.iconst 1, 1) := by decide +kernel
theorem dX6_plainOne_152 : decode cX6_plainOne 152 = .ok (.ireturn, 1) := by decide +kernel
theorem dX6_plainOne_153 : decode cX6_plainOne 153 = .ok (.aload_n 0, 1) := by decide +kernel
theorem dX6_plainOne_154 : decode cX6_plainOne 154 = .ok (.invokevirtual 227, 3) := by decide +kernel
theorem dX6_plainOne_157 : decode cX6_plainOne 157 = .ok (.pop, 1) := by decide +kernel
theorem dX6_plainOne_158 : decode cX6_plainOne 158 = .ok (.iconst 1, 1) := by decide +kernel
theorem dX6_plainOne_159 : decode cX6_plainOne 159 = .ok (.ireturn, 1) := by decide +kernel
theorem dX6_plainOne_160 : decode cX6_plainOne 160 = .ok (.aload_n 0, 1) := by decide +kernel
theorem dX6_plainOne_161 : decode cX6_plainOne 161 = .ok (.aload_n 0, 1) := by decide +kernel
theorem dX6_plainOne_162 : decode cX6_plainOne 162 = .ok (.iconst 0, 1) := by decide +kernel
theorem dX6_plainOne_163 : decode cX6_plainOne 163 = .ok (.invokevirtual 156, 3) := by decide +kernel
theorem dX6_plainOne_166 : decode cX6_plainOne 166 = .ok (.invokevirtual 224, 3) := by decide +kernel
theorem dX6_plainOne_169 : decode cX6_plainOne 169 = .ok (.iconst 1, 1) := by decide +kernel
theorem dX6_plainOne_170 : decode cX6_plainOne 170 = .ok (.ireturn, 1) := by decide +kernel
theorem dX6_plainOne_171 : decode cX6_plainOne 171 = .ok (.aload_n 0, 1) := by decide +kernel
theorem dX6_plainOne_172 : decode cX6_plainOne 172 = .ok (.invokevirtual 227, 3) := by decide +kernel
theorem dX6_plainOne_175 : decode cX6_plainOne 175 = .ok (.istore 7, 2) := by decide +kernel
theorem dX6_plainOne_177 : decode cX6_plainOne 177 = .ok (.aload_n 0, 1) := by decide +kernel
theorem dX6_plainOne_178 : decode cX6_plainOne 178 = .ok (.invokevirtual 227, 3) := by decide +kernel
theorem dX6_plainOne_181 : decode cX6_plainOne 181 = .ok (.istore 8, 2) := by decide +kernel
theorem dX6_plainOne_183 : decode cX6_plainOne 183 = .ok (.aload_n 0, 1) := by decide +kernel
theorem dX6_plainOne_184 : decode cX6_plainOne 184 = .ok (.iload_n 2, 1) := by decide +kernel
theorem dX6_plainOne_185 : decode cX6_plainOne 185 = .ok (.iload 8, 2) := by decide +kernel
theorem dX6_plainOne_187 : decode cX6_plainOne 187 = .ok (.iload 7, 2) := by decide +kernel
theorem dX6_plainOne_189 : decode cX6_plainOne 189 = .ok (.invokestatic 231, 3) := by decide +kernel
theorem dX6_plainOne_192 : decode cX6_plainOne 192 = .ok (.invokevirtual 224, 3) := by decide +kernel
theorem dX6_plainOne_195 : decode cX6_plainOne 195 = .ok (.iconst 1, 1) := by decide +kernel
theorem dX6_plainOne_196 : decode cX6_plainOne 196 = .ok (.ireturn, 1) := by decide +kernel
theorem dX6_reckon_0 : decode cX6_reckon 0 = .ok (.iload_n 0, 1) := by decide +kernel
theorem dX6_reckon_1 : decode cX6_reckon 1 = .ok (.tableswitch 54 7 10 #[31, 35, 39, 43], 31) := by decide +kernel
theorem dX6_reckon_32 : decode cX6_reckon 32 = .ok (.iload_n 1, 1) := by decide +kernel
theorem dX6_reckon_33 : decode cX6_reckon 33 = .ok (.iload_n 2, 1) := by decide +kernel
theorem dX6_reckon_34 : decode cX6_reckon 34 = .ok (.iadd, 1) := by decide +kernel
theorem dX6_reckon_35 : decode cX6_reckon 35 = .ok (.ireturn, 1) := by decide +kernel
theorem dX6_reckon_36 : decode cX6_reckon 36 = .ok (.iload_n 1, 1) := by decide +kernel
theorem dX6_reckon_37 : decode cX6_reckon 37 = .ok (.iload_n 2, 1) := by decide +kernel
theorem dX6_reckon_38 : decode cX6_reckon 38 = .ok (.isub, 1) := by decide +kernel
theorem dX6_reckon_39 : decode cX6_reckon 39 = .ok (.ireturn, 1) := by decide +kernel
theorem dX6_reckon_40 : decode cX6_reckon 40 = .ok (.iload_n 1, 1) := by decide +kernel
theorem dX6_reckon_41 : decode cX6_reckon 41 = .ok (.iload_n 2, 1) := by decide +kernel
theorem dX6_reckon_42 : decode cX6_reckon 42 = .ok (.imul, 1) := by decide +kernel
theorem dX6_reckon_43 : decode cX6_reckon 43 = .ok (.ireturn, 1) := by decide +kernel
theorem dX6_reckon_44 : decode cX6_reckon 44 = .ok (.iload_n 1, 1) := by decide +kernel
theorem dX6_reckon_45 : decode cX6_reckon 45 = .ok (.iload_n 2, 1) := by decide +kernel
theorem dX6_reckon_46 : decode cX6_reckon 46 = .ok (.if_icmp .ge 7, 3) := by decide +kernel
theorem dX6_reckon_49 : decode cX6_reckon 49 = .ok (.iconst 1, 1) := by decide +kernel
theorem dX6_reckon_50 : decode cX6_reckon 50 = .ok (.goto 4, 3) := by decide +kernel
theorem dX6_reckon_53 : decode cX6_reckon 53 = .ok (.iconst 0, 1) := by decide +kernel
theorem dX6_reckon_54 : decode cX6_reckon 54 = .ok (.ireturn, 1) := by decide +kernel
theorem dX6_reckon_55 : decode cX6_reckon 55 = .ok (.iload_n 1, 1) := by decide +kernel
theorem dX6_reckon_56 : decode cX6_reckon 56 = .ok (.iload_n 2, 1) := by decide +kernel
theorem dX6_reckon_57 : decode cX6_reckon 57 = .ok (.if_icmp .ne 7, 3) := by decide +kernel
theorem dX6_reckon_60 : decode cX6_reckon 60 = .ok (.iconst 1, 1) := by decide +kernel
theorem dX6_reckon_61 : decode cX6_reckon 61 = .ok (.goto 4, 3) := by decide +kernel
theorem dX6_reckon_64 : decode cX6_reckon 64 = .ok (.iconst 0, 1) := by decide +kernel
theorem dX6_reckon_65 : decode cX6_reckon 65 = .ok (.ireturn, 1) := by decide +kernel
theorem dX6_goOne_0 : decode cX6_goOne 0 = .ok (.iload_n 2, 1) := by decide +kernel
theorem dX6_goOne_1 : decode cX6_goOne 1 = .ok (.tableswitch 315 12 24 #[67, 73, 107, 145, 155, 212, 315, 315, 230, 257, 285, 265, 275], 67) := by decide +kernel
theorem dX6_goOne_68 : decode cX6_goOne 68 = .ok (.aload_n 1, 1) := by decide +kernel
theorem dX6_goOne_69 : decode cX6_goOne 69 = .ok (.iconst 1, 1) := by decide +kernel
theorem dX6_goOne_70 : decode cX6_goOne 70 = .ok (.iload_n 3, 1) := by decide +kernel
theorem dX6_goOne_71 : decode cX6_goOne 71 = .ok (.iastore, 1) := by decide +kernel
theorem dX6_goOne_72 : decode cX6_goOne 72 = .ok (.iconst 0, 1) := by decide +kernel
theorem dX6_goOne_73 : decode cX6_goOne 73 = .ok (.ireturn, 1) := by decide +kernel
theorem dX6_goOne_74 : decode cX6_goOne 74 = .ok (.aload_n 0, 1) := by decide +kernel
theorem dX6_goOne_75 : decode cX6_goOne 75 = .ok (.invokevirtual 227, 3) := by decide +kernel
theorem dX6_goOne_78 : decode cX6_goOne 78 = .ok (.ifCond .ne 7, 3) := by decide +kernel
