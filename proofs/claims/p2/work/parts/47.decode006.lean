theorem dX5_keep_22 : decode cX5_keep 22 = .ok (.aload_n 0, 1) := by decide +kernel
theorem dX5_keep_23 : decode cX5_keep 23 = .ok (.getfield 42, 3) := by decide +kernel
theorem dX5_keep_26 : decode cX5_keep 26 = .ok (.iload_n 3, 1) := by decide +kernel
theorem dX5_keep_27 : decode cX5_keep 27 = .ok (.aload_n 0, 1) := by decide +kernel
theorem dX5_keep_28 : decode cX5_keep 28 = .ok (.getfield 89, 3) := by decide +kernel
theorem dX5_keep_31 : decode cX5_keep 31 = .ok (.iconst 3, 1) := by decide +kernel
theorem dX5_keep_32 : decode cX5_keep 32 = .ok (.iadd, 1) := by decide +kernel
theorem dX5_keep_33 : decode cX5_keep 33 = .ok (.bipush 100, 2) := by decide +kernel
theorem dX5_keep_35 : decode cX5_keep 35 = .ok (.imul, 1) := by decide +kernel
theorem dX5_keep_36 : decode cX5_keep 36 = .ok (.aload_n 0, 1) := by decide +kernel
theorem dX5_keep_37 : decode cX5_keep 37 = .ok (.getfield 86, 3) := by decide +kernel
theorem dX5_keep_40 : decode cX5_keep 40 = .ok (.iadd, 1) := by decide +kernel
theorem dX5_keep_41 : decode cX5_keep 41 = .ok (.iconst 3, 1) := by decide +kernel
theorem dX5_keep_42 : decode cX5_keep 42 = .ok (.iadd, 1) := by decide +kernel
theorem dX5_keep_43 : decode cX5_keep 43 = .ok (.iastore, 1) := by decide +kernel
theorem dX5_keep_44 : decode cX5_keep 44 = .ok (.aload_n 0, 1) := by decide +kernel
theorem dX5_keep_45 : decode cX5_keep 45 = .ok (.getfield 47, 3) := by decide +kernel
theorem dX5_keep_48 : decode cX5_keep 48 = .ok (.iload_n 3, 1) := by decide +kernel
theorem dX5_keep_49 : decode cX5_keep 49 = .ok (.aload_n 0, 1) := by decide +kernel
theorem dX5_keep_50 : decode cX5_keep 50 = .ok (.getfield 82, 3) := by decide +kernel
theorem dX5_keep_53 : decode cX5_keep 53 = .ok (.aastore, 1) := by decide +kernel
theorem dX5_keep_54 : decode cX5_keep 54 = .ok (.return_, 1) := by decide +kernel
theorem dX5_tellEvent_0 : decode cX5_tellEvent 0 = .ok (.aload_n 0, 1) := by decide +kernel
theorem dX5_tellEvent_1 : decode cX5_tellEvent 1 = .ok (.getfield 61, 3) := by decide +kernel
theorem dX5_tellEvent_4 : decode cX5_tellEvent 4 = .ok (.aload_n 0, 1) := by decide +kernel
theorem dX5_tellEvent_5 : decode cX5_tellEvent 5 = .ok (.getfield 18, 3) := by decide +kernel
theorem dX5_tellEvent_8 : decode cX5_tellEvent 8 = .ok (.arraylength, 1) := by decide +kernel
theorem dX5_tellEvent_9 : decode cX5_tellEvent 9 = .ok (.if_icmp .ge 28, 3) := by decide +kernel
theorem dX5_tellEvent_12 : decode cX5_tellEvent 12 = .ok (.aload_n 0, 1) := by decide +kernel
theorem dX5_tellEvent_13 : decode cX5_tellEvent 13 = .ok (.getfield 18, 3) := by decide +kernel
theorem dX5_tellEvent_16 : decode cX5_tellEvent 16 = .ok (.aload_n 0, 1) := by decide +kernel
theorem dX5_tellEvent_17 : decode cX5_tellEvent 17 = .ok (.getfield 61, 3) := by decide +kernel
theorem dX5_tellEvent_20 : decode cX5_tellEvent 20 = .ok (.bipush 100, 2) := by decide +kernel
theorem dX5_tellEvent_22 : decode cX5_tellEvent 22 = .ok (.iload_n 1, 1) := by decide +kernel
theorem dX5_tellEvent_23 : decode cX5_tellEvent 23 = .ok (.imul, 1) := by decide +kernel
theorem dX5_tellEvent_24 : decode cX5_tellEvent 24 = .ok (.iload_n 2, 1) := by decide +kernel
theorem dX5_tellEvent_25 : decode cX5_tellEvent 25 = .ok (.iadd, 1) := by decide +kernel
theorem dX5_tellEvent_26 : decode cX5_tellEvent 26 = .ok (.iastore, 1) := by decide +kernel
theorem dX5_tellEvent_27 : decode cX5_tellEvent 27 = .ok (.aload_n 0, 1) := by decide +kernel
theorem dX5_tellEvent_28 : decode cX5_tellEvent 28 = .ok (.dup, 1) := by decide +kernel
theorem dX5_tellEvent_29 : decode cX5_tellEvent 29 = .ok (.getfield 61, 3) := by decide +kernel
theorem dX5_tellEvent_32 : decode cX5_tellEvent 32 = .ok (.iconst 1, 1) := by decide +kernel
theorem dX5_tellEvent_33 : decode cX5_tellEvent 33 = .ok (.iadd, 1) := by decide +kernel
theorem dX5_tellEvent_34 : decode cX5_tellEvent 34 = .ok (.putfield 61, 3) := by decide +kernel
theorem dX5_tellEvent_37 : decode cX5_tellEvent 37 = .ok (.return_, 1) := by decide +kernel
theorem dX5_undo_0 : decode cX5_undo 0 = .ok (.aload_n 0, 1) := by decide +kernel
theorem dX5_undo_1 : decode cX5_undo 1 = .ok (.getfield 65, 3) := by decide +kernel
theorem dX5_undo_4 : decode cX5_undo 4 = .ok (.iload_n 1, 1) := by decide +kernel
theorem dX5_undo_5 : decode cX5_undo 5 = .ok (.if_icmp .le 31, 3) := by decide +kernel
theorem dX5_undo_8 : decode cX5_undo 8 = .ok (.aload_n 0, 1) := by decide +kernel
theorem dX5_undo_9 : decode cX5_undo 9 = .ok (.dup, 1) := by decide +kernel
theorem dX5_undo_10 : decode cX5_undo 10 = .ok (.getfield 65, 3) := by decide +kernel
theorem dX5_undo_13 : decode cX5_undo 13 = .ok (.iconst 1, 1) := by decide +kernel
theorem dX5_undo_14 : decode cX5_undo 14 = .ok (.isub, 1) := by decide +kernel
theorem dX5_undo_15 : decode cX5_undo 15 = .ok (.putfield 65, 3) := by decide +kernel
theorem dX5_undo_18 : decode cX5_undo 18 = .ok (.aload_n 0, 1) := by decide +kernel
theorem dX5_undo_19 : decode cX5_undo 19 = .ok (.getfield 9, 3) := by decide +kernel
theorem dX5_undo_22 : decode cX5_undo 22 = .ok (.aload_n 0, 1) := by decide +kernel
theorem dX5_undo_23 : decode cX5_undo 23 = .ok (.getfield 21, 3) := by decide +kernel
theorem dX5_undo_26 : decode cX5_undo 26 = .ok (.aload_n 0, 1) := by decide +kernel
theorem dX5_undo_27 : decode cX5_undo 27 = .ok (.getfield 65, 3) := by decide +kernel
theorem dX5_undo_30 : decode cX5_undo 30 = .ok (.iaload, 1) := by decide +kernel
theorem dX5_undo_31 : decode cX5_undo 31 = .ok (.iconst 0, 1) := by decide +kernel
theorem dX5_undo_32 : decode cX5_undo 32 = .ok (.iastore, 1) := by decide +kernel
theorem dX5_undo_33 : decode cX5_undo 33 = .ok (.goto (-33), 3) := by decide +kernel
theorem dX5_undo_36 : decode cX5_undo 36 = .ok (.aload_n 0, 1) := by decide +kernel
theorem dX5_undo_37 : decode cX5_undo 37 = .ok (.iconst 0, 1) := by decide +kernel
theorem dX5_undo_38 : decode cX5_undo 38 = .ok (.putfield 61, 3) := by decide +kernel
theorem dX5_undo_41 : decode cX5_undo 41 = .ok (.return_, 1) := by decide +kernel
theorem dX5_isLoaded_0 : decode cX5_isLoaded 0 = .ok (.aload_n 0, 1) := by decide +kernel
theorem dX5_isLoaded_1 : decode cX5_isLoaded 1 = .ok (.getfield 9, 3) := by decide +kernel
theorem dX5_isLoaded_4 : decode cX5_isLoaded 4 = .ok (.iload_n 1, 1) := by decide +kernel
theorem dX5_isLoaded_5 : decode cX5_isLoaded 5 = .ok (.iaload, 1) := by decide +kernel
theorem dX5_isLoaded_6 : decode cX5_isLoaded 6 = .ok (.ifCond .le 17, 3) := by decide +kernel
theorem dX5_isLoaded_9 : decode cX5_isLoaded 9 = .ok (.aload_n 0, 1) := by decide +kernel
theorem dX5_isLoaded_10 : decode cX5_isLoaded 10 = .ok (.getfield 9, 3) := by decide +kernel
theorem dX5_isLoaded_13 : decode cX5_isLoaded 13 = .ok (.iload_n 1, 1) := by decide +kernel
theorem dX5_isLoaded_14 : decode cX5_isLoaded 14 = .ok (.iaload, 1) := by decide +kernel
theorem dX5_isLoaded_15 : decode cX5_isLoaded 15 = .ok (.iconst 5, 1) := by decide +kernel
theorem dX5_isLoaded_16 : decode cX5_isLoaded 16 = .ok (.if_icmp .eq 7, 3) := by decide +kernel
theorem dX5_isLoaded_19 : decode cX5_isLoaded 19 = .ok (.iconst 1, 1) := by decide +kernel
theorem dX5_isLoaded_20 : decode cX5_isLoaded 20 = .ok (.goto 4, 3) := by decide +kernel
theorem dX5_isLoaded_23 : decode cX5_isLoaded 23 = .ok (.iconst 0, 1) := by decide +kernel
theorem dX5_isLoaded_24 : decode cX5_isLoaded 24 = .ok (.ireturn, 1) := by decide +kernel
theorem dX5_load_0 : decode cX5_load 0 = .ok (.iconst 0, 1) := by decide +kernel
theorem dX5_load_1 : decode cX5_load 1 = .ok (.istore_n 2, 1) := by decide +kernel
theorem dX5_load_2 : decode cX5_load 2 = .ok (.aload_n 0, 1) := by decide +kernel
theorem dX5_load_3 : decode cX5_load 3 = .ok (.getfield 9, 3) := by decide +kernel
theorem dX5_load_6 : decode cX5_load 6 = .ok (.iload_n 1, 1) := by decide +kernel
theorem dX5_load_7 : decode cX5_load 7 = .ok (.iaload, 1) := by decide +kernel
theorem dX5_load_8 : decode cX5_load 8 = .ok (.ifCond .ne 10, 3) := by decide +kernel
theorem dX5_load_11 : decode cX5_load 11 = .ok (.aload_n 0, 1) := by decide +kernel
theorem dX5_load_12 : decode cX5_load 12 = .ok (.iload_n 1, 1) := by decide +kernel
theorem dX5_load_13 : decode cX5_load 13 = .ok (.iconst 0, 1) := by decide +kernel
theorem dX5_load_14 : decode cX5_load 14 = .ok (.invokevirtual 92, 3) := by decide +kernel
theorem dX5_load_17 : decode cX5_load 17 = .ok (.istore_n 2, 1) := by decide +kernel
theorem dX5_load_18 : decode cX5_load 18 = .ok (.iconst 0, 1) := by decide +kernel
theorem dX5_load_19 : decode cX5_load 19 = .ok (.istore_n 3, 1) := by decide +kernel
theorem dX5_load_20 : decode cX5_load 20 = .ok (.iload_n 3, 1) := by decide +kernel
theorem dX5_load_21 : decode cX5_load 21 = .ok (.ldc 96, 2) := by decide +kernel
theorem dX5_load_23 : decode cX5_load 23 = .ok (.if_icmp .ge 299, 3) := by decide +kernel
theorem dX5_load_26 : decode cX5_load 26 = .ok (.iload_n 2, 1) := by decide +kernel
theorem dX5_load_27 : decode cX5_load 27 = .ok (.ifCond .le 295, 3) := by decide +kernel
theorem dX5_load_30 : decode cX5_load 30 = .ok (.aload_n 0, 1) := by decide +kernel
theorem dX5_load_31 : decode cX5_load 31 = .ok (.getfield 24, 3) := by decide +kernel
theorem dX5_load_34 : decode cX5_load 34 = .ok (.iload_n 2, 1) := by decide +kernel
theorem dX5_load_35 : decode cX5_load 35 = .ok (.iconst 1, 1) := by decide +kernel
theorem dX5_load_36 : decode cX5_load 36 = .ok (.isub, 1) := by decide +kernel
theorem dX5_load_37 : decode cX5_load 37 = .ok (.iaload, 1) := by decide +kernel
theorem dX5_load_38 : decode cX5_load 38 = .ok (.istore 4, 2) := by decide +kernel
theorem dX5_load_40 : decode cX5_load 40 = .ok (.aload_n 0, 1) := by decide +kernel
theorem dX5_load_41 : decode cX5_load 41 = .ok (.getfield 27, 3) := by decide +kernel
theorem dX5_load_44 : decode cX5_load 44 = .ok (.iload_n 2, 1) := by decide +kernel
theorem dX5_load_45 : decode cX5_load 45 = .ok (.iconst 1, 1) := by decide +kernel
theorem dX5_load_46 : decode cX5_load 46 = .ok (.isub, 1) := by decide +kernel
theorem dX5_load_47 : decode cX5_load 47 = .ok (.iaload, 1) := by decide +kernel
theorem dX5_load_48 : decode cX5_load 48 = .ok (.istore 5, 2) := by decide +kernel
theorem dX5_load_50 : decode cX5_load 50 = .ok (.aload_n 0, 1) := by decide +kernel
theorem dX5_load_51 : decode cX5_load 51 = .ok (.getfield 51, 3) := by decide +kernel
theorem dX5_load_54 : decode cX5_load 54 = .ok (.getfield 73, 3) := by decide +kernel
theorem dX5_load_57 : decode cX5_load 57 = .ok (.iload 4, 2) := by decide +kernel
theorem dX5_load_59 : decode cX5_load 59 = .ok (.aaload, 1) := by decide +kernel
theorem dX5_load_60 : decode cX5_load 60 = .ok (.astore 6, 2) := by decide +kernel
theorem dX5_load_62 : decode cX5_load 62 = .ok (.iload 5, 2) := by decide +kernel
theorem dX5_load_64 : decode cX5_load 64 = .ok (.ifCond .ne 7, 3) := by decide +kernel
theorem dX5_load_67 : decode cX5_load 67 = .ok (.iconst 1, 1) := by decide +kernel
theorem dX5_load_68 : decode cX5_load 68 = .ok (.goto 4, 3) := by decide +kernel
theorem dX5_load_71 : decode cX5_load 71 = .ok (.iconst 0, 1) := by decide +kernel
theorem dX5_load_72 : decode cX5_load 72 = .ok (.istore 7, 2) := by decide +kernel
theorem dX5_load_74 : decode cX5_load 74 = .ok (.iload 7, 2) := by decide +kernel
theorem dX5_load_76 : decode cX5_load 76 = .ok (.ifCond .eq 16, 3) := by decide +kernel
theorem dX5_load_79 : decode cX5_load 79 = .ok (.aload_n 0, 1) := by decide +kernel
theorem dX5_load_80 : decode cX5_load 80 = .ok (.getfield 51, 3) := by decide +kernel
theorem dX5_load_83 : decode cX5_load 83 = .ok (.getfield 97, 3) := by decide +kernel
theorem dX5_load_86 : decode cX5_load 86 = .ok (.iload 4, 2) := by decide +kernel
theorem dX5_load_88 : decode cX5_load 88 = .ok (.iaload, 1) := by decide +kernel
theorem dX5_load_89 : decode cX5_load 89 = .ok (.goto 31, 3) := by decide +kernel
theorem dX5_load_92 : decode cX5_load 92 = .ok (.iload 5, 2) := by decide +kernel
theorem dX5_load_94 : decode cX5_load 94 = .ok (.iconst 4, 1) := by decide +kernel
theorem dX5_load_95 : decode cX5_load 95 = .ok (.if_icmp .gt 23, 3) := by decide +kernel
theorem dX5_load_98 : decode cX5_load 98 = .ok (.aload_n 0, 1) := by decide +kernel
theorem dX5_load_99 : decode cX5_load 99 = .ok (.getfield 51, 3) := by decide +kernel
theorem dX5_load_102 : decode cX5_load 102 = .ok (.getfield 100, 3) := by decide +kernel
theorem dX5_load_105 : decode cX5_load 105 = .ok (.iload 4, 2) := by decide +kernel
theorem dX5_load_107 : decode cX5_load 107 = .ok (.iconst 4, 1) := by decide +kernel
theorem dX5_load_108 : decode cX5_load 108 = .ok (.imul, 1) := by decide +kernel
theorem dX5_load_109 : decode cX5_load 109 = .ok (.iload 5, 2) := by decide +kernel
theorem dX5_load_111 : decode cX5_load 111 = .ok (.iadd, 1) := by decide +kernel
theorem dX5_load_112 : decode cX5_load 112 = .ok (.iconst 1, 1) := by decide +kernel
theorem dX5_load_113 : decode cX5_load 113 = .ok (.isub, 1) := by decide +kernel
theorem dX5_load_114 : decode cX5_load 114 = .ok (.iaload, 1) := by decide +kernel
theorem dX5_load_115 : decode cX5_load 115 = .ok (.goto 5, 3) := by decide +kernel
theorem dX5_load_118 : decode cX5_load 118 = .ok (.bipush (-2), 2) := by decide +kernel
theorem dX5_load_120 : decode cX5_load 120 = .ok (.istore 8, 2) := by decide +kernel
theorem dX5_load_122 : decode cX5_load 122 = .ok (.iload 7, 2) := by decide +kernel
theorem dX5_load_124 : decode cX5_load 124 = .ok (.ifCond .eq 26, 3) := by decide +kernel
theorem dX5_load_127 : decode cX5_load 127 = .ok (.aload 6, 2) := by decide +kernel
theorem dX5_load_129 : decode cX5_load 129 = .ok (.getfield 103, 3) := by decide +kernel
theorem dX5_load_132 : decode cX5_load 132 = .ok (.ifCond .eq 18, 3) := by decide +kernel
theorem dX5_load_135 : decode cX5_load 135 = .ok (.aload_n 0, 1) := by decide +kernel
theorem dX5_load_136 : decode cX5_load 136 = .ok (.getfield 27, 3) := by decide +kernel
theorem dX5_load_139 : decode cX5_load 139 = .ok (.iload_n 2, 1) := by decide +kernel
theorem dX5_load_140 : decode cX5_load 140 = .ok (.iconst 1, 1) := by decide +kernel
theorem dX5_load_141 : decode cX5_load 141 = .ok (.isub, 1) := by decide +kernel
theorem dX5_load_142 : decode cX5_load 142 = .ok (.dup2, 1) := by decide +kernel
theorem dX5_load_143 : decode cX5_load 143 = .ok (.iaload, 1) := by decide +kernel
theorem dX5_load_144 : decode cX5_load 144 = .ok (.iconst 1, 1) := by decide +kernel
theorem dX5_load_145 : decode cX5_load 145 = .ok (.iadd, 1) := by decide +kernel
theorem dX5_load_146 : decode cX5_load 146 = .ok (.iastore, 1) := by decide +kernel
theorem dX5_load_147 : decode cX5_load 147 = .ok (.goto 169, 3) := by decide +kernel
theorem dX5_load_150 : decode cX5_load 150 = .ok (.iload 5, 2) := by decide +kernel
theorem dX5_load_152 : decode cX5_load 152 = .ok (.aload 6, 2) := by decide +kernel
theorem dX5_load_154 : decode cX5_load 154 = .ok (.getfield 106, 3) := by decide +kernel
theorem dX5_load_157 : decode cX5_load 157 = .ok (.iconst 0, 1) := by decide +kernel
theorem dX5_load_158 : decode cX5_load 158 = .ok (.iaload, 1) := by decide +kernel
theorem dX5_load_159 : decode cX5_load 159 = .ok (.if_icmp .le 24, 3) := by decide +kernel
theorem dX5_load_162 : decode cX5_load 162 = .ok (.aload_n 0, 1) := by decide +kernel
theorem dX5_load_163 : decode cX5_load 163 = .ok (.getfield 9, 3) := by decide +kernel
theorem dX5_load_166 : decode cX5_load 166 = .ok (.iload 4, 2) := by decide +kernel
theorem dX5_load_168 : decode cX5_load 168 = .ok (.iconst 1, 1) := by decide +kernel
theorem dX5_load_169 : decode cX5_load 169 = .ok (.iastore, 1) := by decide +kernel
theorem dX5_load_170 : decode cX5_load 170 = .ok (.aload_n 0, 1) := by decide +kernel
theorem dX5_load_171 : decode cX5_load 171 = .ok (.iload 4, 2) := by decide +kernel
theorem dX5_load_173 : decode cX5_load 173 = .ok (.iconst 1, 1) := by decide +kernel
theorem dX5_load_174 : decode cX5_load 174 = .ok (.invokevirtual 109, 3) := by decide +kernel
theorem dX5_load_177 : decode cX5_load 177 = .ok (.iinc 2 (-1), 3) := by decide +kernel
theorem dX5_load_180 : decode cX5_load 180 = .ok (.goto 136, 3) := by decide +kernel
theorem dX5_load_183 : decode cX5_load 183 = .ok (.iload 8, 2) := by decide +kernel
theorem dX5_load_185 : decode cX5_load 185 = .ok (.ifCond .lt 24, 3) := by decide +kernel
theorem dX5_load_188 : decode cX5_load 188 = .ok (.aload_n 0, 1) := by decide +kernel
theorem dX5_load_189 : decode cX5_load 189 = .ok (.getfield 9, 3) := by decide +kernel
theorem dX5_load_192 : decode cX5_load 192 = .ok (.iload 8, 2) := by decide +kernel
theorem dX5_load_194 : decode cX5_load 194 = .ok (.iaload, 1) := by decide +kernel
theorem dX5_load_195 : decode cX5_load 195 = .ok (.ifCond .ne 14, 3) := by decide +kernel
theorem dX5_load_198 : decode cX5_load 198 = .ok (.aload_n 0, 1) := by decide +kernel
theorem dX5_load_199 : decode cX5_load 199 = .ok (.iload 8, 2) := by decide +kernel
theorem dX5_load_201 : decode cX5_load 201 = .ok (.iload_n 2, 1) := by decide +kernel
theorem dX5_load_202 : decode cX5_load 202 = .ok (.invokevirtual 92, 3) := by decide +kernel
theorem dX5_load_205 : decode cX5_load 205 = .ok (.istore_n 2, 1) := by decide +kernel
theorem dX5_load_206 : decode cX5_load 206 = .ok (.goto 110, 3) := by decide +kernel
theorem dX5_load_209 : decode cX5_load 209 = .ok (.iload 8, 2) := by decide +kernel
theorem dX5_load_211 : decode cX5_load 211 = .ok (.ifCond .ge 7, 3) := by decide +kernel
theorem dX5_load_214 : decode cX5_load 214 = .ok (.iconst 1, 1) := by decide +kernel
theorem dX5_load_215 : decode cX5_load 215 = .ok (.goto 55, 3) := by decide +kernel
theorem dX5_load_218 : decode cX5_load 218 = .ok (.aload_n 0, 1) := by decide +kernel
theorem dX5_load_219 : decode cX5_load 219 = .ok (.getfield 9, 3) := by decide +kernel
theorem dX5_load_222 : decode cX5_load 222 = .ok (.iload 8, 2) := by decide +kernel
theorem dX5_load_224 : decode cX5_load 224 = .ok (.iaload, 1) := by decide +kernel
theorem dX5_load_225 : decode cX5_load 225 = .ok (.iconst (-1), 1) := by decide +kernel
theorem dX5_load_226 : decode cX5_load 226 = .ok (.if_icmp .ne 8, 3) := by decide +kernel
theorem dX5_load_229 : decode cX5_load 229 = .ok (.bipush 10, 2) := by decide +kernel
theorem dX5_load_231 : decode cX5_load 231 = .ok (.goto 39, 3) := by decide +kernel
theorem dX5_load_234 : decode cX5_load 234 = .ok (.aload_n 0, 1) := by decide +kernel
theorem dX5_load_235 : decode cX5_load 235 = .ok (.getfield 9, 3) := by decide +kernel
theorem dX5_load_238 : decode cX5_load 238 = .ok (.iload 8, 2) := by decide +kernel
theorem dX5_load_240 : decode cX5_load 240 = .ok (.iaload, 1) := by decide +kernel
theorem dX5_load_241 : decode cX5_load 241 = .ok (.iconst 5, 1) := by decide +kernel
theorem dX5_load_242 : decode cX5_load 242 = .ok (.if_icmp .ne 13, 3) := by decide +kernel
theorem dX5_load_245 : decode cX5_load 245 = .ok (.aload_n 0, 1) := by decide +kernel
theorem dX5_load_246 : decode cX5_load 246 = .ok (.getfield 15, 3) := by decide +kernel
theorem dX5_load_249 : decode cX5_load 249 = .ok (.iload 8, 2) := by decide +kernel
theorem dX5_load_251 : decode cX5_load 251 = .ok (.iaload, 1) := by decide +kernel
theorem dX5_load_252 : decode cX5_load 252 = .ok (.goto 18, 3) := by decide +kernel
theorem dX5_load_255 : decode cX5_load 255 = .ok (.aload_n 0, 1) := by decide +kernel
theorem dX5_load_256 : decode cX5_load 256 = .ok (.getfield 51, 3) := by decide +kernel
theorem dX5_load_259 : decode cX5_load 259 = .ok (.getfield 113, 3) := by decide +kernel
theorem dX5_load_262 : decode cX5_load 262 = .ok (.iload 4, 2) := by decide +kernel
theorem dX5_load_264 : decode cX5_load 264 = .ok (.iconst 5, 1) := by decide +kernel
theorem dX5_load_265 : decode cX5_load 265 = .ok (.imul, 1) := by decide +kernel
theorem dX5_load_266 : decode cX5_load 266 = .ok (.iload 5, 2) := by decide +kernel
theorem dX5_load_268 : decode cX5_load 268 = .ok (.iadd, 1) := by decide +kernel
theorem dX5_load_269 : decode cX5_load 269 = .ok (.iaload, 1) := by decide +kernel
theorem dX5_load_270 : decode cX5_load 270 = .ok (.istore 9, 2) := by decide +kernel
theorem dX5_load_272 : decode cX5_load 272 = .ok (.aload_n 0, 1) := by decide +kernel
theorem dX5_load_273 : decode cX5_load 273 = .ok (.getfield 27, 3) := by decide +kernel
theorem dX5_load_276 : decode cX5_load 276 = .ok (.iload_n 2, 1) := by decide +kernel
theorem dX5_load_277 : decode cX5_load 277 = .ok (.iconst 1, 1) := by decide +kernel
theorem dX5_load_278 : decode cX5_load 278 = .ok (.isub, 1) := by decide +kernel
theorem dX5_load_279 : decode cX5_load 279 = .ok (.dup2, 1) := by decide +kernel
theorem dX5_load_280 : decode cX5_load 280 = .ok (.iaload, 1) := by decide +kernel
theorem dX5_load_281 : decode cX5_load 281 = .ok (.iconst 1, 1) := by decide +kernel
theorem dX5_load_282 : decode cX5_load 282 = .ok (.iadd, 1) := by decide +kernel
theorem dX5_load_283 : decode cX5_load 283 = .ok (.iastore, 1) := by decide +kernel
theorem dX5_load_284 : decode cX5_load 284 = .ok (.iload 9, 2) := by decide +kernel
theorem dX5_load_286 : decode cX5_load 286 = .ok (.ifCond .eq 30, 3) := by decide +kernel
theorem dX5_load_289 : decode cX5_load 289 = .ok (.aload_n 0, 1) := by decide +kernel
theorem dX5_load_290 : decode cX5_load 290 = .ok (.getfield 9, 3) := by decide +kernel
theorem dX5_load_293 : decode cX5_load 293 = .ok (.iload 4, 2) := by decide +kernel
theorem dX5_load_295 : decode cX5_load 295 = .ok (.iconst 5, 1) := by decide +kernel
theorem dX5_load_296 : decode cX5_load 296 = .ok (.iastore, 1) := by decide +kernel
theorem dX5_load_297 : decode cX5_load 297 = .ok (.aload_n 0, 1) := by decide +kernel
theorem dX5_load_298 : decode cX5_load 298 = .ok (.getfield 15, 3) := by decide +kernel
theorem dX5_load_301 : decode cX5_load 301 = .ok (.iload 4, 2) := by decide +kernel
theorem dX5_load_303 : decode cX5_load 303 = .ok (.iload 9, 2) := by decide +kernel
theorem dX5_load_305 : decode cX5_load 305 = .ok (.iastore, 1) := by decide +kernel
theorem dX5_load_306 : decode cX5_load 306 = .ok (.aload_n 0, 1) := by decide +kernel
theorem dX5_load_307 : decode cX5_load 307 = .ok (.iload 4, 2) := by decide +kernel
theorem dX5_load_309 : decode cX5_load 309 = .ok (.iconst 5, 1) := by decide +kernel
theorem dX5_load_310 : decode cX5_load 310 = .ok (.invokevirtual 109, 3) := by decide +kernel
theorem dX5_load_313 : decode cX5_load 313 = .ok (.iinc 2 (-1), 3) := by decide +kernel
theorem dX5_load_316 : decode cX5_load 316 = .ok (.iinc 3 1, 3) := by decide +kernel
theorem dX5_load_319 : decode cX5_load 319 = .ok (.goto (-299), 3) := by decide +kernel
theorem dX5_load_322 : decode cX5_load 322 = .ok (.aload_n 0, 1) := by decide +kernel
theorem dX5_load_323 : decode cX5_load 323 = .ok (.getfield 9, 3) := by decide +kernel
theorem dX5_load_326 : decode cX5_load 326 = .ok (.iload_n 1, 1) := by decide +kernel
theorem dX5_load_327 : decode cX5_load 327 = .ok (.iaload, 1) := by decide +kernel
theorem dX5_load_328 : decode cX5_load 328 = .ok (.iconst (-1), 1) := by decide +kernel
theorem dX5_load_329 : decode cX5_load 329 = .ok (.if_icmp .ne 8, 3) := by decide +kernel
theorem dX5_load_332 : decode cX5_load 332 = .ok (.bipush 10, 2) := by decide +kernel
theorem dX5_load_334 : decode cX5_load 334 = .ok (.goto 23, 3) := by decide +kernel
theorem dX5_load_337 : decode cX5_load 337 = .ok (.aload_n 0, 1) := by decide +kernel
theorem dX5_load_338 : decode cX5_load 338 = .ok (.getfield 9, 3) := by decide +kernel
theorem dX5_load_341 : decode cX5_load 341 = .ok (.iload_n 1, 1) := by decide +kernel
theorem dX5_load_342 : decode cX5_load 342 = .ok (.iaload, 1) := by decide +kernel
theorem dX5_load_343 : decode cX5_load 343 = .ok (.iconst 5, 1) := by decide +kernel
theorem dX5_load_344 : decode cX5_load 344 = .ok (.if_icmp .ne 12, 3) := by decide +kernel
theorem dX5_load_347 : decode cX5_load 347 = .ok (.aload_n 0, 1) := by decide +kernel
theorem dX5_load_348 : decode cX5_load 348 = .ok (.getfield 15, 3) := by decide +kernel
theorem dX5_load_351 : decode cX5_load 351 = .ok (.iload_n 1, 1) := by decide +kernel
theorem dX5_load_352 : decode cX5_load 352 = .ok (.iaload, 1) := by decide +kernel
theorem dX5_load_353 : decode cX5_load 353 = .ok (.goto 4, 3) := by decide +kernel
theorem dX5_load_356 : decode cX5_load 356 = .ok (.iconst 0, 1) := by decide +kernel
theorem dX5_load_357 : decode cX5_load 357 = .ok (.ireturn, 1) := by decide +kernel
theorem dX5_openLoad_0 : decode cX5_openLoad 0 = .ok (.aload_n 0, 1) := by decide +kernel
theorem dX5_openLoad_1 : decode cX5_openLoad 1 = .ok (.getfield 9, 3) := by decide +kernel
theorem dX5_openLoad_4 : decode cX5_openLoad 4 = .ok (.iload_n 1, 1) := by decide +kernel
theorem dX5_openLoad_5 : decode cX5_openLoad 5 = .ok (.iconst (-1), 1) := by decide +kernel
theorem dX5_openLoad_6 : decode cX5_openLoad 6 = .ok (.iastore, 1) := by decide +kernel
theorem dX5_openLoad_7 : decode cX5_openLoad 7 = .ok (.aload_n 0, 1) := by decide +kernel
theorem dX5_openLoad_8 : decode cX5_openLoad 8 = .ok (.getfield 65, 3) := by decide +kernel
theorem dX5_openLoad_11 : decode cX5_openLoad 11 = .ok (.aload_n 0, 1) := by decide +kernel
theorem dX5_openLoad_12 : decode cX5_openLoad 12 = .ok (.getfield 21, 3) := by decide +kernel
theorem dX5_openLoad_15 : decode cX5_openLoad 15 = .ok (.arraylength, 1) := by decide +kernel
theorem dX5_openLoad_16 : decode cX5_openLoad 16 = .ok (.if_icmp .ge 23, 3) := by decide +kernel
theorem dX5_openLoad_19 : decode cX5_openLoad 19 = .ok (.aload_n 0, 1) := by decide +kernel
theorem dX5_openLoad_20 : decode cX5_openLoad 20 = .ok (.getfield 21, 3) := by decide +kernel
theorem dX5_openLoad_23 : decode cX5_openLoad 23 = .ok (.aload_n 0, 1) := by decide +kernel
theorem dX5_openLoad_24 : decode cX5_openLoad 24 = .ok (.getfield 65, 3) := by decide +kernel
theorem dX5_openLoad_27 : decode cX5_openLoad 27 = .ok (.iload_n 1, 1) := by decide +kernel
theorem dX5_openLoad_28 : decode cX5_openLoad 28 = .ok (.iastore, 1) := by decide +kernel
theorem dX5_openLoad_29 : decode cX5_openLoad 29 = .ok (.aload_n 0, 1) := by decide +kernel
theorem dX5_openLoad_30 : decode cX5_openLoad 30 = .ok (.dup, 1) := by decide +kernel
theorem dX5_openLoad_31 : decode cX5_openLoad 31 = .ok (.getfield 65, 3) := by decide +kernel
theorem dX5_openLoad_34 : decode cX5_openLoad 34 = .ok (.iconst 1, 1) := by decide +kernel
theorem dX5_openLoad_35 : decode cX5_openLoad 35 = .ok (.iadd, 1) := by decide +kernel
theorem dX5_openLoad_36 : decode cX5_openLoad 36 = .ok (.putfield 65, 3) := by decide +kernel
theorem dX5_openLoad_39 : decode cX5_openLoad 39 = .ok (.aload_n 0, 1) := by decide +kernel
theorem dX5_openLoad_40 : decode cX5_openLoad 40 = .ok (.getfield 24, 3) := by decide +kernel
theorem dX5_openLoad_43 : decode cX5_openLoad 43 = .ok (.iload_n 2, 1) := by decide +kernel
theorem dX5_openLoad_44 : decode cX5_openLoad 44 = .ok (.iload_n 1, 1) := by decide +kernel
theorem dX5_openLoad_45 : decode cX5_openLoad 45 = .ok (.iastore, 1) := by decide +kernel
theorem dX5_openLoad_46 : decode cX5_openLoad 46 = .ok (.aload_n 0, 1) := by decide +kernel
theorem dX5_openLoad_47 : decode cX5_openLoad 47 = .ok (.getfield 27, 3) := by decide +kernel
theorem dX5_openLoad_50 : decode cX5_openLoad 50 = .ok (.iload_n 2, 1) := by decide +kernel
theorem dX5_openLoad_51 : decode cX5_openLoad 51 = .ok (.iconst 0, 1) := by decide +kernel
theorem dX5_openLoad_52 : decode cX5_openLoad 52 = .ok (.iastore, 1) := by decide +kernel
theorem dX5_openLoad_53 : decode cX5_openLoad 53 = .ok (.iload_n 2, 1) := by decide +kernel
theorem dX5_openLoad_54 : decode cX5_openLoad 54 = .ok (.iconst 1, 1) := by decide +kernel
theorem dX5_openLoad_55 : decode cX5_openLoad 55 = .ok (.iadd, 1) := by decide +kernel
theorem dX5_openLoad_56 : decode cX5_openLoad 56 = .ok (.ireturn, 1) := by decide +kernel
theorem dX5_link_0 : decode cX5_link 0 = .ok (.iconst 0, 1) := by decide +kernel
theorem dX5_link_1 : decode cX5_link 1 = .ok (.istore_n 2, 1) := by decide +kernel
theorem dX5_link_2 : decode cX5_link 2 = .ok (.aload_n 0, 1) := by decide +kernel
theorem dX5_link_3 : decode cX5_link 3 = .ok (.iload_n 1, 1) := by decide +kernel
theorem dX5_link_4 : decode cX5_link 4 = .ok (.invokevirtual 116, 3) := by decide +kernel
theorem dX5_link_7 : decode cX5_link 7 = .ok (.istore_n 3, 1) := by decide +kernel
theorem dX5_link_8 : decode cX5_link 8 = .ok (.iload_n 3, 1) := by decide +kernel
theorem dX5_link_9 : decode cX5_link 9 = .ok (.ifCond .ne 29, 3) := by decide +kernel
theorem dX5_link_12 : decode cX5_link 12 = .ok (.aload_n 0, 1) := by decide +kernel
theorem dX5_link_13 : decode cX5_link 13 = .ok (.getfield 9, 3) := by decide +kernel
theorem dX5_link_16 : decode cX5_link 16 = .ok (.iload_n 1, 1) := by decide +kernel
theorem dX5_link_17 : decode cX5_link 17 = .ok (.iaload, 1) := by decide +kernel
theorem dX5_link_18 : decode cX5_link 18 = .ok (.iconst 1, 1) := by decide +kernel
theorem dX5_link_19 : decode cX5_link 19 = .ok (.if_icmp .ne 19, 3) := by decide +kernel
theorem dX5_link_22 : decode cX5_link 22 = .ok (.aload_n 0, 1) := by decide +kernel
theorem dX5_link_23 : decode cX5_link 23 = .ok (.getfield 30, 3) := by decide +kernel
theorem dX5_link_26 : decode cX5_link 26 = .ok (.iconst 0, 1) := by decide +kernel
theorem dX5_link_27 : decode cX5_link 27 = .ok (.iload_n 1, 1) := by decide +kernel
theorem dX5_link_28 : decode cX5_link 28 = .ok (.iastore, 1) := by decide +kernel
theorem dX5_link_29 : decode cX5_link 29 = .ok (.aload_n 0, 1) := by decide +kernel
theorem dX5_link_30 : decode cX5_link 30 = .ok (.getfield 33, 3) := by decide +kernel
theorem dX5_link_33 : decode cX5_link 33 = .ok (.iconst 0, 1) := by decide +kernel
theorem dX5_link_34 : decode cX5_link 34 = .ok (.iconst 0, 1) := by decide +kernel
theorem dX5_link_35 : decode cX5_link 35 = .ok (.iastore, 1) := by decide +kernel
theorem dX5_link_36 : decode cX5_link 36 = .ok (.iconst 1, 1) := by decide +kernel
theorem dX5_link_37 : decode cX5_link 37 = .ok (.istore_n 2, 1) := by decide +kernel
theorem dX5_link_38 : decode cX5_link 38 = .ok (.iconst 0, 1) := by decide +kernel
theorem dX5_link_39 : decode cX5_link 39 = .ok (.istore 4, 2) := by decide +kernel
theorem dX5_link_41 : decode cX5_link 41 = .ok (.iload 4, 2) := by decide +kernel
theorem dX5_link_43 : decode cX5_link 43 = .ok (.ldc 96, 2) := by decide +kernel
theorem dX5_link_45 : decode cX5_link 45 = .ok (.if_icmp .ge 241, 3) := by decide +kernel
theorem dX5_link_48 : decode cX5_link 48 = .ok (.iload_n 2, 1) := by decide +kernel
theorem dX5_link_49 : decode cX5_link 49 = .ok (.ifCond .le 237, 3) := by decide +kernel
theorem dX5_link_52 : decode cX5_link 52 = .ok (.aload_n 0, 1) := by decide +kernel
theorem dX5_link_53 : decode cX5_link 53 = .ok (.getfield 30, 3) := by decide +kernel
theorem dX5_link_56 : decode cX5_link 56 = .ok (.iload_n 2, 1) := by decide +kernel
theorem dX5_link_57 : decode cX5_link 57 = .ok (.iconst 1, 1) := by decide +kernel
theorem dX5_link_58 : decode cX5_link 58 = .ok (.isub, 1) := by decide +kernel
theorem dX5_link_59 : decode cX5_link 59 = .ok (.iaload, 1) := by decide +kernel
theorem dX5_link_60 : decode cX5_link 60 = .ok (.istore 5, 2) := by decide +kernel
theorem dX5_link_62 : decode cX5_link 62 = .ok (.aload_n 0, 1) := by decide +kernel
theorem dX5_link_63 : decode cX5_link 63 = .ok (.getfield 33, 3) := by decide +kernel
theorem dX5_link_66 : decode cX5_link 66 = .ok (.iload_n 2, 1) := by decide +kernel
theorem dX5_link_67 : decode cX5_link 67 = .ok (.iconst 1, 1) := by decide +kernel
theorem dX5_link_68 : decode cX5_link 68 = .ok (.isub, 1) := by decide +kernel
theorem dX5_link_69 : decode cX5_link 69 = .ok (.iaload, 1) := by decide +kernel
theorem dX5_link_70 : decode cX5_link 70 = .ok (.istore 6, 2) := by decide +kernel
theorem dX5_link_72 : decode cX5_link 72 = .ok (.iload 6, 2) := by decide +kernel
theorem dX5_link_74 : decode cX5_link 74 = .ok (.ifCond .ne 16, 3) := by decide +kernel
theorem dX5_link_77 : decode cX5_link 77 = .ok (.aload_n 0, 1) := by decide +kernel
theorem dX5_link_78 : decode cX5_link 78 = .ok (.getfield 51, 3) := by decide +kernel
theorem dX5_link_81 : decode cX5_link 81 = .ok (.getfield 97, 3) := by decide +kernel
theorem dX5_link_84 : decode cX5_link 84 = .ok (.iload 5, 2) := by decide +kernel
theorem dX5_link_86 : decode cX5_link 86 = .ok (.iaload, 1) := by decide +kernel
theorem dX5_link_87 : decode cX5_link 87 = .ok (.goto 31, 3) := by decide +kernel
theorem dX5_link_90 : decode cX5_link 90 = .ok (.iload 6, 2) := by decide +kernel
theorem dX5_link_92 : decode cX5_link 92 = .ok (.iconst 4, 1) := by decide +kernel
theorem dX5_link_93 : decode cX5_link 93 = .ok (.if_icmp .gt 23, 3) := by decide +kernel
theorem dX5_link_96 : decode cX5_link 96 = .ok (.aload_n 0, 1) := by decide +kernel
theorem dX5_link_97 : decode cX5_link 97 = .ok (.getfield 51, 3) := by decide +kernel
theorem dX5_link_100 : decode cX5_link 100 = .ok (.getfield 100, 3) := by decide +kernel
theorem dX5_link_103 : decode cX5_link 103 = .ok (.iload 5, 2) := by decide +kernel
theorem dX5_link_105 : decode cX5_link 105 = .ok (.iconst 4, 1) := by decide +kernel
theorem dX5_link_106 : decode cX5_link 106 = .ok (.imul, 1) := by decide +kernel
theorem dX5_link_107 : decode cX5_link 107 = .ok (.iload 6, 2) := by decide +kernel
theorem dX5_link_109 : decode cX5_link 109 = .ok (.iadd, 1) := by decide +kernel
theorem dX5_link_110 : decode cX5_link 110 = .ok (.iconst 1, 1) := by decide +kernel
theorem dX5_link_111 : decode cX5_link 111 = .ok (.isub, 1) := by decide +kernel
theorem dX5_link_112 : decode cX5_link 112 = .ok (.iaload, 1) := by decide +kernel
theorem dX5_link_113 : decode cX5_link 113 = .ok (.goto 5, 3) := by decide +kernel
theorem dX5_link_116 : decode cX5_link 116 = .ok (.bipush (-2), 2) := by decide +kernel
theorem dX5_link_118 : decode cX5_link 118 = .ok (.istore 7, 2) := by decide +kernel
theorem dX5_link_120 : decode cX5_link 120 = .ok (.iload 6, 2) := by decide +kernel
theorem dX5_link_122 : decode cX5_link 122 = .ok (.iconst 4, 1) := by decide +kernel
theorem dX5_link_123 : decode cX5_link 123 = .ok (.if_icmp .le 7, 3) := by decide +kernel
theorem dX5_link_126 : decode cX5_link 126 = .ok (.iconst 1, 1) := by decide +kernel
theorem dX5_link_127 : decode cX5_link 127 = .ok (.goto 4, 3) := by decide +kernel
theorem dX5_link_130 : decode cX5_link 130 = .ok (.iconst 0, 1) := by decide +kernel
theorem dX5_link_131 : decode cX5_link 131 = .ok (.istore 8, 2) := by decide +kernel
theorem dX5_link_133 : decode cX5_link 133 = .ok (.iload 8, 2) := by decide +kernel
theorem dX5_link_135 : decode cX5_link 135 = .ok (.ifCond .ne 40, 3) := by decide +kernel
theorem dX5_link_138 : decode cX5_link 138 = .ok (.iload 7, 2) := by decide +kernel
theorem dX5_link_140 : decode cX5_link 140 = .ok (.ifCond .lt 35, 3) := by decide +kernel
theorem dX5_link_143 : decode cX5_link 143 = .ok (.aload_n 0, 1) := by decide +kernel
theorem dX5_link_144 : decode cX5_link 144 = .ok (.getfield 9, 3) := by decide +kernel
theorem dX5_link_147 : decode cX5_link 147 = .ok (.iload 7, 2) := by decide +kernel
theorem dX5_link_149 : decode cX5_link 149 = .ok (.iaload, 1) := by decide +kernel
theorem dX5_link_150 : decode cX5_link 150 = .ok (.iconst 1, 1) := by decide +kernel
theorem dX5_link_151 : decode cX5_link 151 = .ok (.if_icmp .ne 24, 3) := by decide +kernel
theorem dX5_link_154 : decode cX5_link 154 = .ok (.aload_n 0, 1) := by decide +kernel
theorem dX5_link_155 : decode cX5_link 155 = .ok (.getfield 30, 3) := by decide +kernel
theorem dX5_link_158 : decode cX5_link 158 = .ok (.iload_n 2, 1) := by decide +kernel
theorem dX5_link_159 : decode cX5_link 159 = .ok (.iload 7, 2) := by decide +kernel
theorem dX5_link_161 : decode cX5_link 161 = .ok (.iastore, 1) := by decide +kernel
theorem dX5_link_162 : decode cX5_link 162 = .ok (.aload_n 0, 1) := by decide +kernel
theorem dX5_link_163 : decode cX5_link 163 = .ok (.getfield 33, 3) := by decide +kernel
theorem dX5_link_166 : decode cX5_link 166 = .ok (.iload_n 2, 1) := by decide +kernel
theorem dX5_link_167 : decode cX5_link 167 = .ok (.iconst 0, 1) := by decide +kernel
theorem dX5_link_168 : decode cX5_link 168 = .ok (.iastore, 1) := by decide +kernel
theorem dX5_link_169 : decode cX5_link 169 = .ok (.iinc 2 1, 3) := by decide +kernel
theorem dX5_link_172 : decode cX5_link 172 = .ok (.goto 108, 3) := by decide +kernel
theorem dX5_link_175 : decode cX5_link 175 = .ok (.aload_n 0, 1) := by decide +kernel
theorem dX5_link_176 : decode cX5_link 176 = .ok (.getfield 33, 3) := by decide +kernel
theorem dX5_link_179 : decode cX5_link 179 = .ok (.iload_n 2, 1) := by decide +kernel
theorem dX5_link_180 : decode cX5_link 180 = .ok (.iconst 1, 1) := by decide +kernel
theorem dX5_link_181 : decode cX5_link 181 = .ok (.isub, 1) := by decide +kernel
theorem dX5_link_182 : decode cX5_link 182 = .ok (.dup2, 1) := by decide +kernel
theorem dX5_link_183 : decode cX5_link 183 = .ok (.iaload, 1) := by decide +kernel
theorem dX5_link_184 : decode cX5_link 184 = .ok (.iconst 1, 1) := by decide +kernel
theorem dX5_link_185 : decode cX5_link 185 = .ok (.iadd, 1) := by decide +kernel
theorem dX5_link_186 : decode cX5_link 186 = .ok (.iastore, 1) := by decide +kernel
theorem dX5_link_187 : decode cX5_link 187 = .ok (.iload 8, 2) := by decide +kernel
theorem dX5_link_189 : decode cX5_link 189 = .ok (.ifCond .eq 12, 3) := by decide +kernel
theorem dX5_link_192 : decode cX5_link 192 = .ok (.aload_n 0, 1) := by decide +kernel
theorem dX5_link_193 : decode cX5_link 193 = .ok (.iload 5, 2) := by decide +kernel
theorem dX5_link_195 : decode cX5_link 195 = .ok (.invokevirtual 120, 3) := by decide +kernel
theorem dX5_link_198 : decode cX5_link 198 = .ok (.goto 31, 3) := by decide +kernel
theorem dX5_link_201 : decode cX5_link 201 = .ok (.iload 7, 2) := by decide +kernel
theorem dX5_link_203 : decode cX5_link 203 = .ok (.ifCond .lt 25, 3) := by decide +kernel
theorem dX5_link_206 : decode cX5_link 206 = .ok (.aload_n 0, 1) := by decide +kernel
theorem dX5_link_207 : decode cX5_link 207 = .ok (.getfield 9, 3) := by decide +kernel
theorem dX5_link_210 : decode cX5_link 210 = .ok (.iload 7, 2) := by decide +kernel
theorem dX5_link_212 : decode cX5_link 212 = .ok (.iaload, 1) := by decide +kernel
theorem dX5_link_213 : decode cX5_link 213 = .ok (.bipush 6, 2) := by decide +kernel
theorem dX5_link_215 : decode cX5_link 215 = .ok (.if_icmp .ne 13, 3) := by decide +kernel
theorem dX5_link_218 : decode cX5_link 218 = .ok (.aload_n 0, 1) := by decide +kernel
theorem dX5_link_219 : decode cX5_link 219 = .ok (.getfield 15, 3) := by decide +kernel
theorem dX5_link_222 : decode cX5_link 222 = .ok (.iload 7, 2) := by decide +kernel
theorem dX5_link_224 : decode cX5_link 224 = .ok (.iaload, 1) := by decide +kernel
theorem dX5_link_225 : decode cX5_link 225 = .ok (.goto 4, 3) := by decide +kernel
theorem dX5_link_228 : decode cX5_link 228 = .ok (.iconst 0, 1) := by decide +kernel
theorem dX5_link_229 : decode cX5_link 229 = .ok (.istore_n 3, 1) := by decide +kernel
theorem dX5_link_230 : decode cX5_link 230 = .ok (.iload 8, 2) := by decide +kernel
theorem dX5_link_232 : decode cX5_link 232 = .ok (.ifCond .ne 7, 3) := by decide +kernel
theorem dX5_link_235 : decode cX5_link 235 = .ok (.iload_n 3, 1) := by decide +kernel
theorem dX5_link_236 : decode cX5_link 236 = .ok (.ifCond .eq 44, 3) := by decide +kernel
theorem dX5_link_239 : decode cX5_link 239 = .ok (.aload_n 0, 1) := by decide +kernel
theorem dX5_link_240 : decode cX5_link 240 = .ok (.getfield 9, 3) := by decide +kernel
theorem dX5_link_243 : decode cX5_link 243 = .ok (.iload 5, 2) := by decide +kernel
theorem dX5_link_245 : decode cX5_link 245 = .ok (.iload_n 3, 1) := by decide +kernel
theorem dX5_link_246 : decode cX5_link 246 = .ok (.ifCond .ne 7, 3) := by decide +kernel
theorem dX5_link_249 : decode cX5_link 249 = .ok (.iconst 2, 1) := by decide +kernel
theorem dX5_link_250 : decode cX5_link 250 = .ok (.goto 5, 3) := by decide +kernel
theorem dX5_link_253 : decode cX5_link 253 = .ok (.bipush 6, 2) := by decide +kernel
theorem dX5_link_255 : decode cX5_link 255 = .ok (.iastore, 1) := by decide +kernel
theorem dX5_link_256 : decode cX5_link 256 = .ok (.aload_n 0, 1) := by decide +kernel
theorem dX5_link_257 : decode cX5_link 257 = .ok (.getfield 15, 3) := by decide +kernel
theorem dX5_link_260 : decode cX5_link 260 = .ok (.iload 5, 2) := by decide +kernel
theorem dX5_link_262 : decode cX5_link 262 = .ok (.iload_n 3, 1) := by decide +kernel
theorem dX5_link_263 : decode cX5_link 263 = .ok (.iastore, 1) := by decide +kernel
theorem dX5_link_264 : decode cX5_link 264 = .ok (.aload_n 0, 1) := by decide +kernel
theorem dX5_link_265 : decode cX5_link 265 = .ok (.iload 5, 2) := by decide +kernel
theorem dX5_link_267 : decode cX5_link 267 = .ok (.aload_n 0, 1) := by decide +kernel
theorem dX5_link_268 : decode cX5_link 268 = .ok (.getfield 9, 3) := by decide +kernel
theorem dX5_link_271 : decode cX5_link 271 = .ok (.iload 5, 2) := by decide +kernel
theorem dX5_link_273 : decode cX5_link 273 = .ok (.iaload, 1) := by decide +kernel
theorem dX5_link_274 : decode cX5_link 274 = .ok (.invokevirtual 109, 3) := by decide +kernel
theorem dX5_link_277 : decode cX5_link 277 = .ok (.iinc 2 (-1), 3) := by decide +kernel
theorem dX5_link_280 : decode cX5_link 280 = .ok (.iinc 4 1, 3) := by decide +kernel
theorem dX5_link_283 : decode cX5_link 283 = .ok (.goto (-242), 3) := by decide +kernel
theorem dX5_link_286 : decode cX5_link 286 = .ok (.aload_n 0, 1) := by decide +kernel
theorem dX5_link_287 : decode cX5_link 287 = .ok (.getfield 9, 3) := by decide +kernel
theorem dX5_link_290 : decode cX5_link 290 = .ok (.iload_n 1, 1) := by decide +kernel
theorem dX5_link_291 : decode cX5_link 291 = .ok (.iaload, 1) := by decide +kernel
theorem dX5_link_292 : decode cX5_link 292 = .ok (.bipush 6, 2) := by decide +kernel
theorem dX5_link_294 : decode cX5_link 294 = .ok (.if_icmp .eq 13, 3) := by decide +kernel
theorem dX5_link_297 : decode cX5_link 297 = .ok (.aload_n 0, 1) := by decide +kernel
theorem dX5_link_298 : decode cX5_link 298 = .ok (.getfield 9, 3) := by decide +kernel
theorem dX5_link_301 : decode cX5_link 301 = .ok (.iload_n 1, 1) := by decide +kernel
theorem dX5_link_302 : decode cX5_link 302 = .ok (.iaload, 1) := by decide +kernel
theorem dX5_link_303 : decode cX5_link 303 = .ok (.iconst 5, 1) := by decide +kernel
theorem dX5_link_304 : decode cX5_link 304 = .ok (.if_icmp .ne 12, 3) := by decide +kernel
theorem dX5_link_307 : decode cX5_link 307 = .ok (.aload_n 0, 1) := by decide +kernel
theorem dX5_link_308 : decode cX5_link 308 = .ok (.getfield 15, 3) := by decide +kernel
theorem dX5_link_311 : decode cX5_link 311 = .ok (.iload_n 1, 1) := by decide +kernel
theorem dX5_link_312 : decode cX5_link 312 = .ok (.iaload, 1) := by decide +kernel
theorem dX5_link_313 : decode cX5_link 313 = .ok (.goto 4, 3) := by decide +kernel
theorem dX5_link_316 : decode cX5_link 316 = .ok (.iload_n 3, 1) := by decide +kernel
theorem dX5_link_317 : decode cX5_link 317 = .ok (.ireturn, 1) := by decide +kernel
theorem dX5_linkOwn_0 : decode cX5_linkOwn 0 = .ok (.aload_n 0, 1) := by decide +kernel
theorem dX5_linkOwn_1 : decode cX5_linkOwn 1 = .ok (.getfield 51, 3) := by decide +kernel
theorem dX5_linkOwn_4 : decode cX5_linkOwn 4 = .ok (.getfield 73, 3) := by decide +kernel
theorem dX5_linkOwn_7 : decode cX5_linkOwn 7 = .ok (.iload_n 1, 1) := by decide +kernel
theorem dX5_linkOwn_8 : decode cX5_linkOwn 8 = .ok (.aaload, 1) := by decide +kernel
theorem dX5_linkOwn_9 : decode cX5_linkOwn 9 = .ok (.astore_n 2, 1) := by decide +kernel
theorem dX5_linkOwn_10 : decode cX5_linkOwn 10 = .ok (.iconst 0, 1) := by decide +kernel
theorem dX5_linkOwn_11 : decode cX5_linkOwn 11 = .ok (.istore_n 3, 1) := by decide +kernel
theorem dX5_linkOwn_12 : decode cX5_linkOwn 12 = .ok (.iload_n 3, 1) := by decide +kernel
theorem dX5_linkOwn_13 : decode cX5_linkOwn 13 = .ok (.aload_n 2, 1) := by decide +kernel
theorem dX5_linkOwn_14 : decode cX5_linkOwn 14 = .ok (.getfield 123, 3) := by decide +kernel
theorem dX5_linkOwn_17 : decode cX5_linkOwn 17 = .ok (.if_icmp .ge 147, 3) := by decide +kernel
theorem dX5_linkOwn_20 : decode cX5_linkOwn 20 = .ok (.aload_n 2, 1) := by decide +kernel
theorem dX5_linkOwn_21 : decode cX5_linkOwn 21 = .ok (.getfield 103, 3) := by decide +kernel
theorem dX5_linkOwn_24 : decode cX5_linkOwn 24 = .ok (.ifCond .ne 140, 3) := by decide +kernel
theorem dX5_linkOwn_27 : decode cX5_linkOwn 27 = .ok (.aload_n 2, 1) := by decide +kernel
theorem dX5_linkOwn_28 : decode cX5_linkOwn 28 = .ok (.getfield 126, 3) := by decide +kernel
theorem dX5_linkOwn_31 : decode cX5_linkOwn 31 = .ok (.iload_n 3, 1) := by decide +kernel
theorem dX5_linkOwn_32 : decode cX5_linkOwn 32 = .ok (.aaload, 1) := by decide +kernel
theorem dX5_linkOwn_33 : decode cX5_linkOwn 33 = .ok (.astore 4, 2) := by decide +kernel
theorem dX5_linkOwn_35 : decode cX5_linkOwn 35 = .ok (.aload_n 0, 1) := by decide +kernel
theorem dX5_linkOwn_36 : decode cX5_linkOwn 36 = .ok (.getfield 51, 3) := by decide +kernel
theorem dX5_linkOwn_39 : decode cX5_linkOwn 39 = .ok (.getfield 97, 3) := by decide +kernel
theorem dX5_linkOwn_42 : decode cX5_linkOwn 42 = .ok (.iload_n 1, 1) := by decide +kernel
theorem dX5_linkOwn_43 : decode cX5_linkOwn 43 = .ok (.iaload, 1) := by decide +kernel
theorem dX5_linkOwn_44 : decode cX5_linkOwn 44 = .ok (.istore 5, 2) := by decide +kernel
theorem dX5_linkOwn_46 : decode cX5_linkOwn 46 = .ok (.iconst 0, 1) := by decide +kernel
theorem dX5_linkOwn_47 : decode cX5_linkOwn 47 = .ok (.istore 6, 2) := by decide +kernel
theorem dX5_linkOwn_49 : decode cX5_linkOwn 49 = .ok (.iload 6, 2) := by decide +kernel
theorem dX5_linkOwn_51 : decode cX5_linkOwn 51 = .ok (.aload_n 0, 1) := by decide +kernel
theorem dX5_linkOwn_52 : decode cX5_linkOwn 52 = .ok (.getfield 51, 3) := by decide +kernel
theorem dX5_linkOwn_55 : decode cX5_linkOwn 55 = .ok (.getfield 129, 3) := by decide +kernel
theorem dX5_linkOwn_58 : decode cX5_linkOwn 58 = .ok (.iload_n 1, 1) := by decide +kernel
theorem dX5_linkOwn_59 : decode cX5_linkOwn 59 = .ok (.iaload, 1) := by decide +kernel
theorem dX5_linkOwn_60 : decode cX5_linkOwn 60 = .ok (.if_icmp .ge 98, 3) := by decide +kernel
theorem dX5_linkOwn_63 : decode cX5_linkOwn 63 = .ok (.iload 5, 2) := by decide +kernel
theorem dX5_linkOwn_65 : decode cX5_linkOwn 65 = .ok (.ifCond .lt 93, 3) := by decide +kernel
theorem dX5_linkOwn_68 : decode cX5_linkOwn 68 = .ok (.aload 4, 2) := by decide +kernel
theorem dX5_linkOwn_70 : decode cX5_linkOwn 70 = .ok (.getfield 132, 3) := by decide +kernel
theorem dX5_linkOwn_73 : decode cX5_linkOwn 73 = .ok (.iconst 1, 1) := by decide +kernel
theorem dX5_linkOwn_74 : decode cX5_linkOwn 74 = .ok (.if_icmp .ne 84, 3) := by decide +kernel
theorem dX5_linkOwn_77 : decode cX5_linkOwn 77 = .ok (.aload 4, 2) := by decide +kernel
theorem dX5_linkOwn_79 : decode cX5_linkOwn 79 = .ok (.invokevirtual 135, 3) := by decide +kernel
theorem dX5_linkOwn_82 : decode cX5_linkOwn 82 = .ok (.ifCond .eq 76, 3) := by decide +kernel
theorem dX5_linkOwn_85 : decode cX5_linkOwn 85 = .ok (.aload_n 0, 1) := by decide +kernel
theorem dX5_linkOwn_86 : decode cX5_linkOwn 86 = .ok (.getfield 51, 3) := by decide +kernel
theorem dX5_linkOwn_89 : decode cX5_linkOwn 89 = .ok (.getfield 73, 3) := by decide +kernel
theorem dX5_linkOwn_92 : decode cX5_linkOwn 92 = .ok (.iload 5, 2) := by decide +kernel
theorem dX5_linkOwn_94 : decode cX5_linkOwn 94 = .ok (.aaload, 1) := by decide +kernel
theorem dX5_linkOwn_95 : decode cX5_linkOwn 95 = .ok (.aload 4, 2) := by decide +kernel
theorem dX5_linkOwn_97 : decode cX5_linkOwn 97 = .ok (.invokevirtual 139, 3) := by decide +kernel
theorem dX5_linkOwn_100 : decode cX5_linkOwn 100 = .ok (.astore 7, 2) := by decide +kernel
theorem dX5_linkOwn_102 : decode cX5_linkOwn 102 = .ok (.aload 7, 2) := by decide +kernel
theorem dX5_linkOwn_104 : decode cX5_linkOwn 104 = .ok (.ifnull 36, 3) := by decide +kernel
theorem dX5_linkOwn_107 : decode cX5_linkOwn 107 = .ok (.aload 7, 2) := by decide +kernel
theorem dX5_linkOwn_109 : decode cX5_linkOwn 109 = .ok (.getfield 143, 3) := by decide +kernel
theorem dX5_linkOwn_112 : decode cX5_linkOwn 112 = .ok (.ifCond .eq 28, 3) := by decide +kernel
theorem dX5_linkOwn_115 : decode cX5_linkOwn 115 = .ok (.aload 7, 2) := by decide +kernel
theorem dX5_linkOwn_117 : decode cX5_linkOwn 117 = .ok (.invokevirtual 135, 3) := by decide +kernel
theorem dX5_linkOwn_120 : decode cX5_linkOwn 120 = .ok (.ifCond .eq 20, 3) := by decide +kernel
theorem dX5_linkOwn_123 : decode cX5_linkOwn 123 = .ok (.aload_n 0, 1) := by decide +kernel
theorem dX5_linkOwn_124 : decode cX5_linkOwn 124 = .ok (.getfield 51, 3) := by decide +kernel
theorem dX5_linkOwn_127 : decode cX5_linkOwn 127 = .ok (.iload_n 1, 1) := by decide +kernel
theorem dX5_linkOwn_128 : decode cX5_linkOwn 128 = .ok (.iload 5, 2) := by decide +kernel
theorem dX5_linkOwn_130 : decode cX5_linkOwn 130 = .ok (.aload 7, 2) := by decide +kernel
theorem dX5_linkOwn_132 : decode cX5_linkOwn 132 = .ok (.invokevirtual 146, 3) := by decide +kernel
theorem dX5_linkOwn_135 : decode cX5_linkOwn 135 = .ok (.ifCond .eq 5, 3) := by decide +kernel
theorem dX5_linkOwn_138 : decode cX5_linkOwn 138 = .ok (.iconst 3, 1) := by decide +kernel
theorem dX5_linkOwn_139 : decode cX5_linkOwn 139 = .ok (.ireturn, 1) := by decide +kernel
theorem dX5_linkOwn_140 : decode cX5_linkOwn 140 = .ok (.aload_n 0, 1) := by decide +kernel
theorem dX5_linkOwn_141 : decode cX5_linkOwn 141 = .ok (.getfield 51, 3) := by decide +kernel
theorem dX5_linkOwn_144 : decode cX5_linkOwn 144 = .ok (.getfield 97, 3) := by decide +kernel
theorem dX5_linkOwn_147 : decode cX5_linkOwn 147 = .ok (.iload 5, 2) := by decide +kernel
theorem dX5_linkOwn_149 : decode cX5_linkOwn 149 = .ok (.iaload, 1) := by decide +kernel
theorem dX5_linkOwn_150 : decode cX5_linkOwn 150 = .ok (.istore 5, 2) := by decide +kernel
theorem dX5_linkOwn_152 : decode cX5_linkOwn 152 = .ok (.iinc 6 1, 3) := by decide +kernel
theorem dX5_linkOwn_155 : decode cX5_linkOwn 155 = .ok (.goto (-106), 3) := by decide +kernel
theorem dX5_linkOwn_158 : decode cX5_linkOwn 158 = .ok (.iinc 3 1, 3) := by decide +kernel
theorem dX5_linkOwn_161 : decode cX5_linkOwn 161 = .ok (.goto (-149), 3) := by decide +kernel
theorem dX5_linkOwn_164 : decode cX5_linkOwn 164 = .ok (.aload_n 2, 1) := by decide +kernel
theorem dX5_linkOwn_165 : decode cX5_linkOwn 165 = .ok (.getfield 150, 3) := by decide +kernel
theorem dX5_linkOwn_168 : decode cX5_linkOwn 168 = .ok (.astore_n 3, 1) := by decide +kernel
theorem dX5_linkOwn_169 : decode cX5_linkOwn 169 = .ok (.aload_n 2, 1) := by decide +kernel
theorem dX5_linkOwn_170 : decode cX5_linkOwn 170 = .ok (.getfield 154, 3) := by decide +kernel
theorem dX5_linkOwn_173 : decode cX5_linkOwn 173 = .ok (.istore 4, 2) := by decide +kernel
theorem dX5_linkOwn_175 : decode cX5_linkOwn 175 = .ok (.iload 4, 2) := by decide +kernel
theorem dX5_linkOwn_177 : decode cX5_linkOwn 177 = .ok (.aload_n 2, 1) := by decide +kernel
theorem dX5_linkOwn_178 : decode cX5_linkOwn 178 = .ok (.getfield 154, 3) := by decide +kernel
theorem dX5_linkOwn_181 : decode cX5_linkOwn 181 = .ok (.aload_n 2, 1) := by decide +kernel
theorem dX5_linkOwn_182 : decode cX5_linkOwn 182 = .ok (.getfield 77, 3) := by decide +kernel
theorem dX5_linkOwn_185 : decode cX5_linkOwn 185 = .ok (.iadd, 1) := by decide +kernel
theorem dX5_linkOwn_186 : decode cX5_linkOwn 186 = .ok (.if_icmp .ge 79, 3) := by decide +kernel
theorem dX5_linkOwn_189 : decode cX5_linkOwn 189 = .ok (.aload_n 3, 1) := by decide +kernel
theorem dX5_linkOwn_190 : decode cX5_linkOwn 190 = .ok (.getfield 156, 3) := by decide +kernel
theorem dX5_linkOwn_193 : decode cX5_linkOwn 193 = .ok (.iload 4, 2) := by decide +kernel
theorem dX5_linkOwn_195 : decode cX5_linkOwn 195 = .ok (.iaload, 1) := by decide +kernel
theorem dX5_linkOwn_196 : decode cX5_linkOwn 196 = .ok (.bipush 17, 2) := by decide +kernel
theorem dX5_linkOwn_198 : decode cX5_linkOwn 198 = .ok (.if_icmp .ne 24, 3) := by decide +kernel
theorem dX5_linkOwn_201 : decode cX5_linkOwn 201 = .ok (.aload_n 0, 1) := by decide +kernel
theorem dX5_linkOwn_202 : decode cX5_linkOwn 202 = .ok (.aload_n 3, 1) := by decide +kernel
theorem dX5_linkOwn_203 : decode cX5_linkOwn 203 = .ok (.getfield 161, 3) := by decide +kernel
theorem dX5_linkOwn_206 : decode cX5_linkOwn 206 = .ok (.iload 4, 2) := by decide +kernel
theorem dX5_linkOwn_208 : decode cX5_linkOwn 208 = .ok (.laload, 1) := by decide +kernel
theorem dX5_linkOwn_209 : decode cX5_linkOwn 209 = .ok (.aload_n 3, 1) := by decide +kernel
theorem dX5_linkOwn_210 : decode cX5_linkOwn 210 = .ok (.getfield 165, 3) := by decide +kernel
theorem dX5_linkOwn_213 : decode cX5_linkOwn 213 = .ok (.iload 4, 2) := by decide +kernel
theorem dX5_linkOwn_215 : decode cX5_linkOwn 215 = .ok (.laload, 1) := by decide +kernel
theorem dX5_linkOwn_216 : decode cX5_linkOwn 216 = .ok (.invokevirtual 168, 3) := by decide +kernel
theorem dX5_linkOwn_219 : decode cX5_linkOwn 219 = .ok (.goto 30, 3) := by decide +kernel
theorem dX5_linkOwn_222 : decode cX5_linkOwn 222 = .ok (.aload_n 3, 1) := by decide +kernel
theorem dX5_linkOwn_223 : decode cX5_linkOwn 223 = .ok (.getfield 156, 3) := by decide +kernel
theorem dX5_linkOwn_226 : decode cX5_linkOwn 226 = .ok (.iload 4, 2) := by decide +kernel
theorem dX5_linkOwn_228 : decode cX5_linkOwn 228 = .ok (.iaload, 1) := by decide +kernel
theorem dX5_linkOwn_229 : decode cX5_linkOwn 229 = .ok (.bipush 15, 2) := by decide +kernel
theorem dX5_linkOwn_231 : decode cX5_linkOwn 231 = .ok (.if_icmp .ne 17, 3) := by decide +kernel
theorem dX5_linkOwn_234 : decode cX5_linkOwn 234 = .ok (.aload_n 0, 1) := by decide +kernel
theorem dX5_linkOwn_235 : decode cX5_linkOwn 235 = .ok (.aload_n 3, 1) := by decide +kernel
theorem dX5_linkOwn_236 : decode cX5_linkOwn 236 = .ok (.getfield 161, 3) := by decide +kernel
theorem dX5_linkOwn_239 : decode cX5_linkOwn 239 = .ok (.iload 4, 2) := by decide +kernel
theorem dX5_linkOwn_241 : decode cX5_linkOwn 241 = .ok (.laload, 1) := by decide +kernel
theorem dX5_linkOwn_242 : decode cX5_linkOwn 242 = .ok (.invokevirtual 172, 3) := by decide +kernel
theorem dX5_linkOwn_245 : decode cX5_linkOwn 245 = .ok (.goto 4, 3) := by decide +kernel
theorem dX5_linkOwn_248 : decode cX5_linkOwn 248 = .ok (.iconst 0, 1) := by decide +kernel
theorem dX5_linkOwn_249 : decode cX5_linkOwn 249 = .ok (.istore 5, 2) := by decide +kernel
theorem dX5_linkOwn_251 : decode cX5_linkOwn 251 = .ok (.iload 5, 2) := by decide +kernel
theorem dX5_linkOwn_253 : decode cX5_linkOwn 253 = .ok (.ifCond .eq 6, 3) := by decide +kernel
theorem dX5_linkOwn_256 : decode cX5_linkOwn 256 = .ok (.iload 5, 2) := by decide +kernel
theorem dX5_linkOwn_258 : decode cX5_linkOwn 258 = .ok (.ireturn, 1) := by decide +kernel
theorem dX5_linkOwn_259 : decode cX5_linkOwn 259 = .ok (.iinc 4 1, 3) := by decide +kernel
theorem dX5_linkOwn_262 : decode cX5_linkOwn 262 = .ok (.goto (-87), 3) := by decide +kernel
theorem dX5_linkOwn_265 : decode cX5_linkOwn 265 = .ok (.iconst 0, 1) := by decide +kernel
theorem dX5_linkOwn_266 : decode cX5_linkOwn 266 = .ok (.ireturn, 1) := by decide +kernel
theorem dX5_askFit_0 : decode cX5_askFit 0 = .ok (.aload_n 0, 1) := by decide +kernel
theorem dX5_askFit_1 : decode cX5_askFit 1 = .ok (.getfield 51, 3) := by decide +kernel
theorem dX5_askFit_4 : decode cX5_askFit 4 = .ok (.lload_n 3, 1) := by decide +kernel
theorem dX5_askFit_5 : decode cX5_askFit 5 = .ok (.invokevirtual 176, 3) := by decide +kernel
theorem dX5_askFit_8 : decode cX5_askFit 8 = .ok (.istore 5, 2) := by decide +kernel
theorem dX5_askFit_10 : decode cX5_askFit 10 = .ok (.iload 5, 2) := by decide +kernel
theorem dX5_askFit_12 : decode cX5_askFit 12 = .ok (.ifCond .ge 7, 3) := by decide +kernel
theorem dX5_askFit_15 : decode cX5_askFit 15 = .ok (.iconst 1, 1) := by decide +kernel
theorem dX5_askFit_16 : decode cX5_askFit 16 = .ok (.goto 9, 3) := by decide +kernel
theorem dX5_askFit_19 : decode cX5_askFit 19 = .ok (.aload_n 0, 1) := by decide +kernel
theorem dX5_askFit_20 : decode cX5_askFit 20 = .ok (.iload 5, 2) := by decide +kernel
theorem dX5_askFit_22 : decode cX5_askFit 22 = .ok (.invokevirtual 116, 3) := by decide +kernel
theorem dX5_askFit_25 : decode cX5_askFit 25 = .ok (.istore 6, 2) := by decide +kernel
theorem dX5_askFit_27 : decode cX5_askFit 27 = .ok (.iload 6, 2) := by decide +kernel
theorem dX5_askFit_29 : decode cX5_askFit 29 = .ok (.ifCond .ne 19, 3) := by decide +kernel
theorem dX5_askFit_32 : decode cX5_askFit 32 = .ok (.aload_n 0, 1) := by decide +kernel
theorem dX5_askFit_33 : decode cX5_askFit 33 = .ok (.getfield 51, 3) := by decide +kernel
theorem dX5_askFit_36 : decode cX5_askFit 36 = .ok (.getfield 73, 3) := by decide +kernel
theorem dX5_askFit_39 : decode cX5_askFit 39 = .ok (.iload 5, 2) := by decide +kernel
theorem dX5_askFit_41 : decode cX5_askFit 41 = .ok (.aaload, 1) := by decide +kernel
theorem dX5_askFit_42 : decode cX5_askFit 42 = .ok (.getfield 103, 3) := by decide +kernel
theorem dX5_askFit_45 : decode cX5_askFit 45 = .ok (.ifCond .eq 6, 3) := by decide +kernel
theorem dX5_askFit_48 : decode cX5_askFit 48 = .ok (.iload 6, 2) := by decide +kernel
theorem dX5_askFit_50 : decode cX5_askFit 50 = .ok (.ireturn, 1) := by decide +kernel
theorem dX5_askFit_51 : decode cX5_askFit 51 = .ok (.aload_n 0, 1) := by decide +kernel
theorem dX5_askFit_52 : decode cX5_askFit 52 = .ok (.getfield 51, 3) := by decide +kernel
theorem dX5_askFit_55 : decode cX5_askFit 55 = .ok (.lload_n 1, 1) := by decide +kernel
theorem dX5_askFit_56 : decode cX5_askFit 56 = .ok (.invokevirtual 176, 3) := by decide +kernel
theorem dX5_askFit_59 : decode cX5_askFit 59 = .ok (.istore 7, 2) := by decide +kernel
theorem dX5_askFit_61 : decode cX5_askFit 61 = .ok (.iload 7, 2) := by decide +kernel
theorem dX5_askFit_63 : decode cX5_askFit 63 = .ok (.ifCond .ge 7, 3) := by decide +kernel
theorem dX5_askFit_66 : decode cX5_askFit 66 = .ok (.iconst 1, 1) := by decide +kernel
theorem dX5_askFit_67 : decode cX5_askFit 67 = .ok (.goto 9, 3) := by decide +kernel
theorem dX5_askFit_70 : decode cX5_askFit 70 = .ok (.aload_n 0, 1) := by decide +kernel
theorem dX5_askFit_71 : decode cX5_askFit 71 = .ok (.iload 7, 2) := by decide +kernel
theorem dX5_askFit_73 : decode cX5_askFit 73 = .ok (.invokevirtual 116, 3) := by decide +kernel
theorem dX5_askFit_76 : decode cX5_askFit 76 = .ok (.istore 6, 2) := by decide +kernel
theorem dX5_askFit_78 : decode cX5_askFit 78 = .ok (.iload 6, 2) := by decide +kernel
theorem dX5_askFit_80 : decode cX5_askFit 80 = .ok (.ifCond .ne 24, 3) := by decide +kernel
theorem dX5_askFit_83 : decode cX5_askFit 83 = .ok (.iload 7, 2) := by decide +kernel
theorem dX5_askFit_85 : decode cX5_askFit 85 = .ok (.iload 5, 2) := by decide +kernel
theorem dX5_askFit_87 : decode cX5_askFit 87 = .ok (.if_icmp .eq 17, 3) := by decide +kernel
theorem dX5_askFit_90 : decode cX5_askFit 90 = .ok (.aload_n 0, 1) := by decide +kernel
theorem dX5_askFit_91 : decode cX5_askFit 91 = .ok (.getfield 51, 3) := by decide +kernel
theorem dX5_askFit_94 : decode cX5_askFit 94 = .ok (.iload 7, 2) := by decide +kernel
theorem dX5_askFit_96 : decode cX5_askFit 96 = .ok (.iload 5, 2) := by decide +kernel
theorem dX5_askFit_98 : decode cX5_askFit 98 = .ok (.invokevirtual 179, 3) := by decide +kernel
theorem dX5_askFit_101 : decode cX5_askFit 101 = .ok (.ifCond .eq 8, 3) := by decide +kernel
theorem dX5_askFit_104 : decode cX5_askFit 104 = .ok (.iload 6, 2) := by decide +kernel
theorem dX5_askFit_106 : decode cX5_askFit 106 = .ok (.goto 5, 3) := by decide +kernel
theorem dX5_askFit_109 : decode cX5_askFit 109 = .ok (.bipush 11, 2) := by decide +kernel
theorem dX5_askFit_111 : decode cX5_askFit 111 = .ok (.ireturn, 1) := by decide +kernel
theorem dX5_askCatch_0 : decode cX5_askCatch 0 = .ok (.aload_n 0, 1) := by decide +kernel
theorem dX5_askCatch_1 : decode cX5_askCatch 1 = .ok (.getfield 51, 3) := by decide +kernel
theorem dX5_askCatch_4 : decode cX5_askCatch 4 = .ok (.lload_n 1, 1) := by decide +kernel
theorem dX5_askCatch_5 : decode cX5_askCatch 5 = .ok (.invokevirtual 176, 3) := by decide +kernel
theorem dX5_askCatch_8 : decode cX5_askCatch 8 = .ok (.istore_n 3, 1) := by decide +kernel
theorem dX5_askCatch_9 : decode cX5_askCatch 9 = .ok (.aload_n 0, 1) := by decide +kernel
theorem dX5_askCatch_10 : decode cX5_askCatch 10 = .ok (.iload_n 3, 1) := by decide +kernel
theorem dX5_askCatch_11 : decode cX5_askCatch 11 = .ok (.putfield 89, 3) := by decide +kernel
theorem dX5_askCatch_14 : decode cX5_askCatch 14 = .ok (.iload_n 3, 1) := by decide +kernel
theorem dX5_askCatch_15 : decode cX5_askCatch 15 = .ok (.ifCond .ge 7, 3) := by decide +kernel
theorem dX5_askCatch_18 : decode cX5_askCatch 18 = .ok (.iconst 1, 1) := by decide +kernel
theorem dX5_askCatch_19 : decode cX5_askCatch 19 = .ok (.goto 8, 3) := by decide +kernel
theorem dX5_askCatch_22 : decode cX5_askCatch 22 = .ok (.aload_n 0, 1) := by decide +kernel
theorem dX5_askCatch_23 : decode cX5_askCatch 23 = .ok (.iload_n 3, 1) := by decide +kernel
theorem dX5_askCatch_24 : decode cX5_askCatch 24 = .ok (.invokevirtual 116, 3) := by decide +kernel
theorem dX5_askCatch_27 : decode cX5_askCatch 27 = .ok (.istore 4, 2) := by decide +kernel
theorem dX5_askCatch_29 : decode cX5_askCatch 29 = .ok (.iload 4, 2) := by decide +kernel
theorem dX5_askCatch_31 : decode cX5_askCatch 31 = .ok (.ifCond .ne 20, 3) := by decide +kernel
theorem dX5_askCatch_34 : decode cX5_askCatch 34 = .ok (.iload_n 3, 1) := by decide +kernel
theorem dX5_askCatch_35 : decode cX5_askCatch 35 = .ok (.iconst 1, 1) := by decide +kernel
theorem dX5_askCatch_36 : decode cX5_askCatch 36 = .ok (.if_icmp .eq 15, 3) := by decide +kernel
theorem dX5_askCatch_39 : decode cX5_askCatch 39 = .ok (.aload_n 0, 1) := by decide +kernel
theorem dX5_askCatch_40 : decode cX5_askCatch 40 = .ok (.getfield 51, 3) := by decide +kernel
theorem dX5_askCatch_43 : decode cX5_askCatch 43 = .ok (.iload_n 3, 1) := by decide +kernel
theorem dX5_askCatch_44 : decode cX5_askCatch 44 = .ok (.iconst 1, 1) := by decide +kernel
theorem dX5_askCatch_45 : decode cX5_askCatch 45 = .ok (.invokevirtual 179, 3) := by decide +kernel
theorem dX5_askCatch_48 : decode cX5_askCatch 48 = .ok (.ifCond .eq 8, 3) := by decide +kernel
theorem dX5_askCatch_51 : decode cX5_askCatch 51 = .ok (.iload 4, 2) := by decide +kernel
theorem dX5_askCatch_53 : decode cX5_askCatch 53 = .ok (.goto 5, 3) := by decide +kernel
theorem dX5_askCatch_56 : decode cX5_askCatch 56 = .ok (.bipush 11, 2) := by decide +kernel
theorem dX5_askCatch_58 : decode cX5_askCatch 58 = .ok (.ireturn, 1) := by decide +kernel
theorem dX5_ask_0 : decode cX5_ask 0 = .ok (.aload_n 0, 1) := by decide +kernel
theorem dX5_ask_1 : decode cX5_ask 1 = .ok (.aconst_null, 1) := by decide +kernel
theorem dX5_ask_2 : decode cX5_ask 2 = .ok (.putfield 82, 3) := by decide +kernel
theorem dX5_ask_5 : decode cX5_ask 5 = .ok (.aload_n 0, 1) := by decide +kernel
theorem dX5_ask_6 : decode cX5_ask 6 = .ok (.bipush (-2), 2) := by decide +kernel
theorem dX5_ask_8 : decode cX5_ask 8 = .ok (.putfield 86, 3) := by decide +kernel
theorem dX5_ask_11 : decode cX5_ask 11 = .ok (.aload_n 0, 1) := by decide +kernel
theorem dX5_ask_12 : decode cX5_ask 12 = .ok (.ldc2_w 183, 3) := by decide +kernel
theorem dX5_ask_15 : decode cX5_ask 15 = .ok (.putfield 185, 3) := by decide +kernel
theorem dX5_ask_18 : decode cX5_ask 18 = .ok (.aload_n 0, 1) := by decide +kernel
theorem dX5_ask_19 : decode cX5_ask 19 = .ok (.iconst 0, 1) := by decide +kernel
theorem dX5_ask_20 : decode cX5_ask 20 = .ok (.putfield 189, 3) := by decide +kernel
theorem dX5_ask_23 : decode cX5_ask 23 = .ok (.aload_n 0, 1) := by decide +kernel
theorem dX5_ask_24 : decode cX5_ask 24 = .ok (.bipush (-2), 2) := by decide +kernel
theorem dX5_ask_26 : decode cX5_ask 26 = .ok (.putfield 89, 3) := by decide +kernel
theorem dX5_ask_29 : decode cX5_ask 29 = .ok (.aload_n 0, 1) := by decide +kernel
theorem dX5_ask_30 : decode cX5_ask 30 = .ok (.getfield 51, 3) := by decide +kernel
theorem dX5_ask_33 : decode cX5_ask 33 = .ok (.getfield 73, 3) := by decide +kernel
theorem dX5_ask_36 : decode cX5_ask 36 = .ok (.iload_n 1, 1) := by decide +kernel
theorem dX5_ask_37 : decode cX5_ask 37 = .ok (.aaload, 1) := by decide +kernel
theorem dX5_ask_38 : decode cX5_ask 38 = .ok (.astore_n 3, 1) := by decide +kernel
theorem dX5_ask_39 : decode cX5_ask 39 = .ok (.aload_n 3, 1) := by decide +kernel
theorem dX5_ask_40 : decode cX5_ask 40 = .ok (.getfield 150, 3) := by decide +kernel
theorem dX5_ask_43 : decode cX5_ask 43 = .ok (.astore 4, 2) := by decide +kernel
theorem dX5_ask_45 : decode cX5_ask 45 = .ok (.aload_n 3, 1) := by decide +kernel
theorem dX5_ask_46 : decode cX5_ask 46 = .ok (.getfield 154, 3) := by decide +kernel
theorem dX5_ask_49 : decode cX5_ask 49 = .ok (.iload_n 2, 1) := by decide +kernel
theorem dX5_ask_50 : decode cX5_ask 50 = .ok (.iadd, 1) := by decide +kernel
theorem dX5_ask_51 : decode cX5_ask 51 = .ok (.istore 5, 2) := by decide +kernel
theorem dX5_ask_53 : decode cX5_ask 53 = .ok (.iload_n 2, 1) := by decide +kernel
theorem dX5_ask_54 : decode cX5_ask 54 = .ok (.ifCond .lt 21, 3) := by decide +kernel
theorem dX5_ask_57 : decode cX5_ask 57 = .ok (.iload_n 2, 1) := by decide +kernel
theorem dX5_ask_58 : decode cX5_ask 58 = .ok (.aload_n 3, 1) := by decide +kernel
theorem dX5_ask_59 : decode cX5_ask 59 = .ok (.getfield 77, 3) := by decide +kernel
theorem dX5_ask_62 : decode cX5_ask 62 = .ok (.if_icmp .ge 13, 3) := by decide +kernel
theorem dX5_ask_65 : decode cX5_ask 65 = .ok (.iload 5, 2) := by decide +kernel
theorem dX5_ask_67 : decode cX5_ask 67 = .ok (.aload 4, 2) := by decide +kernel
theorem dX5_ask_69 : decode cX5_ask 69 = .ok (.getfield 192, 3) := by decide +kernel
theorem dX5_ask_72 : decode cX5_ask 72 = .ok (.if_icmp .lt 5, 3) := by decide +kernel
theorem dX5_ask_75 : decode cX5_ask 75 = .ok (.iconst 1, 1) := by decide +kernel
theorem dX5_ask_76 : decode cX5_ask 76 = .ok (.ireturn, 1) := by decide +kernel
theorem dX5_ask_77 : decode cX5_ask 77 = .ok (.aload 4, 2) := by decide +kernel
theorem dX5_ask_79 : decode cX5_ask 79 = .ok (.getfield 156, 3) := by decide +kernel
theorem dX5_ask_82 : decode cX5_ask 82 = .ok (.iload 5, 2) := by decide +kernel
theorem dX5_ask_84 : decode cX5_ask 84 = .ok (.iaload, 1) := by decide +kernel
theorem dX5_ask_85 : decode cX5_ask 85 = .ok (.istore 6, 2) := by decide +kernel
theorem dX5_ask_87 : decode cX5_ask 87 = .ok (.iload 6, 2) := by decide +kernel
theorem dX5_ask_89 : decode cX5_ask 89 = .ok (.bipush 16, 2) := by decide +kernel
theorem dX5_ask_91 : decode cX5_ask 91 = .ok (.if_icmp .ne 32, 3) := by decide +kernel
theorem dX5_ask_94 : decode cX5_ask 94 = .ok (.aload_n 0, 1) := by decide +kernel
theorem dX5_ask_95 : decode cX5_ask 95 = .ok (.aload 4, 2) := by decide +kernel
theorem dX5_ask_97 : decode cX5_ask 97 = .ok (.getfield 161, 3) := by decide +kernel
theorem dX5_ask_100 : decode cX5_ask 100 = .ok (.iload 5, 2) := by decide +kernel
theorem dX5_ask_102 : decode cX5_ask 102 = .ok (.laload, 1) := by decide +kernel
theorem dX5_ask_103 : decode cX5_ask 103 = .ok (.aload 4, 2) := by decide +kernel
theorem dX5_ask_105 : decode cX5_ask 105 = .ok (.getfield 193, 3) := by decide +kernel
theorem dX5_ask_108 : decode cX5_ask 108 = .ok (.iload 5, 2) := by decide +kernel
theorem dX5_ask_110 : decode cX5_ask 110 = .ok (.aaload, 1) := by decide +kernel
theorem dX5_ask_111 : decode cX5_ask 111 = .ok (.aload 4, 2) := by decide +kernel
theorem dX5_ask_113 : decode cX5_ask 113 = .ok (.getfield 165, 3) := by decide +kernel
theorem dX5_ask_116 : decode cX5_ask 116 = .ok (.iload 5, 2) := by decide +kernel
theorem dX5_ask_118 : decode cX5_ask 118 = .ok (.laload, 1) := by decide +kernel
theorem dX5_ask_119 : decode cX5_ask 119 = .ok (.invokevirtual 196, 3) := by decide +kernel
theorem dX5_ask_122 : decode cX5_ask 122 = .ok (.ireturn, 1) := by decide +kernel
theorem dX5_ask_123 : decode cX5_ask 123 = .ok (.aload_n 0, 1) := by decide +kernel
theorem dX5_ask_124 : decode cX5_ask 124 = .ok (.iload_n 1, 1) := by decide +kernel
theorem dX5_ask_125 : decode cX5_ask 125 = .ok (.invokevirtual 116, 3) := by decide +kernel
theorem dX5_ask_128 : decode cX5_ask 128 = .ok (.istore 7, 2) := by decide +kernel
theorem dX5_ask_130 : decode cX5_ask 130 = .ok (.iload 7, 2) := by decide +kernel
theorem dX5_ask_132 : decode cX5_ask 132 = .ok (.ifCond .eq 6, 3) := by decide +kernel
theorem dX5_ask_135 : decode cX5_ask 135 = .ok (.iload 7, 2) := by decide +kernel
theorem dX5_ask_137 : decode cX5_ask 137 = .ok (.ireturn, 1) := by decide +kernel
theorem dX5_ask_138 : decode cX5_ask 138 = .ok (.iload 6, 2) := by decide +kernel
theorem dX5_ask_140 : decode cX5_ask 140 = .ok (.bipush 17, 2) := by decide +kernel
theorem dX5_ask_142 : decode cX5_ask 142 = .ok (.if_icmp .ne 24, 3) := by decide +kernel
theorem dX5_ask_145 : decode cX5_ask 145 = .ok (.aload_n 0, 1) := by decide +kernel
theorem dX5_ask_146 : decode cX5_ask 146 = .ok (.aload 4, 2) := by decide +kernel
theorem dX5_ask_148 : decode cX5_ask 148 = .ok (.getfield 161, 3) := by decide +kernel
theorem dX5_ask_151 : decode cX5_ask 151 = .ok (.iload 5, 2) := by decide +kernel
theorem dX5_ask_153 : decode cX5_ask 153 = .ok (.laload, 1) := by decide +kernel
theorem dX5_ask_154 : decode cX5_ask 154 = .ok (.aload 4, 2) := by decide +kernel
theorem dX5_ask_156 : decode cX5_ask 156 = .ok (.getfield 165, 3) := by decide +kernel
theorem dX5_ask_159 : decode cX5_ask 159 = .ok (.iload 5, 2) := by decide +kernel
theorem dX5_ask_161 : decode cX5_ask 161 = .ok (.laload, 1) := by decide +kernel
theorem dX5_ask_162 : decode cX5_ask 162 = .ok (.invokevirtual 168, 3) := by decide +kernel
theorem dX5_ask_165 : decode cX5_ask 165 = .ok (.ireturn, 1) := by decide +kernel
theorem dX5_ask_166 : decode cX5_ask 166 = .ok (.iload 6, 2) := by decide +kernel
theorem dX5_ask_168 : decode cX5_ask 168 = .ok (.bipush 15, 2) := by decide +kernel
theorem dX5_ask_170 : decode cX5_ask 170 = .ok (.if_icmp .ne 44, 3) := by decide +kernel
theorem dX5_ask_173 : decode cX5_ask 173 = .ok (.aload_n 0, 1) := by decide +kernel
theorem dX5_ask_174 : decode cX5_ask 174 = .ok (.aload 4, 2) := by decide +kernel
theorem dX5_ask_176 : decode cX5_ask 176 = .ok (.getfield 161, 3) := by decide +kernel
theorem dX5_ask_179 : decode cX5_ask 179 = .ok (.iload 5, 2) := by decide +kernel
theorem dX5_ask_181 : decode cX5_ask 181 = .ok (.laload, 1) := by decide +kernel
theorem dX5_ask_182 : decode cX5_ask 182 = .ok (.invokevirtual 172, 3) := by decide +kernel
theorem dX5_ask_185 : decode cX5_ask 185 = .ok (.istore 7, 2) := by decide +kernel
theorem dX5_ask_187 : decode cX5_ask 187 = .ok (.iload 7, 2) := by decide +kernel
theorem dX5_ask_189 : decode cX5_ask 189 = .ok (.ifCond .ne 18, 3) := by decide +kernel
theorem dX5_ask_192 : decode cX5_ask 192 = .ok (.aload_n 0, 1) := by decide +kernel
theorem dX5_ask_193 : decode cX5_ask 193 = .ok (.getfield 51, 3) := by decide +kernel
theorem dX5_ask_196 : decode cX5_ask 196 = .ok (.aload_n 0, 1) := by decide +kernel
theorem dX5_ask_197 : decode cX5_ask 197 = .ok (.getfield 89, 3) := by decide +kernel
theorem dX5_ask_200 : decode cX5_ask 200 = .ok (.iload_n 1, 1) := by decide +kernel
theorem dX5_ask_201 : decode cX5_ask 201 = .ok (.invokevirtual 200, 3) := by decide +kernel
theorem dX5_ask_204 : decode cX5_ask 204 = .ok (.ifCond .eq 8, 3) := by decide +kernel
theorem dX5_ask_207 : decode cX5_ask 207 = .ok (.iload 7, 2) := by decide +kernel
theorem dX5_ask_209 : decode cX5_ask 209 = .ok (.goto 4, 3) := by decide +kernel
theorem dX5_ask_212 : decode cX5_ask 212 = .ok (.iconst 2, 1) := by decide +kernel
theorem dX5_ask_213 : decode cX5_ask 213 = .ok (.ireturn, 1) := by decide +kernel
theorem dX5_ask_214 : decode cX5_ask 214 = .ok (.aload_n 0, 1) := by decide +kernel
theorem dX5_ask_215 : decode cX5_ask 215 = .ok (.getfield 51, 3) := by decide +kernel
theorem dX5_ask_218 : decode cX5_ask 218 = .ok (.aload 4, 2) := by decide +kernel
theorem dX5_ask_220 : decode cX5_ask 220 = .ok (.getfield 161, 3) := by decide +kernel
theorem dX5_ask_223 : decode cX5_ask 223 = .ok (.iload 5, 2) := by decide +kernel
theorem dX5_ask_225 : decode cX5_ask 225 = .ok (.laload, 1) := by decide +kernel
theorem dX5_ask_226 : decode cX5_ask 226 = .ok (.invokevirtual 176, 3) := by decide +kernel
theorem dX5_ask_229 : decode cX5_ask 229 = .ok (.istore 8, 2) := by decide +kernel
theorem dX5_ask_231 : decode cX5_ask 231 = .ok (.aload_n 0, 1) := by decide +kernel
theorem dX5_ask_232 : decode cX5_ask 232 = .ok (.iload 8, 2) := by decide +kernel
theorem dX5_ask_234 : decode cX5_ask 234 = .ok (.putfield 89, 3) := by decide +kernel
theorem dX5_ask_237 : decode cX5_ask 237 = .ok (.iload 8, 2) := by decide +kernel
theorem dX5_ask_239 : decode cX5_ask 239 = .ok (.ifCond .ge 7, 3) := by decide +kernel
theorem dX5_ask_242 : decode cX5_ask 242 = .ok (.iconst 1, 1) := by decide +kernel
theorem dX5_ask_243 : decode cX5_ask 243 = .ok (.goto 9, 3) := by decide +kernel
theorem dX5_ask_246 : decode cX5_ask 246 = .ok (.aload_n 0, 1) := by decide +kernel
theorem dX5_ask_247 : decode cX5_ask 247 = .ok (.iload 8, 2) := by decide +kernel
theorem dX5_ask_249 : decode cX5_ask 249 = .ok (.invokevirtual 116, 3) := by decide +kernel
theorem dX5_ask_252 : decode cX5_ask 252 = .ok (.istore 7, 2) := by decide +kernel
theorem dX5_ask_254 : decode cX5_ask 254 = .ok (.iload 7, 2) := by decide +kernel
theorem dX5_ask_256 : decode cX5_ask 256 = .ok (.ifCond .ne 19, 3) := by decide +kernel
theorem dX5_ask_259 : decode cX5_ask 259 = .ok (.aload_n 0, 1) := by decide +kernel
theorem dX5_ask_260 : decode cX5_ask 260 = .ok (.getfield 51, 3) := by decide +kernel
theorem dX5_ask_263 : decode cX5_ask 263 = .ok (.iload 8, 2) := by decide +kernel
theorem dX5_ask_265 : decode cX5_ask 265 = .ok (.iload_n 1, 1) := by decide +kernel
theorem dX5_ask_266 : decode cX5_ask 266 = .ok (.invokevirtual 200, 3) := by decide +kernel
theorem dX5_ask_269 : decode cX5_ask 269 = .ok (.ifCond .ne 6, 3) := by decide +kernel
theorem dX5_ask_272 : decode cX5_ask 272 = .ok (.iconst 2, 1) := by decide +kernel
theorem dX5_ask_273 : decode cX5_ask 273 = .ok (.istore 7, 2) := by decide +kernel
theorem dX5_ask_275 : decode cX5_ask 275 = .ok (.iload 7, 2) := by decide +kernel
theorem dX5_ask_277 : decode cX5_ask 277 = .ok (.ifCond .ne 29, 3) := by decide +kernel
theorem dX5_ask_280 : decode cX5_ask 280 = .ok (.iload 6, 2) := by decide +kernel
theorem dX5_ask_282 : decode cX5_ask 282 = .ok (.bipush 12, 2) := by decide +kernel
theorem dX5_ask_284 : decode cX5_ask 284 = .ok (.if_icmp .gt 22, 3) := by decide +kernel
theorem dX5_ask_287 : decode cX5_ask 287 = .ok (.aload_n 0, 1) := by decide +kernel
theorem dX5_ask_288 : decode cX5_ask 288 = .ok (.iload_n 1, 1) := by decide +kernel
theorem dX5_ask_289 : decode cX5_ask 289 = .ok (.iload 8, 2) := by decide +kernel
theorem dX5_ask_291 : decode cX5_ask 291 = .ok (.iload 6, 2) := by decide +kernel
theorem dX5_ask_293 : decode cX5_ask 293 = .ok (.aload 4, 2) := by decide +kernel
theorem dX5_ask_295 : decode cX5_ask 295 = .ok (.getfield 193, 3) := by decide +kernel
theorem dX5_ask_298 : decode cX5_ask 298 = .ok (.iload 5, 2) := by decide +kernel
theorem dX5_ask_300 : decode cX5_ask 300 = .ok (.aaload, 1) := by decide +kernel
theorem dX5_ask_301 : decode cX5_ask 301 = .ok (.invokevirtual 203, 3) := by decide +kernel
theorem dX5_ask_304 : decode cX5_ask 304 = .ok (.istore 7, 2) := by decide +kernel
theorem dX5_ask_306 : decode cX5_ask 306 = .ok (.aload_n 0, 1) := by decide +kernel
theorem dX5_ask_307 : decode cX5_ask 307 = .ok (.aload_n 0, 1) := by decide +kernel
theorem dX5_ask_308 : decode cX5_ask 308 = .ok (.getfield 86, 3) := by decide +kernel
theorem dX5_ask_311 : decode cX5_ask 311 = .ok (.ifCond .ge 9, 3) := by decide +kernel
theorem dX5_ask_314 : decode cX5_ask 314 = .ok (.ldc2_w 183, 3) := by decide +kernel
theorem dX5_ask_317 : decode cX5_ask 317 = .ok (.goto 18, 3) := by decide +kernel
theorem dX5_ask_320 : decode cX5_ask 320 = .ok (.aload_n 0, 1) := by decide +kernel
theorem dX5_ask_321 : decode cX5_ask 321 = .ok (.getfield 51, 3) := by decide +kernel
theorem dX5_ask_324 : decode cX5_ask 324 = .ok (.getfield 73, 3) := by decide +kernel
theorem dX5_ask_327 : decode cX5_ask 327 = .ok (.aload_n 0, 1) := by decide +kernel
theorem dX5_ask_328 : decode cX5_ask 328 = .ok (.getfield 86, 3) := by decide +kernel
theorem dX5_ask_331 : decode cX5_ask 331 = .ok (.aaload, 1) := by decide +kernel
theorem dX5_ask_332 : decode cX5_ask 332 = .ok (.getfield 207, 3) := by decide +kernel
theorem dX5_ask_335 : decode cX5_ask 335 = .ok (.putfield 185, 3) := by decide +kernel
theorem dX5_ask_338 : decode cX5_ask 338 = .ok (.iload 7, 2) := by decide +kernel
theorem dX5_ask_340 : decode cX5_ask 340 = .ok (.ireturn, 1) := by decide +kernel
theorem dX5_askMember_0 : decode cX5_askMember 0 = .ok (.aload_n 0, 1) := by decide +kernel
theorem dX5_askMember_1 : decode cX5_askMember 1 = .ok (.getfield 51, 3) := by decide +kernel
theorem dX5_askMember_4 : decode cX5_askMember 4 = .ok (.getfield 73, 3) := by decide +kernel
theorem dX5_askMember_7 : decode cX5_askMember 7 = .ok (.iload_n 2, 1) := by decide +kernel
theorem dX5_askMember_8 : decode cX5_askMember 8 = .ok (.aaload, 1) := by decide +kernel
theorem dX5_askMember_9 : decode cX5_askMember 9 = .ok (.astore 5, 2) := by decide +kernel
theorem dX5_askMember_11 : decode cX5_askMember 11 = .ok (.iload_n 3, 1) := by decide +kernel
theorem dX5_askMember_12 : decode cX5_askMember 12 = .ok (.iconst 1, 1) := by decide +kernel
theorem dX5_askMember_13 : decode cX5_askMember 13 = .ok (.if_icmp .ne 26, 3) := by decide +kernel
theorem dX5_askMember_16 : decode cX5_askMember 16 = .ok (.aload 5, 2) := by decide +kernel
theorem dX5_askMember_18 : decode cX5_askMember 18 = .ok (.getfield 103, 3) := by decide +kernel
theorem dX5_askMember_21 : decode cX5_askMember 21 = .ok (.ifCond .ne 11, 3) := by decide +kernel
theorem dX5_askMember_24 : decode cX5_askMember 24 = .ok (.aload 5, 2) := by decide +kernel
theorem dX5_askMember_26 : decode cX5_askMember 26 = .ok (.getfield 210, 3) := by decide +kernel
theorem dX5_askMember_29 : decode cX5_askMember 29 = .ok (.ifCond .eq 8, 3) := by decide +kernel
theorem dX5_askMember_32 : decode cX5_askMember 32 = .ok (.bipush 7, 2) := by decide +kernel
theorem dX5_askMember_34 : decode cX5_askMember 34 = .ok (.goto 4, 3) := by decide +kernel
theorem dX5_askMember_37 : decode cX5_askMember 37 = .ok (.iconst 0, 1) := by decide +kernel
theorem dX5_askMember_38 : decode cX5_askMember 38 = .ok (.ireturn, 1) := by decide +kernel
theorem dX5_askMember_39 : decode cX5_askMember 39 = .ok (.aload 4, 2) := by decide +kernel
theorem dX5_askMember_41 : decode cX5_askMember 41 = .ok (.ifnonnull 5, 3) := by decide +kernel
theorem dX5_askMember_44 : decode cX5_askMember 44 = .ok (.iconst 1, 1) := by decide +kernel
theorem dX5_askMember_45 : decode cX5_askMember 45 = .ok (.ireturn, 1) := by decide +kernel
theorem dX5_askMember_46 : decode cX5_askMember 46 = .ok (.iload_n 3, 1) := by decide +kernel
theorem dX5_askMember_47 : decode cX5_askMember 47 = .ok (.iconst 2, 1) := by decide +kernel
theorem dX5_askMember_48 : decode cX5_askMember 48 = .ok (.if_icmp .ne 72, 3) := by decide +kernel
theorem dX5_askMember_51 : decode cX5_askMember 51 = .ok (.aload 5, 2) := by decide +kernel
theorem dX5_askMember_53 : decode cX5_askMember 53 = .ok (.getfield 103, 3) := by decide +kernel
theorem dX5_askMember_56 : decode cX5_askMember 56 = .ok (.ifCond .eq 5, 3) := by decide +kernel
theorem dX5_askMember_59 : decode cX5_askMember 59 = .ok (.iconst 3, 1) := by decide +kernel
theorem dX5_askMember_60 : decode cX5_askMember 60 = .ok (.ireturn, 1) := by decide +kernel
theorem dX5_askMember_61 : decode cX5_askMember 61 = .ok (.aload_n 0, 1) := by decide +kernel
theorem dX5_askMember_62 : decode cX5_askMember 62 = .ok (.iconst 1, 1) := by decide +kernel
theorem dX5_askMember_63 : decode cX5_askMember 63 = .ok (.putfield 189, 3) := by decide +kernel
theorem dX5_askMember_66 : decode cX5_askMember 66 = .ok (.aload_n 0, 1) := by decide +kernel
theorem dX5_askMember_67 : decode cX5_askMember 67 = .ok (.getfield 36, 3) := by decide +kernel
theorem dX5_askMember_70 : decode cX5_askMember 70 = .ok (.iconst 0, 1) := by decide +kernel
theorem dX5_askMember_71 : decode cX5_askMember 71 = .ok (.iload_n 2, 1) := by decide +kernel
theorem dX5_askMember_72 : decode cX5_askMember 72 = .ok (.iastore, 1) := by decide +kernel
theorem dX5_askMember_73 : decode cX5_askMember 73 = .ok (.aload_n 0, 1) := by decide +kernel
theorem dX5_askMember_74 : decode cX5_askMember 74 = .ok (.aload 5, 2) := by decide +kernel
theorem dX5_askMember_76 : decode cX5_askMember 76 = .ok (.aload 4, 2) := by decide +kernel
theorem dX5_askMember_78 : decode cX5_askMember 78 = .ok (.invokevirtual 213, 3) := by decide +kernel
theorem dX5_askMember_81 : decode cX5_askMember 81 = .ok (.putfield 82, 3) := by decide +kernel
theorem dX5_askMember_84 : decode cX5_askMember 84 = .ok (.aload_n 0, 1) := by decide +kernel
theorem dX5_askMember_85 : decode cX5_askMember 85 = .ok (.iload_n 2, 1) := by decide +kernel
theorem dX5_askMember_86 : decode cX5_askMember 86 = .ok (.putfield 86, 3) := by decide +kernel
theorem dX5_askMember_89 : decode cX5_askMember 89 = .ok (.aload_n 0, 1) := by decide +kernel
theorem dX5_askMember_90 : decode cX5_askMember 90 = .ok (.getfield 82, 3) := by decide +kernel
theorem dX5_askMember_93 : decode cX5_askMember 93 = .ok (.ifnonnull 7, 3) := by decide +kernel
theorem dX5_askMember_96 : decode cX5_askMember 96 = .ok (.iconst 5, 1) := by decide +kernel
theorem dX5_askMember_97 : decode cX5_askMember 97 = .ok (.goto 22, 3) := by decide +kernel
theorem dX5_askMember_100 : decode cX5_askMember 100 = .ok (.aload_n 0, 1) := by decide +kernel
theorem dX5_askMember_101 : decode cX5_askMember 101 = .ok (.aload_n 0, 1) := by decide +kernel
theorem dX5_askMember_102 : decode cX5_askMember 102 = .ok (.getfield 82, 3) := by decide +kernel
theorem dX5_askMember_105 : decode cX5_askMember 105 = .ok (.iload_n 2, 1) := by decide +kernel
theorem dX5_askMember_106 : decode cX5_askMember 106 = .ok (.iload_n 2, 1) := by decide +kernel
theorem dX5_askMember_107 : decode cX5_askMember 107 = .ok (.iload_n 1, 1) := by decide +kernel
theorem dX5_askMember_108 : decode cX5_askMember 108 = .ok (.invokevirtual 216, 3) := by decide +kernel
theorem dX5_askMember_111 : decode cX5_askMember 111 = .ok (.ifCond .eq 7, 3) := by decide +kernel
theorem dX5_askMember_114 : decode cX5_askMember 114 = .ok (.iconst 0, 1) := by decide +kernel
theorem dX5_askMember_115 : decode cX5_askMember 115 = .ok (.goto 4, 3) := by decide +kernel
theorem dX5_askMember_118 : decode cX5_askMember 118 = .ok (.iconst 2, 1) := by decide +kernel
theorem dX5_askMember_119 : decode cX5_askMember 119 = .ok (.ireturn, 1) := by decide +kernel
theorem dX5_askMember_120 : decode cX5_askMember 120 = .ok (.iload_n 3, 1) := by decide +kernel
theorem dX5_askMember_121 : decode cX5_askMember 121 = .ok (.bipush 6, 2) := by decide +kernel
theorem dX5_askMember_123 : decode cX5_askMember 123 = .ok (.if_icmp .gt 13, 3) := by decide +kernel
theorem dX5_askMember_126 : decode cX5_askMember 126 = .ok (.aload_n 0, 1) := by decide +kernel
theorem dX5_askMember_127 : decode cX5_askMember 127 = .ok (.iload_n 1, 1) := by decide +kernel
theorem dX5_askMember_128 : decode cX5_askMember 128 = .ok (.iload_n 2, 1) := by decide +kernel
theorem dX5_askMember_129 : decode cX5_askMember 129 = .ok (.iload_n 3, 1) := by decide +kernel
theorem dX5_askMember_130 : decode cX5_askMember 130 = .ok (.aload 4, 2) := by decide +kernel
theorem dX5_askMember_132 : decode cX5_askMember 132 = .ok (.invokevirtual 219, 3) := by decide +kernel
theorem dX5_askMember_135 : decode cX5_askMember 135 = .ok (.ireturn, 1) := by decide +kernel
theorem dX5_askMember_136 : decode cX5_askMember 136 = .ok (.iload_n 3, 1) := by decide +kernel
theorem dX5_askMember_137 : decode cX5_askMember 137 = .ok (.bipush 8, 2) := by decide +kernel
theorem dX5_askMember_139 : decode cX5_askMember 139 = .ok (.if_icmp .eq 15, 3) := by decide +kernel
theorem dX5_askMember_142 : decode cX5_askMember 142 = .ok (.iload_n 3, 1) := by decide +kernel
theorem dX5_askMember_143 : decode cX5_askMember 143 = .ok (.bipush 10, 2) := by decide +kernel
theorem dX5_askMember_145 : decode cX5_askMember 145 = .ok (.if_icmp .eq 9, 3) := by decide +kernel
theorem dX5_askMember_148 : decode cX5_askMember 148 = .ok (.iload_n 3, 1) := by decide +kernel
theorem dX5_askMember_149 : decode cX5_askMember 149 = .ok (.bipush 12, 2) := by decide +kernel
theorem dX5_askMember_151 : decode cX5_askMember 151 = .ok (.if_icmp .ne 7, 3) := by decide +kernel
theorem dX5_askMember_154 : decode cX5_askMember 154 = .ok (.iconst 1, 1) := by decide +kernel
theorem dX5_askMember_155 : decode cX5_askMember 155 = .ok (.goto 4, 3) := by decide +kernel
theorem dX5_askMember_158 : decode cX5_askMember 158 = .ok (.iconst 0, 1) := by decide +kernel
theorem dX5_askMember_159 : decode cX5_askMember 159 = .ok (.istore 6, 2) := by decide +kernel
theorem dX5_askMember_161 : decode cX5_askMember 161 = .ok (.aload 5, 2) := by decide +kernel
theorem dX5_askMember_163 : decode cX5_askMember 163 = .ok (.getfield 103, 3) := by decide +kernel
theorem dX5_askMember_166 : decode cX5_askMember 166 = .ok (.iload 6, 2) := by decide +kernel
theorem dX5_askMember_168 : decode cX5_askMember 168 = .ok (.if_icmp .eq 7, 3) := by decide +kernel
theorem dX5_askMember_171 : decode cX5_askMember 171 = .ok (.iconst 3, 1) := by decide +kernel
theorem dX5_askMember_172 : decode cX5_askMember 172 = .ok (.goto 12, 3) := by decide +kernel
theorem dX5_askMember_175 : decode cX5_askMember 175 = .ok (.aload_n 0, 1) := by decide +kernel
theorem dX5_askMember_176 : decode cX5_askMember 176 = .ok (.iload_n 1, 1) := by decide +kernel
theorem dX5_askMember_177 : decode cX5_askMember 177 = .ok (.iload_n 2, 1) := by decide +kernel
theorem dX5_askMember_178 : decode cX5_askMember 178 = .ok (.iload_n 3, 1) := by decide +kernel
theorem dX5_askMember_179 : decode cX5_askMember 179 = .ok (.aload 4, 2) := by decide +kernel
theorem dX5_askMember_181 : decode cX5_askMember 181 = .ok (.invokevirtual 222, 3) := by decide +kernel
theorem dX5_askMember_184 : decode cX5_askMember 184 = .ok (.ireturn, 1) := by decide +kernel
theorem dX5_askField_0 : decode cX5_askField 0 = .ok (.aload_n 0, 1) := by decide +kernel
theorem dX5_askField_1 : decode cX5_askField 1 = .ok (.aload_n 0, 1) := by decide +kernel
theorem dX5_askField_2 : decode cX5_askField 2 = .ok (.getfield 51, 3) := by decide +kernel
theorem dX5_askField_5 : decode cX5_askField 5 = .ok (.iload_n 2, 1) := by decide +kernel
theorem dX5_askField_6 : decode cX5_askField 6 = .ok (.aload 4, 2) := by decide +kernel
theorem dX5_askField_8 : decode cX5_askField 8 = .ok (.getfield 225, 3) := by decide +kernel
theorem dX5_askField_11 : decode cX5_askField 11 = .ok (.aload 4, 2) := by decide +kernel
theorem dX5_askField_13 : decode cX5_askField 13 = .ok (.getfield 226, 3) := by decide +kernel
theorem dX5_askField_16 : decode cX5_askField 16 = .ok (.invokevirtual 229, 3) := by decide +kernel
theorem dX5_askField_19 : decode cX5_askField 19 = .ok (.putfield 82, 3) := by decide +kernel
theorem dX5_askField_22 : decode cX5_askField 22 = .ok (.aload_n 0, 1) := by decide +kernel
theorem dX5_askField_23 : decode cX5_askField 23 = .ok (.aload_n 0, 1) := by decide +kernel
theorem dX5_askField_24 : decode cX5_askField 24 = .ok (.getfield 51, 3) := by decide +kernel
theorem dX5_askField_27 : decode cX5_askField 27 = .ok (.getfield 233, 3) := by decide +kernel
theorem dX5_askField_30 : decode cX5_askField 30 = .ok (.putfield 86, 3) := by decide +kernel
theorem dX5_askField_33 : decode cX5_askField 33 = .ok (.iconst 0, 1) := by decide +kernel
theorem dX5_askField_34 : decode cX5_askField 34 = .ok (.istore 5, 2) := by decide +kernel
theorem dX5_askField_36 : decode cX5_askField 36 = .ok (.iload 5, 2) := by decide +kernel
theorem dX5_askField_38 : decode cX5_askField 38 = .ok (.aload_n 0, 1) := by decide +kernel
theorem dX5_askField_39 : decode cX5_askField 39 = .ok (.getfield 51, 3) := by decide +kernel
theorem dX5_askField_42 : decode cX5_askField 42 = .ok (.getfield 236, 3) := by decide +kernel
theorem dX5_askField_45 : decode cX5_askField 45 = .ok (.if_icmp .ge 26, 3) := by decide +kernel
theorem dX5_askField_48 : decode cX5_askField 48 = .ok (.aload_n 0, 1) := by decide +kernel
theorem dX5_askField_49 : decode cX5_askField 49 = .ok (.getfield 36, 3) := by decide +kernel
theorem dX5_askField_52 : decode cX5_askField 52 = .ok (.iload 5, 2) := by decide +kernel
theorem dX5_askField_54 : decode cX5_askField 54 = .ok (.aload_n 0, 1) := by decide +kernel
theorem dX5_askField_55 : decode cX5_askField 55 = .ok (.getfield 51, 3) := by decide +kernel
theorem dX5_askField_58 : decode cX5_askField 58 = .ok (.getfield 239, 3) := by decide +kernel
theorem dX5_askField_61 : decode cX5_askField 61 = .ok (.iload 5, 2) := by decide +kernel
theorem dX5_askField_63 : decode cX5_askField 63 = .ok (.iaload, 1) := by decide +kernel
theorem dX5_askField_64 : decode cX5_askField 64 = .ok (.iastore, 1) := by decide +kernel
theorem dX5_askField_65 : decode cX5_askField 65 = .ok (.iinc 5 1, 3) := by decide +kernel
theorem dX5_askField_68 : decode cX5_askField 68 = .ok (.goto (-32), 3) := by decide +kernel
theorem dX5_askField_71 : decode cX5_askField 71 = .ok (.aload_n 0, 1) := by decide +kernel
theorem dX5_askField_72 : decode cX5_askField 72 = .ok (.aload_n 0, 1) := by decide +kernel
theorem dX5_askField_73 : decode cX5_askField 73 = .ok (.getfield 51, 3) := by decide +kernel
theorem dX5_askField_76 : decode cX5_askField 76 = .ok (.getfield 236, 3) := by decide +kernel
theorem dX5_askField_79 : decode cX5_askField 79 = .ok (.putfield 189, 3) := by decide +kernel
theorem dX5_askField_82 : decode cX5_askField 82 = .ok (.aload_n 0, 1) := by decide +kernel
theorem dX5_askField_83 : decode cX5_askField 83 = .ok (.getfield 82, 3) := by decide +kernel
theorem dX5_askField_86 : decode cX5_askField 86 = .ok (.ifnonnull 5, 3) := by decide +kernel
theorem dX5_askField_89 : decode cX5_askField 89 = .ok (.iconst 4, 1) := by decide +kernel
theorem dX5_askField_90 : decode cX5_askField 90 = .ok (.ireturn, 1) := by decide +kernel
theorem dX5_askField_91 : decode cX5_askField 91 = .ok (.aload_n 0, 1) := by decide +kernel
theorem dX5_askField_92 : decode cX5_askField 92 = .ok (.aload_n 0, 1) := by decide +kernel
theorem dX5_askField_93 : decode cX5_askField 93 = .ok (.getfield 82, 3) := by decide +kernel
theorem dX5_askField_96 : decode cX5_askField 96 = .ok (.aload_n 0, 1) := by decide +kernel
theorem dX5_askField_97 : decode cX5_askField 97 = .ok (.getfield 86, 3) := by decide +kernel
theorem dX5_askField_100 : decode cX5_askField 100 = .ok (.iload_n 2, 1) := by decide +kernel
theorem dX5_askField_101 : decode cX5_askField 101 = .ok (.iload_n 1, 1) := by decide +kernel
theorem dX5_askField_102 : decode cX5_askField 102 = .ok (.invokevirtual 216, 3) := by decide +kernel
theorem dX5_askField_105 : decode cX5_askField 105 = .ok (.ifCond .ne 5, 3) := by decide +kernel
theorem dX5_askField_108 : decode cX5_askField 108 = .ok (.iconst 2, 1) := by decide +kernel
theorem dX5_askField_109 : decode cX5_askField 109 = .ok (.ireturn, 1) := by decide +kernel
theorem dX5_askField_110 : decode cX5_askField 110 = .ok (.aload_n 0, 1) := by decide +kernel
theorem dX5_askField_111 : decode cX5_askField 111 = .ok (.getfield 82, 3) := by decide +kernel
theorem dX5_askField_114 : decode cX5_askField 114 = .ok (.getfield 242, 3) := by decide +kernel
theorem dX5_askField_117 : decode cX5_askField 117 = .ok (.iload_n 3, 1) := by decide +kernel
theorem dX5_askField_118 : decode cX5_askField 118 = .ok (.iconst 3, 1) := by decide +kernel
theorem dX5_askField_119 : decode cX5_askField 119 = .ok (.if_icmp .eq 8, 3) := by decide +kernel
theorem dX5_askField_122 : decode cX5_askField 122 = .ok (.iload_n 3, 1) := by decide +kernel
theorem dX5_askField_123 : decode cX5_askField 123 = .ok (.iconst 4, 1) := by decide +kernel
theorem dX5_askField_124 : decode cX5_askField 124 = .ok (.if_icmp .ne 7, 3) := by decide +kernel
theorem dX5_askField_127 : decode cX5_askField 127 = .ok (.iconst 1, 1) := by decide +kernel
theorem dX5_askField_128 : decode cX5_askField 128 = .ok (.goto 4, 3) := by decide +kernel
theorem dX5_askField_131 : decode cX5_askField 131 = .ok (.iconst 0, 1) := by decide +kernel
theorem dX5_askField_132 : decode cX5_askField 132 = .ok (.if_icmp .ne 5, 3) := by decide +kernel
theorem dX5_askField_135 : decode cX5_askField 135 = .ok (.iconst 3, 1) := by decide +kernel
theorem dX5_askField_136 : decode cX5_askField 136 = .ok (.ireturn, 1) := by decide +kernel
theorem dX5_askField_137 : decode cX5_askField 137 = .ok (.iload_n 3, 1) := by decide +kernel
theorem dX5_askField_138 : decode cX5_askField 138 = .ok (.iconst 4, 1) := by decide +kernel
theorem dX5_askField_139 : decode cX5_askField 139 = .ok (.if_icmp .eq 9, 3) := by decide +kernel
theorem dX5_askField_142 : decode cX5_askField 142 = .ok (.iload_n 3, 1) := by decide +kernel
theorem dX5_askField_143 : decode cX5_askField 143 = .ok (.bipush 6, 2) := by decide +kernel
theorem dX5_askField_145 : decode cX5_askField 145 = .ok (.if_icmp .ne 7, 3) := by decide +kernel
theorem dX5_askField_148 : decode cX5_askField 148 = .ok (.iconst 1, 1) := by decide +kernel
theorem dX5_askField_149 : decode cX5_askField 149 = .ok (.goto 4, 3) := by decide +kernel
theorem dX5_askField_152 : decode cX5_askField 152 = .ok (.iconst 0, 1) := by decide +kernel
theorem dX5_askField_153 : decode cX5_askField 153 = .ok (.istore 5, 2) := by decide +kernel
theorem dX5_askField_155 : decode cX5_askField 155 = .ok (.iload 5, 2) := by decide +kernel
theorem dX5_askField_157 : decode cX5_askField 157 = .ok (.ifCond .eq 25, 3) := by decide +kernel
theorem dX5_askField_160 : decode cX5_askField 160 = .ok (.aload_n 0, 1) := by decide +kernel
theorem dX5_askField_161 : decode cX5_askField 161 = .ok (.getfield 82, 3) := by decide +kernel
theorem dX5_askField_164 : decode cX5_askField 164 = .ok (.getfield 143, 3) := by decide +kernel
theorem dX5_askField_167 : decode cX5_askField 167 = .ok (.ifCond .eq 15, 3) := by decide +kernel
theorem dX5_askField_170 : decode cX5_askField 170 = .ok (.aload_n 0, 1) := by decide +kernel
theorem dX5_askField_171 : decode cX5_askField 171 = .ok (.getfield 86, 3) := by decide +kernel
theorem dX5_askField_174 : decode cX5_askField 174 = .ok (.iload_n 1, 1) := by decide +kernel
theorem dX5_askField_175 : decode cX5_askField 175 = .ok (.if_icmp .eq 7, 3) := by decide +kernel
theorem dX5_askField_178 : decode cX5_askField 178 = .ok (.iconst 2, 1) := by decide +kernel
theorem dX5_askField_179 : decode cX5_askField 179 = .ok (.goto 4, 3) := by decide +kernel
theorem dX5_askField_182 : decode cX5_askField 182 = .ok (.iconst 0, 1) := by decide +kernel
theorem dX5_askField_183 : decode cX5_askField 183 = .ok (.ireturn, 1) := by decide +kernel
theorem dX5_askMethod_0 : decode cX5_askMethod 0 = .ok (.aload_n 0, 1) := by decide +kernel
theorem dX5_askMethod_1 : decode cX5_askMethod 1 = .ok (.aload_n 0, 1) := by decide +kernel
theorem dX5_askMethod_2 : decode cX5_askMethod 2 = .ok (.iload_n 2, 1) := by decide +kernel
theorem dX5_askMethod_3 : decode cX5_askMethod 3 = .ok (.aload 4, 2) := by decide +kernel
theorem dX5_askMethod_5 : decode cX5_askMethod 5 = .ok (.invokevirtual 245, 3) := by decide +kernel
theorem dX5_askMethod_8 : decode cX5_askMethod 8 = .ok (.putfield 82, 3) := by decide +kernel
theorem dX5_askMethod_11 : decode cX5_askMethod 11 = .ok (.aload_n 0, 1) := by decide +kernel
theorem dX5_askMethod_12 : decode cX5_askMethod 12 = .ok (.aload_n 0, 1) := by decide +kernel
theorem dX5_askMethod_13 : decode cX5_askMethod 13 = .ok (.getfield 51, 3) := by decide +kernel
theorem dX5_askMethod_16 : decode cX5_askMethod 16 = .ok (.getfield 233, 3) := by decide +kernel
theorem dX5_askMethod_19 : decode cX5_askMethod 19 = .ok (.putfield 86, 3) := by decide +kernel
theorem dX5_askMethod_22 : decode cX5_askMethod 22 = .ok (.aload_n 0, 1) := by decide +kernel
theorem dX5_askMethod_23 : decode cX5_askMethod 23 = .ok (.getfield 82, 3) := by decide +kernel
theorem dX5_askMethod_26 : decode cX5_askMethod 26 = .ok (.astore 5, 2) := by decide +kernel
theorem dX5_askMethod_28 : decode cX5_askMethod 28 = .ok (.iload_n 3, 1) := by decide +kernel
theorem dX5_askMethod_29 : decode cX5_askMethod 29 = .ok (.bipush 11, 2) := by decide +kernel
theorem dX5_askMethod_31 : decode cX5_askMethod 31 = .ok (.if_icmp .eq 9, 3) := by decide +kernel
theorem dX5_askMethod_34 : decode cX5_askMethod 34 = .ok (.iload_n 3, 1) := by decide +kernel
theorem dX5_askMethod_35 : decode cX5_askMethod 35 = .ok (.bipush 12, 2) := by decide +kernel
theorem dX5_askMethod_37 : decode cX5_askMethod 37 = .ok (.if_icmp .ne 8, 3) := by decide +kernel
theorem dX5_askMethod_40 : decode cX5_askMethod 40 = .ok (.aload_n 0, 1) := by decide +kernel
theorem dX5_askMethod_41 : decode cX5_askMethod 41 = .ok (.aconst_null, 1) := by decide +kernel
theorem dX5_askMethod_42 : decode cX5_askMethod 42 = .ok (.putfield 82, 3) := by decide +kernel
theorem dX5_askMethod_45 : decode cX5_askMethod 45 = .ok (.aload 5, 2) := by decide +kernel
theorem dX5_askMethod_47 : decode cX5_askMethod 47 = .ok (.ifnonnull 5, 3) := by decide +kernel
theorem dX5_askMethod_50 : decode cX5_askMethod 50 = .ok (.iconst 5, 1) := by decide +kernel
theorem dX5_askMethod_51 : decode cX5_askMethod 51 = .ok (.ireturn, 1) := by decide +kernel
theorem dX5_askMethod_52 : decode cX5_askMethod 52 = .ok (.aload_n 0, 1) := by decide +kernel
theorem dX5_askMethod_53 : decode cX5_askMethod 53 = .ok (.aload 5, 2) := by decide +kernel
theorem dX5_askMethod_55 : decode cX5_askMethod 55 = .ok (.aload_n 0, 1) := by decide +kernel
theorem dX5_askMethod_56 : decode cX5_askMethod 56 = .ok (.getfield 86, 3) := by decide +kernel
theorem dX5_askMethod_59 : decode cX5_askMethod 59 = .ok (.iload_n 2, 1) := by decide +kernel
theorem dX5_askMethod_60 : decode cX5_askMethod 60 = .ok (.iload_n 1, 1) := by decide +kernel
theorem dX5_askMethod_61 : decode cX5_askMethod 61 = .ok (.invokevirtual 216, 3) := by decide +kernel
theorem dX5_askMethod_64 : decode cX5_askMethod 64 = .ok (.ifCond .ne 5, 3) := by decide +kernel
theorem dX5_askMethod_67 : decode cX5_askMethod 67 = .ok (.iconst 2, 1) := by decide +kernel
theorem dX5_askMethod_68 : decode cX5_askMethod 68 = .ok (.ireturn, 1) := by decide +kernel
theorem dX5_askMethod_69 : decode cX5_askMethod 69 = .ok (.iload_n 3, 1) := by decide +kernel
theorem dX5_askMethod_70 : decode cX5_askMethod 70 = .ok (.bipush 9, 2) := by decide +kernel
theorem dX5_askMethod_72 : decode cX5_askMethod 72 = .ok (.if_icmp .eq 9, 3) := by decide +kernel
theorem dX5_askMethod_75 : decode cX5_askMethod 75 = .ok (.iload_n 3, 1) := by decide +kernel
theorem dX5_askMethod_76 : decode cX5_askMethod 76 = .ok (.bipush 10, 2) := by decide +kernel
theorem dX5_askMethod_78 : decode cX5_askMethod 78 = .ok (.if_icmp .ne 7, 3) := by decide +kernel
theorem dX5_askMethod_81 : decode cX5_askMethod 81 = .ok (.iconst 1, 1) := by decide +kernel
theorem dX5_askMethod_82 : decode cX5_askMethod 82 = .ok (.goto 4, 3) := by decide +kernel
theorem dX5_askMethod_85 : decode cX5_askMethod 85 = .ok (.iconst 0, 1) := by decide +kernel
theorem dX5_askMethod_86 : decode cX5_askMethod 86 = .ok (.istore 6, 2) := by decide +kernel
theorem dX5_askMethod_88 : decode cX5_askMethod 88 = .ok (.aload 5, 2) := by decide +kernel
theorem dX5_askMethod_90 : decode cX5_askMethod 90 = .ok (.getfield 242, 3) := by decide +kernel
theorem dX5_askMethod_93 : decode cX5_askMethod 93 = .ok (.iload 6, 2) := by decide +kernel
theorem dX5_askMethod_95 : decode cX5_askMethod 95 = .ok (.if_icmp .eq 5, 3) := by decide +kernel
theorem dX5_askMethod_98 : decode cX5_askMethod 98 = .ok (.iconst 3, 1) := by decide +kernel
theorem dX5_askMethod_99 : decode cX5_askMethod 99 = .ok (.ireturn, 1) := by decide +kernel
theorem dX5_askMethod_100 : decode cX5_askMethod 100 = .ok (.iload_n 3, 1) := by decide +kernel
theorem dX5_askMethod_101 : decode cX5_askMethod 101 = .ok (.bipush 11, 2) := by decide +kernel
theorem dX5_askMethod_103 : decode cX5_askMethod 103 = .ok (.if_icmp .ge 7, 3) := by decide +kernel
theorem dX5_askMethod_106 : decode cX5_askMethod 106 = .ok (.iconst 0, 1) := by decide +kernel
theorem dX5_askMethod_107 : decode cX5_askMethod 107 = .ok (.goto 28, 3) := by decide +kernel
theorem dX5_askMethod_110 : decode cX5_askMethod 110 = .ok (.aload_n 0, 1) := by decide +kernel
theorem dX5_askMethod_111 : decode cX5_askMethod 111 = .ok (.iload_n 3, 1) := by decide +kernel
theorem dX5_askMethod_112 : decode cX5_askMethod 112 = .ok (.bipush 11, 2) := by decide +kernel
theorem dX5_askMethod_114 : decode cX5_askMethod 114 = .ok (.if_icmp .ne 15, 3) := by decide +kernel
theorem dX5_askMethod_117 : decode cX5_askMethod 117 = .ok (.aload_n 0, 1) := by decide +kernel
theorem dX5_askMethod_118 : decode cX5_askMethod 118 = .ok (.getfield 51, 3) := by decide +kernel
theorem dX5_askMethod_121 : decode cX5_askMethod 121 = .ok (.getfield 97, 3) := by decide +kernel
theorem dX5_askMethod_124 : decode cX5_askMethod 124 = .ok (.iload_n 1, 1) := by decide +kernel
theorem dX5_askMethod_125 : decode cX5_askMethod 125 = .ok (.iaload, 1) := by decide +kernel
theorem dX5_askMethod_126 : decode cX5_askMethod 126 = .ok (.goto 4, 3) := by decide +kernel
theorem dX5_askMethod_129 : decode cX5_askMethod 129 = .ok (.iload_n 2, 1) := by decide +kernel
theorem dX5_askMethod_130 : decode cX5_askMethod 130 = .ok (.aload 4, 2) := by decide +kernel
theorem dX5_askMethod_132 : decode cX5_askMethod 132 = .ok (.invokevirtual 249, 3) := by decide +kernel
theorem dX5_askMethod_135 : decode cX5_askMethod 135 = .ok (.ireturn, 1) := by decide +kernel
theorem dX5_resolve_0 : decode cX5_resolve 0 = .ok (.iload_n 1, 1) := by decide +kernel
theorem dX5_resolve_1 : decode cX5_resolve 1 = .ok (.istore_n 3, 1) := by decide +kernel
theorem dX5_resolve_2 : decode cX5_resolve 2 = .ok (.iconst 0, 1) := by decide +kernel
theorem dX5_resolve_3 : decode cX5_resolve 3 = .ok (.istore 4, 2) := by decide +kernel
theorem dX5_resolve_5 : decode cX5_resolve 5 = .ok (.iload 4, 2) := by decide +kernel
theorem dX5_resolve_7 : decode cX5_resolve 7 = .ok (.aload_n 0, 1) := by decide +kernel
theorem dX5_resolve_8 : decode cX5_resolve 8 = .ok (.getfield 51, 3) := by decide +kernel
theorem dX5_resolve_11 : decode cX5_resolve 11 = .ok (.getfield 129, 3) := by decide +kernel
theorem dX5_resolve_14 : decode cX5_resolve 14 = .ok (.iload_n 1, 1) := by decide +kernel
theorem dX5_resolve_15 : decode cX5_resolve 15 = .ok (.iaload, 1) := by decide +kernel
theorem dX5_resolve_16 : decode cX5_resolve 16 = .ok (.if_icmp .gt 74, 3) := by decide +kernel
theorem dX5_resolve_19 : decode cX5_resolve 19 = .ok (.iload_n 3, 1) := by decide +kernel
theorem dX5_resolve_20 : decode cX5_resolve 20 = .ok (.ifCond .lt 70, 3) := by decide +kernel
theorem dX5_resolve_23 : decode cX5_resolve 23 = .ok (.aload_n 0, 1) := by decide +kernel
theorem dX5_resolve_24 : decode cX5_resolve 24 = .ok (.getfield 36, 3) := by decide +kernel
theorem dX5_resolve_27 : decode cX5_resolve 27 = .ok (.aload_n 0, 1) := by decide +kernel
theorem dX5_resolve_28 : decode cX5_resolve 28 = .ok (.getfield 189, 3) := by decide +kernel
theorem dX5_resolve_31 : decode cX5_resolve 31 = .ok (.iload_n 3, 1) := by decide +kernel
theorem dX5_resolve_32 : decode cX5_resolve 32 = .ok (.iastore, 1) := by decide +kernel
theorem dX5_resolve_33 : decode cX5_resolve 33 = .ok (.aload_n 0, 1) := by decide +kernel
theorem dX5_resolve_34 : decode cX5_resolve 34 = .ok (.dup, 1) := by decide +kernel
theorem dX5_resolve_35 : decode cX5_resolve 35 = .ok (.getfield 189, 3) := by decide +kernel
theorem dX5_resolve_38 : decode cX5_resolve 38 = .ok (.iconst 1, 1) := by decide +kernel
theorem dX5_resolve_39 : decode cX5_resolve 39 = .ok (.iadd, 1) := by decide +kernel
theorem dX5_resolve_40 : decode cX5_resolve 40 = .ok (.putfield 189, 3) := by decide +kernel
theorem dX5_resolve_43 : decode cX5_resolve 43 = .ok (.aload_n 0, 1) := by decide +kernel
theorem dX5_resolve_44 : decode cX5_resolve 44 = .ok (.getfield 51, 3) := by decide +kernel
theorem dX5_resolve_47 : decode cX5_resolve 47 = .ok (.getfield 73, 3) := by decide +kernel
theorem dX5_resolve_50 : decode cX5_resolve 50 = .ok (.iload_n 3, 1) := by decide +kernel
theorem dX5_resolve_51 : decode cX5_resolve 51 = .ok (.aaload, 1) := by decide +kernel
theorem dX5_resolve_52 : decode cX5_resolve 52 = .ok (.aload_n 2, 1) := by decide +kernel
theorem dX5_resolve_53 : decode cX5_resolve 53 = .ok (.invokevirtual 139, 3) := by decide +kernel
theorem dX5_resolve_56 : decode cX5_resolve 56 = .ok (.astore 5, 2) := by decide +kernel
theorem dX5_resolve_58 : decode cX5_resolve 58 = .ok (.aload 5, 2) := by decide +kernel
theorem dX5_resolve_60 : decode cX5_resolve 60 = .ok (.ifnull 14, 3) := by decide +kernel
theorem dX5_resolve_63 : decode cX5_resolve 63 = .ok (.aload_n 0, 1) := by decide +kernel
theorem dX5_resolve_64 : decode cX5_resolve 64 = .ok (.getfield 51, 3) := by decide +kernel
theorem dX5_resolve_67 : decode cX5_resolve 67 = .ok (.iload_n 3, 1) := by decide +kernel
theorem dX5_resolve_68 : decode cX5_resolve 68 = .ok (.putfield 233, 3) := by decide +kernel
theorem dX5_resolve_71 : decode cX5_resolve 71 = .ok (.aload 5, 2) := by decide +kernel
theorem dX5_resolve_73 : decode cX5_resolve 73 = .ok (.areturn, 1) := by decide +kernel
theorem dX5_resolve_74 : decode cX5_resolve 74 = .ok (.aload_n 0, 1) := by decide +kernel
theorem dX5_resolve_75 : decode cX5_resolve 75 = .ok (.getfield 51, 3) := by decide +kernel
theorem dX5_resolve_78 : decode cX5_resolve 78 = .ok (.getfield 97, 3) := by decide +kernel
theorem dX5_resolve_81 : decode cX5_resolve 81 = .ok (.iload_n 3, 1) := by decide +kernel
theorem dX5_resolve_82 : decode cX5_resolve 82 = .ok (.iaload, 1) := by decide +kernel
theorem dX5_resolve_83 : decode cX5_resolve 83 = .ok (.istore_n 3, 1) := by decide +kernel
theorem dX5_resolve_84 : decode cX5_resolve 84 = .ok (.iinc 4 1, 3) := by decide +kernel
theorem dX5_resolve_87 : decode cX5_resolve 87 = .ok (.goto (-82), 3) := by decide +kernel
theorem dX5_resolve_90 : decode cX5_resolve 90 = .ok (.aload_n 0, 1) := by decide +kernel
theorem dX5_resolve_91 : decode cX5_resolve 91 = .ok (.getfield 51, 3) := by decide +kernel
theorem dX5_resolve_94 : decode cX5_resolve 94 = .ok (.iload_n 1, 1) := by decide +kernel
