theorem dX13_startFaces_143 : decode cX13_startFaces 143 = .ok (.goto (-118), 3) := by decide +kernel
theorem dX13_startFaces_146 : decode cX13_startFaces 146 = .ok (.return_, 1) := by decide +kernel
theorem dX13_pushFaces_0 : decode cX13_pushFaces 0 = .ok (.aload_n 0, 1) := by decide +kernel
theorem dX13_pushFaces_1 : decode cX13_pushFaces 1 = .ok (.getfield 283, 3) := by decide +kernel
theorem dX13_pushFaces_4 : decode cX13_pushFaces 4 = .ok (.iload_n 1, 1) := by decide +kernel
theorem dX13_pushFaces_5 : decode cX13_pushFaces 5 = .ok (.iaload, 1) := by decide +kernel
theorem dX13_pushFaces_6 : decode cX13_pushFaces 6 = .ok (.iconst 1, 1) := by decide +kernel
theorem dX13_pushFaces_7 : decode cX13_pushFaces 7 = .ok (.isub, 1) := by decide +kernel
theorem dX13_pushFaces_8 : decode cX13_pushFaces 8 = .ok (.istore_n 2, 1) := by decide +kernel
theorem dX13_pushFaces_9 : decode cX13_pushFaces 9 = .ok (.iload_n 2, 1) := by decide +kernel
theorem dX13_pushFaces_10 : decode cX13_pushFaces 10 = .ok (.ifCond .lt 44, 3) := by decide +kernel
theorem dX13_pushFaces_13 : decode cX13_pushFaces 13 = .ok (.aload_n 0, 1) := by decide +kernel
theorem dX13_pushFaces_14 : decode cX13_pushFaces 14 = .ok (.getfield 1239, 3) := by decide +kernel
theorem dX13_pushFaces_17 : decode cX13_pushFaces 17 = .ok (.aload_n 0, 1) := by decide +kernel
theorem dX13_pushFaces_18 : decode cX13_pushFaces 18 = .ok (.getfield 1230, 3) := by decide +kernel
theorem dX13_pushFaces_21 : decode cX13_pushFaces 21 = .ok (.iconst 2, 1) := by decide +kernel
theorem dX13_pushFaces_22 : decode cX13_pushFaces 22 = .ok (.aload_n 0, 1) := by decide +kernel
theorem dX13_pushFaces_23 : decode cX13_pushFaces 23 = .ok (.aload_n 0, 1) := by decide +kernel
theorem dX13_pushFaces_24 : decode cX13_pushFaces 24 = .ok (.getfield 288, 3) := by decide +kernel
theorem dX13_pushFaces_27 : decode cX13_pushFaces 27 = .ok (.iconst 4, 1) := by decide +kernel
theorem dX13_pushFaces_28 : decode cX13_pushFaces 28 = .ok (.iload_n 1, 1) := by decide +kernel
theorem dX13_pushFaces_29 : decode cX13_pushFaces 29 = .ok (.imul, 1) := by decide +kernel
theorem dX13_pushFaces_30 : decode cX13_pushFaces 30 = .ok (.iload_n 2, 1) := by decide +kernel
theorem dX13_pushFaces_31 : decode cX13_pushFaces 31 = .ok (.iadd, 1) := by decide +kernel
theorem dX13_pushFaces_32 : decode cX13_pushFaces 32 = .ok (.laload, 1) := by decide +kernel
theorem dX13_pushFaces_33 : decode cX13_pushFaces 33 = .ok (.invokevirtual 551, 3) := by decide +kernel
theorem dX13_pushFaces_36 : decode cX13_pushFaces 36 = .ok (.imul, 1) := by decide +kernel
theorem dX13_pushFaces_37 : decode cX13_pushFaces 37 = .ok (.iastore, 1) := by decide +kernel
theorem dX13_pushFaces_38 : decode cX13_pushFaces 38 = .ok (.aload_n 0, 1) := by decide +kernel
theorem dX13_pushFaces_39 : decode cX13_pushFaces 39 = .ok (.dup, 1) := by decide +kernel
theorem dX13_pushFaces_40 : decode cX13_pushFaces 40 = .ok (.getfield 1230, 3) := by decide +kernel
theorem dX13_pushFaces_43 : decode cX13_pushFaces 43 = .ok (.iconst 1, 1) := by decide +kernel
theorem dX13_pushFaces_44 : decode cX13_pushFaces 44 = .ok (.iadd, 1) := by decide +kernel
theorem dX13_pushFaces_45 : decode cX13_pushFaces 45 = .ok (.putfield 1230, 3) := by decide +kernel
theorem dX13_pushFaces_48 : decode cX13_pushFaces 48 = .ok (.iinc 2 (-1), 3) := by decide +kernel
theorem dX13_pushFaces_51 : decode cX13_pushFaces 51 = .ok (.goto (-42), 3) := by decide +kernel
theorem dX13_pushFaces_54 : decode cX13_pushFaces 54 = .ok (.return_, 1) := by decide +kernel
theorem dX13_startSelf_0 : decode cX13_startSelf 0 = .ok (.iconst 0, 1) := by decide +kernel
theorem dX13_startSelf_1 : decode cX13_startSelf 1 = .ok (.istore_n 2, 1) := by decide +kernel
theorem dX13_startSelf_2 : decode cX13_startSelf 2 = .ok (.iload_n 2, 1) := by decide +kernel
theorem dX13_startSelf_3 : decode cX13_startSelf 3 = .ok (.aload_n 0, 1) := by decide +kernel
theorem dX13_startSelf_4 : decode cX13_startSelf 4 = .ok (.getfield 275, 3) := by decide +kernel
theorem dX13_startSelf_7 : decode cX13_startSelf 7 = .ok (.iload_n 1, 1) := by decide +kernel
theorem dX13_startSelf_8 : decode cX13_startSelf 8 = .ok (.iaload, 1) := by decide +kernel
theorem dX13_startSelf_9 : decode cX13_startSelf 9 = .ok (.if_icmp .ge 46, 3) := by decide +kernel
theorem dX13_startSelf_12 : decode cX13_startSelf 12 = .ok (.iload_n 1, 1) := by decide +kernel
theorem dX13_startSelf_13 : decode cX13_startSelf 13 = .ok (.bipush 34, 2) := by decide +kernel
theorem dX13_startSelf_15 : decode cX13_startSelf 15 = .ok (.imul, 1) := by decide +kernel
theorem dX13_startSelf_16 : decode cX13_startSelf 16 = .ok (.iload_n 2, 1) := by decide +kernel
theorem dX13_startSelf_17 : decode cX13_startSelf 17 = .ok (.iadd, 1) := by decide +kernel
theorem dX13_startSelf_18 : decode cX13_startSelf 18 = .ok (.istore_n 3, 1) := by decide +kernel
theorem dX13_startSelf_19 : decode cX13_startSelf 19 = .ok (.aload_n 0, 1) := by decide +kernel
theorem dX13_startSelf_20 : decode cX13_startSelf 20 = .ok (.getfield 402, 3) := by decide +kernel
theorem dX13_startSelf_23 : decode cX13_startSelf 23 = .ok (.iload_n 3, 1) := by decide +kernel
theorem dX13_startSelf_24 : decode cX13_startSelf 24 = .ok (.iaload, 1) := by decide +kernel
theorem dX13_startSelf_25 : decode cX13_startSelf 25 = .ok (.ifCond .ne 24, 3) := by decide +kernel
theorem dX13_startSelf_28 : decode cX13_startSelf 28 = .ok (.aload_n 0, 1) := by decide +kernel
theorem dX13_startSelf_29 : decode cX13_startSelf 29 = .ok (.getfield 377, 3) := by decide +kernel
theorem dX13_startSelf_32 : decode cX13_startSelf 32 = .ok (.iload_n 3, 1) := by decide +kernel
theorem dX13_startSelf_33 : decode cX13_startSelf 33 = .ok (.baload, 1) := by decide +kernel
theorem dX13_startSelf_34 : decode cX13_startSelf 34 = .ok (.ifCond .eq 15, 3) := by decide +kernel
theorem dX13_startSelf_37 : decode cX13_startSelf 37 = .ok (.aload_n 0, 1) := by decide +kernel
theorem dX13_startSelf_38 : decode cX13_startSelf 38 = .ok (.getfield 1204, 3) := by decide +kernel
theorem dX13_startSelf_41 : decode cX13_startSelf 41 = .ok (.iload_n 3, 1) := by decide +kernel
theorem dX13_startSelf_42 : decode cX13_startSelf 42 = .ok (.aload_n 0, 1) := by decide +kernel
theorem dX13_startSelf_43 : decode cX13_startSelf 43 = .ok (.getfield 380, 3) := by decide +kernel
theorem dX13_startSelf_46 : decode cX13_startSelf 46 = .ok (.iload_n 3, 1) := by decide +kernel
theorem dX13_startSelf_47 : decode cX13_startSelf 47 = .ok (.iaload, 1) := by decide +kernel
theorem dX13_startSelf_48 : decode cX13_startSelf 48 = .ok (.iastore, 1) := by decide +kernel
theorem dX13_startSelf_49 : decode cX13_startSelf 49 = .ok (.iinc 2 1, 3) := by decide +kernel
theorem dX13_startSelf_52 : decode cX13_startSelf 52 = .ok (.goto (-50), 3) := by decide +kernel
theorem dX13_startSelf_55 : decode cX13_startSelf 55 = .ok (.iconst 0, 1) := by decide +kernel
theorem dX13_startSelf_56 : decode cX13_startSelf 56 = .ok (.istore_n 2, 1) := by decide +kernel
theorem dX13_startSelf_57 : decode cX13_startSelf 57 = .ok (.iload_n 2, 1) := by decide +kernel
theorem dX13_startSelf_58 : decode cX13_startSelf 58 = .ok (.aload_n 0, 1) := by decide +kernel
theorem dX13_startSelf_59 : decode cX13_startSelf 59 = .ok (.getfield 275, 3) := by decide +kernel
theorem dX13_startSelf_62 : decode cX13_startSelf 62 = .ok (.iload_n 1, 1) := by decide +kernel
theorem dX13_startSelf_63 : decode cX13_startSelf 63 = .ok (.iaload, 1) := by decide +kernel
theorem dX13_startSelf_64 : decode cX13_startSelf 64 = .ok (.if_icmp .ge 166, 3) := by decide +kernel
theorem dX13_startSelf_67 : decode cX13_startSelf 67 = .ok (.aload_n 0, 1) := by decide +kernel
theorem dX13_startSelf_68 : decode cX13_startSelf 68 = .ok (.getfield 1207, 3) := by decide +kernel
theorem dX13_startSelf_71 : decode cX13_startSelf 71 = .ok (.ifCond .ne 159, 3) := by decide +kernel
theorem dX13_startSelf_74 : decode cX13_startSelf 74 = .ok (.iload_n 1, 1) := by decide +kernel
theorem dX13_startSelf_75 : decode cX13_startSelf 75 = .ok (.bipush 34, 2) := by decide +kernel
theorem dX13_startSelf_77 : decode cX13_startSelf 77 = .ok (.imul, 1) := by decide +kernel
theorem dX13_startSelf_78 : decode cX13_startSelf 78 = .ok (.iload_n 2, 1) := by decide +kernel
theorem dX13_startSelf_79 : decode cX13_startSelf 79 = .ok (.iadd, 1) := by decide +kernel
theorem dX13_startSelf_80 : decode cX13_startSelf 80 = .ok (.istore_n 3, 1) := by decide +kernel
theorem dX13_startSelf_81 : decode cX13_startSelf 81 = .ok (.aload_n 0, 1) := by decide +kernel
theorem dX13_startSelf_82 : decode cX13_startSelf 82 = .ok (.getfield 1248, 3) := by decide +kernel
theorem dX13_startSelf_85 : decode cX13_startSelf 85 = .ok (.istore 4, 2) := by decide +kernel
theorem dX13_startSelf_87 : decode cX13_startSelf 87 = .ok (.aload_n 0, 1) := by decide +kernel
theorem dX13_startSelf_88 : decode cX13_startSelf 88 = .ok (.dup, 1) := by decide +kernel
theorem dX13_startSelf_89 : decode cX13_startSelf 89 = .ok (.getfield 1248, 3) := by decide +kernel
theorem dX13_startSelf_92 : decode cX13_startSelf 92 = .ok (.aload_n 0, 1) := by decide +kernel
theorem dX13_startSelf_93 : decode cX13_startSelf 93 = .ok (.getfield 389, 3) := by decide +kernel
theorem dX13_startSelf_96 : decode cX13_startSelf 96 = .ok (.iload_n 3, 1) := by decide +kernel
theorem dX13_startSelf_97 : decode cX13_startSelf 97 = .ok (.iaload, 1) := by decide +kernel
theorem dX13_startSelf_98 : decode cX13_startSelf 98 = .ok (.iadd, 1) := by decide +kernel
theorem dX13_startSelf_99 : decode cX13_startSelf 99 = .ok (.putfield 1248, 3) := by decide +kernel
theorem dX13_startSelf_102 : decode cX13_startSelf 102 = .ok (.aload_n 0, 1) := by decide +kernel
theorem dX13_startSelf_103 : decode cX13_startSelf 103 = .ok (.getfield 402, 3) := by decide +kernel
theorem dX13_startSelf_106 : decode cX13_startSelf 106 = .ok (.iload_n 3, 1) := by decide +kernel
theorem dX13_startSelf_107 : decode cX13_startSelf 107 = .ok (.iaload, 1) := by decide +kernel
theorem dX13_startSelf_108 : decode cX13_startSelf 108 = .ok (.ifCond .ne 66, 3) := by decide +kernel
theorem dX13_startSelf_111 : decode cX13_startSelf 111 = .ok (.aload_n 0, 1) := by decide +kernel
theorem dX13_startSelf_112 : decode cX13_startSelf 112 = .ok (.getfield 341, 3) := by decide +kernel
theorem dX13_startSelf_115 : decode cX13_startSelf 115 = .ok (.iload_n 3, 1) := by decide +kernel
theorem dX13_startSelf_116 : decode cX13_startSelf 116 = .ok (.baload, 1) := by decide +kernel
theorem dX13_startSelf_117 : decode cX13_startSelf 117 = .ok (.ifCond .eq 57, 3) := by decide +kernel
theorem dX13_startSelf_120 : decode cX13_startSelf 120 = .ok (.aload_n 0, 1) := by decide +kernel
theorem dX13_startSelf_121 : decode cX13_startSelf 121 = .ok (.getfield 377, 3) := by decide +kernel
theorem dX13_startSelf_124 : decode cX13_startSelf 124 = .ok (.iload_n 3, 1) := by decide +kernel
theorem dX13_startSelf_125 : decode cX13_startSelf 125 = .ok (.baload, 1) := by decide +kernel
theorem dX13_startSelf_126 : decode cX13_startSelf 126 = .ok (.ifCond .ne 48, 3) := by decide +kernel
theorem dX13_startSelf_129 : decode cX13_startSelf 129 = .ok (.aload_n 0, 1) := by decide +kernel
theorem dX13_startSelf_130 : decode cX13_startSelf 130 = .ok (.getfield 365, 3) := by decide +kernel
theorem dX13_startSelf_133 : decode cX13_startSelf 133 = .ok (.iload_n 3, 1) := by decide +kernel
theorem dX13_startSelf_134 : decode cX13_startSelf 134 = .ok (.iaload, 1) := by decide +kernel
theorem dX13_startSelf_135 : decode cX13_startSelf 135 = .ok (.bipush (-2), 2) := by decide +kernel
theorem dX13_startSelf_137 : decode cX13_startSelf 137 = .ok (.if_icmp .eq 37, 3) := by decide +kernel
theorem dX13_startSelf_140 : decode cX13_startSelf 140 = .ok (.aload_n 0, 1) := by decide +kernel
theorem dX13_startSelf_141 : decode cX13_startSelf 141 = .ok (.aload_n 0, 1) := by decide +kernel
theorem dX13_startSelf_142 : decode cX13_startSelf 142 = .ok (.getfield 365, 3) := by decide +kernel
theorem dX13_startSelf_145 : decode cX13_startSelf 145 = .ok (.iload_n 3, 1) := by decide +kernel
theorem dX13_startSelf_146 : decode cX13_startSelf 146 = .ok (.iaload, 1) := by decide +kernel
theorem dX13_startSelf_147 : decode cX13_startSelf 147 = .ok (.iload_n 1, 1) := by decide +kernel
theorem dX13_startSelf_148 : decode cX13_startSelf 148 = .ok (.iconst 0, 1) := by decide +kernel
theorem dX13_startSelf_149 : decode cX13_startSelf 149 = .ok (.iload 4, 2) := by decide +kernel
theorem dX13_startSelf_151 : decode cX13_startSelf 151 = .ok (.invokevirtual 1251, 3) := by decide +kernel
theorem dX13_startSelf_154 : decode cX13_startSelf 154 = .ok (.istore 5, 2) := by decide +kernel
theorem dX13_startSelf_156 : decode cX13_startSelf 156 = .ok (.aload_n 0, 1) := by decide +kernel
theorem dX13_startSelf_157 : decode cX13_startSelf 157 = .ok (.getfield 1207, 3) := by decide +kernel
theorem dX13_startSelf_160 : decode cX13_startSelf 160 = .ok (.ifCond .ne 11, 3) := by decide +kernel
theorem dX13_startSelf_163 : decode cX13_startSelf 163 = .ok (.aload_n 0, 1) := by decide +kernel
theorem dX13_startSelf_164 : decode cX13_startSelf 164 = .ok (.getfield 1204, 3) := by decide +kernel
theorem dX13_startSelf_167 : decode cX13_startSelf 167 = .ok (.iload_n 3, 1) := by decide +kernel
theorem dX13_startSelf_168 : decode cX13_startSelf 168 = .ok (.iload 5, 2) := by decide +kernel
theorem dX13_startSelf_170 : decode cX13_startSelf 170 = .ok (.iastore, 1) := by decide +kernel
theorem dX13_startSelf_171 : decode cX13_startSelf 171 = .ok (.goto 47, 3) := by decide +kernel
theorem dX13_startSelf_174 : decode cX13_startSelf 174 = .ok (.aload_n 0, 1) := by decide +kernel
theorem dX13_startSelf_175 : decode cX13_startSelf 175 = .ok (.getfield 402, 3) := by decide +kernel
theorem dX13_startSelf_178 : decode cX13_startSelf 178 = .ok (.iload_n 3, 1) := by decide +kernel
theorem dX13_startSelf_179 : decode cX13_startSelf 179 = .ok (.iaload, 1) := by decide +kernel
theorem dX13_startSelf_180 : decode cX13_startSelf 180 = .ok (.iconst 3, 1) := by decide +kernel
theorem dX13_startSelf_181 : decode cX13_startSelf 181 = .ok (.if_icmp .ne 37, 3) := by decide +kernel
theorem dX13_startSelf_184 : decode cX13_startSelf 184 = .ok (.aload_n 0, 1) := by decide +kernel
theorem dX13_startSelf_185 : decode cX13_startSelf 185 = .ok (.aload_n 0, 1) := by decide +kernel
theorem dX13_startSelf_186 : decode cX13_startSelf 186 = .ok (.getfield 368, 3) := by decide +kernel
theorem dX13_startSelf_189 : decode cX13_startSelf 189 = .ok (.iload_n 3, 1) := by decide +kernel
theorem dX13_startSelf_190 : decode cX13_startSelf 190 = .ok (.iaload, 1) := by decide +kernel
theorem dX13_startSelf_191 : decode cX13_startSelf 191 = .ok (.iload_n 1, 1) := by decide +kernel
theorem dX13_startSelf_192 : decode cX13_startSelf 192 = .ok (.iconst 0, 1) := by decide +kernel
theorem dX13_startSelf_193 : decode cX13_startSelf 193 = .ok (.iload 4, 2) := by decide +kernel
theorem dX13_startSelf_195 : decode cX13_startSelf 195 = .ok (.invokevirtual 1255, 3) := by decide +kernel
theorem dX13_startSelf_198 : decode cX13_startSelf 198 = .ok (.aload_n 0, 1) := by decide +kernel
theorem dX13_startSelf_199 : decode cX13_startSelf 199 = .ok (.aload_n 0, 1) := by decide +kernel
theorem dX13_startSelf_200 : decode cX13_startSelf 200 = .ok (.getfield 1207, 3) := by decide +kernel
theorem dX13_startSelf_203 : decode cX13_startSelf 203 = .ok (.iconst 1, 1) := by decide +kernel
theorem dX13_startSelf_204 : decode cX13_startSelf 204 = .ok (.if_icmp .ne 7, 3) := by decide +kernel
theorem dX13_startSelf_207 : decode cX13_startSelf 207 = .ok (.iconst 0, 1) := by decide +kernel
theorem dX13_startSelf_208 : decode cX13_startSelf 208 = .ok (.goto 7, 3) := by decide +kernel
theorem dX13_startSelf_211 : decode cX13_startSelf 211 = .ok (.aload_n 0, 1) := by decide +kernel
theorem dX13_startSelf_212 : decode cX13_startSelf 212 = .ok (.getfield 1207, 3) := by decide +kernel
theorem dX13_startSelf_215 : decode cX13_startSelf 215 = .ok (.putfield 1207, 3) := by decide +kernel
theorem dX13_startSelf_218 : decode cX13_startSelf 218 = .ok (.aload_n 0, 1) := by decide +kernel
theorem dX13_startSelf_219 : decode cX13_startSelf 219 = .ok (.iload 4, 2) := by decide +kernel
theorem dX13_startSelf_221 : decode cX13_startSelf 221 = .ok (.putfield 1248, 3) := by decide +kernel
theorem dX13_startSelf_224 : decode cX13_startSelf 224 = .ok (.iinc 2 1, 3) := by decide +kernel
theorem dX13_startSelf_227 : decode cX13_startSelf 227 = .ok (.goto (-170), 3) := by decide +kernel
theorem dX13_startSelf_230 : decode cX13_startSelf 230 = .ok (.return_, 1) := by decide +kernel
theorem dX13_fieldsOf_0 : decode cX13_fieldsOf 0 = .ok (.iconst 0, 1) := by decide +kernel
theorem dX13_fieldsOf_1 : decode cX13_fieldsOf 1 = .ok (.istore_n 2, 1) := by decide +kernel
theorem dX13_fieldsOf_2 : decode cX13_fieldsOf 2 = .ok (.iload_n 1, 1) := by decide +kernel
theorem dX13_fieldsOf_3 : decode cX13_fieldsOf 3 = .ok (.istore_n 3, 1) := by decide +kernel
theorem dX13_fieldsOf_4 : decode cX13_fieldsOf 4 = .ok (.iload_n 3, 1) := by decide +kernel
theorem dX13_fieldsOf_5 : decode cX13_fieldsOf 5 = .ok (.bipush (-2), 2) := by decide +kernel
theorem dX13_fieldsOf_7 : decode cX13_fieldsOf 7 = .ok (.if_icmp .eq 70, 3) := by decide +kernel
theorem dX13_fieldsOf_10 : decode cX13_fieldsOf 10 = .ok (.iconst 0, 1) := by decide +kernel
theorem dX13_fieldsOf_11 : decode cX13_fieldsOf 11 = .ok (.istore 4, 2) := by decide +kernel
theorem dX13_fieldsOf_13 : decode cX13_fieldsOf 13 = .ok (.iload 4, 2) := by decide +kernel
theorem dX13_fieldsOf_15 : decode cX13_fieldsOf 15 = .ok (.aload_n 0, 1) := by decide +kernel
theorem dX13_fieldsOf_16 : decode cX13_fieldsOf 16 = .ok (.getfield 275, 3) := by decide +kernel
theorem dX13_fieldsOf_19 : decode cX13_fieldsOf 19 = .ok (.iload_n 3, 1) := by decide +kernel
theorem dX13_fieldsOf_20 : decode cX13_fieldsOf 20 = .ok (.iaload, 1) := by decide +kernel
theorem dX13_fieldsOf_21 : decode cX13_fieldsOf 21 = .ok (.if_icmp .ge 47, 3) := by decide +kernel
theorem dX13_fieldsOf_24 : decode cX13_fieldsOf 24 = .ok (.iload_n 2, 1) := by decide +kernel
theorem dX13_fieldsOf_25 : decode cX13_fieldsOf 25 = .ok (.aload_n 0, 1) := by decide +kernel
theorem dX13_fieldsOf_26 : decode cX13_fieldsOf 26 = .ok (.getfield 402, 3) := by decide +kernel
theorem dX13_fieldsOf_29 : decode cX13_fieldsOf 29 = .ok (.iload_n 3, 1) := by decide +kernel
theorem dX13_fieldsOf_30 : decode cX13_fieldsOf 30 = .ok (.bipush 34, 2) := by decide +kernel
theorem dX13_fieldsOf_32 : decode cX13_fieldsOf 32 = .ok (.imul, 1) := by decide +kernel
theorem dX13_fieldsOf_33 : decode cX13_fieldsOf 33 = .ok (.iload 4, 2) := by decide +kernel
theorem dX13_fieldsOf_35 : decode cX13_fieldsOf 35 = .ok (.iadd, 1) := by decide +kernel
theorem dX13_fieldsOf_36 : decode cX13_fieldsOf 36 = .ok (.iaload, 1) := by decide +kernel
theorem dX13_fieldsOf_37 : decode cX13_fieldsOf 37 = .ok (.ifCond .ne 22, 3) := by decide +kernel
theorem dX13_fieldsOf_40 : decode cX13_fieldsOf 40 = .ok (.aload_n 0, 1) := by decide +kernel
theorem dX13_fieldsOf_41 : decode cX13_fieldsOf 41 = .ok (.getfield 341, 3) := by decide +kernel
theorem dX13_fieldsOf_44 : decode cX13_fieldsOf 44 = .ok (.iload_n 3, 1) := by decide +kernel
theorem dX13_fieldsOf_45 : decode cX13_fieldsOf 45 = .ok (.bipush 34, 2) := by decide +kernel
theorem dX13_fieldsOf_47 : decode cX13_fieldsOf 47 = .ok (.imul, 1) := by decide +kernel
theorem dX13_fieldsOf_48 : decode cX13_fieldsOf 48 = .ok (.iload 4, 2) := by decide +kernel
theorem dX13_fieldsOf_50 : decode cX13_fieldsOf 50 = .ok (.iadd, 1) := by decide +kernel
theorem dX13_fieldsOf_51 : decode cX13_fieldsOf 51 = .ok (.baload, 1) := by decide +kernel
theorem dX13_fieldsOf_52 : decode cX13_fieldsOf 52 = .ok (.ifCond .ne 7, 3) := by decide +kernel
theorem dX13_fieldsOf_55 : decode cX13_fieldsOf 55 = .ok (.iconst 1, 1) := by decide +kernel
theorem dX13_fieldsOf_56 : decode cX13_fieldsOf 56 = .ok (.goto 4, 3) := by decide +kernel
theorem dX13_fieldsOf_59 : decode cX13_fieldsOf 59 = .ok (.iconst 0, 1) := by decide +kernel
theorem dX13_fieldsOf_60 : decode cX13_fieldsOf 60 = .ok (.iadd, 1) := by decide +kernel
theorem dX13_fieldsOf_61 : decode cX13_fieldsOf 61 = .ok (.istore_n 2, 1) := by decide +kernel
theorem dX13_fieldsOf_62 : decode cX13_fieldsOf 62 = .ok (.iinc 4 1, 3) := by decide +kernel
theorem dX13_fieldsOf_65 : decode cX13_fieldsOf 65 = .ok (.goto (-52), 3) := by decide +kernel
theorem dX13_fieldsOf_68 : decode cX13_fieldsOf 68 = .ok (.aload_n 0, 1) := by decide +kernel
theorem dX13_fieldsOf_69 : decode cX13_fieldsOf 69 = .ok (.iload_n 3, 1) := by decide +kernel
theorem dX13_fieldsOf_70 : decode cX13_fieldsOf 70 = .ok (.invokevirtual 558, 3) := by decide +kernel
theorem dX13_fieldsOf_73 : decode cX13_fieldsOf 73 = .ok (.istore_n 3, 1) := by decide +kernel
theorem dX13_fieldsOf_74 : decode cX13_fieldsOf 74 = .ok (.goto (-70), 3) := by decide +kernel
theorem dX13_fieldsOf_77 : decode cX13_fieldsOf 77 = .ok (.iload_n 2, 1) := by decide +kernel
theorem dX13_fieldsOf_78 : decode cX13_fieldsOf 78 = .ok (.ireturn, 1) := by decide +kernel
theorem dX13_cellOf_0 : decode cX13_cellOf 0 = .ok (.aload_n 0, 1) := by decide +kernel
theorem dX13_cellOf_1 : decode cX13_cellOf 1 = .ok (.iload_n 2, 1) := by decide +kernel
theorem dX13_cellOf_2 : decode cX13_cellOf 2 = .ok (.invokevirtual 599, 3) := by decide +kernel
theorem dX13_cellOf_5 : decode cX13_cellOf 5 = .ok (.istore_n 3, 1) := by decide +kernel
theorem dX13_cellOf_6 : decode cX13_cellOf 6 = .ok (.iload_n 3, 1) := by decide +kernel
theorem dX13_cellOf_7 : decode cX13_cellOf 7 = .ok (.aload_n 0, 1) := by decide +kernel
theorem dX13_cellOf_8 : decode cX13_cellOf 8 = .ok (.getfield 1216, 3) := by decide +kernel
theorem dX13_cellOf_11 : decode cX13_cellOf 11 = .ok (.iload_n 1, 1) := by decide +kernel
theorem dX13_cellOf_12 : decode cX13_cellOf 12 = .ok (.iaload, 1) := by decide +kernel
theorem dX13_cellOf_13 : decode cX13_cellOf 13 = .ok (.if_icmp .eq 20, 3) := by decide +kernel
theorem dX13_cellOf_16 : decode cX13_cellOf 16 = .ok (.aload_n 0, 1) := by decide +kernel
theorem dX13_cellOf_17 : decode cX13_cellOf 17 = .ok (.aload_n 0, 1) := by decide +kernel
theorem dX13_cellOf_18 : decode cX13_cellOf 18 = .ok (.getfield 1216, 3) := by decide +kernel
theorem dX13_cellOf_21 : decode cX13_cellOf 21 = .ok (.iload_n 1, 1) := by decide +kernel
theorem dX13_cellOf_22 : decode cX13_cellOf 22 = .ok (.iaload, 1) := by decide +kernel
theorem dX13_cellOf_23 : decode cX13_cellOf 23 = .ok (.iload_n 3, 1) := by decide +kernel
theorem dX13_cellOf_24 : decode cX13_cellOf 24 = .ok (.invokevirtual 581, 3) := by decide +kernel
theorem dX13_cellOf_27 : decode cX13_cellOf 27 = .ok (.ifCond .ne 6, 3) := by decide +kernel
theorem dX13_cellOf_30 : decode cX13_cellOf 30 = .ok (.bipush (-2), 2) := by decide +kernel
theorem dX13_cellOf_32 : decode cX13_cellOf 32 = .ok (.ireturn, 1) := by decide +kernel
theorem dX13_cellOf_33 : decode cX13_cellOf 33 = .ok (.aload_n 0, 1) := by decide +kernel
theorem dX13_cellOf_34 : decode cX13_cellOf 34 = .ok (.iload_n 3, 1) := by decide +kernel
theorem dX13_cellOf_35 : decode cX13_cellOf 35 = .ok (.invokevirtual 558, 3) := by decide +kernel
theorem dX13_cellOf_38 : decode cX13_cellOf 38 = .ok (.bipush (-2), 2) := by decide +kernel
theorem dX13_cellOf_40 : decode cX13_cellOf 40 = .ok (.if_icmp .ne 7, 3) := by decide +kernel
theorem dX13_cellOf_43 : decode cX13_cellOf 43 = .ok (.iconst 0, 1) := by decide +kernel
theorem dX13_cellOf_44 : decode cX13_cellOf 44 = .ok (.goto 12, 3) := by decide +kernel
theorem dX13_cellOf_47 : decode cX13_cellOf 47 = .ok (.aload_n 0, 1) := by decide +kernel
theorem dX13_cellOf_48 : decode cX13_cellOf 48 = .ok (.aload_n 0, 1) := by decide +kernel
theorem dX13_cellOf_49 : decode cX13_cellOf 49 = .ok (.iload_n 3, 1) := by decide +kernel
theorem dX13_cellOf_50 : decode cX13_cellOf 50 = .ok (.invokevirtual 558, 3) := by decide +kernel
theorem dX13_cellOf_53 : decode cX13_cellOf 53 = .ok (.invokevirtual 1259, 3) := by decide +kernel
theorem dX13_cellOf_56 : decode cX13_cellOf 56 = .ok (.istore 4, 2) := by decide +kernel
theorem dX13_cellOf_58 : decode cX13_cellOf 58 = .ok (.iconst 0, 1) := by decide +kernel
theorem dX13_cellOf_59 : decode cX13_cellOf 59 = .ok (.istore 5, 2) := by decide +kernel
theorem dX13_cellOf_61 : decode cX13_cellOf 61 = .ok (.iload_n 3, 1) := by decide +kernel
theorem dX13_cellOf_62 : decode cX13_cellOf 62 = .ok (.bipush 34, 2) := by decide +kernel
theorem dX13_cellOf_64 : decode cX13_cellOf 64 = .ok (.imul, 1) := by decide +kernel
theorem dX13_cellOf_65 : decode cX13_cellOf 65 = .ok (.iload 5, 2) := by decide +kernel
theorem dX13_cellOf_67 : decode cX13_cellOf 67 = .ok (.iadd, 1) := by decide +kernel
theorem dX13_cellOf_68 : decode cX13_cellOf 68 = .ok (.iload_n 2, 1) := by decide +kernel
theorem dX13_cellOf_69 : decode cX13_cellOf 69 = .ok (.if_icmp .ge 49, 3) := by decide +kernel
theorem dX13_cellOf_72 : decode cX13_cellOf 72 = .ok (.iload 4, 2) := by decide +kernel
theorem dX13_cellOf_74 : decode cX13_cellOf 74 = .ok (.aload_n 0, 1) := by decide +kernel
theorem dX13_cellOf_75 : decode cX13_cellOf 75 = .ok (.getfield 402, 3) := by decide +kernel
theorem dX13_cellOf_78 : decode cX13_cellOf 78 = .ok (.iload_n 3, 1) := by decide +kernel
theorem dX13_cellOf_79 : decode cX13_cellOf 79 = .ok (.bipush 34, 2) := by decide +kernel
theorem dX13_cellOf_81 : decode cX13_cellOf 81 = .ok (.imul, 1) := by decide +kernel
theorem dX13_cellOf_82 : decode cX13_cellOf 82 = .ok (.iload 5, 2) := by decide +kernel
theorem dX13_cellOf_84 : decode cX13_cellOf 84 = .ok (.iadd, 1) := by decide +kernel
theorem dX13_cellOf_85 : decode cX13_cellOf 85 = .ok (.iaload, 1) := by decide +kernel
theorem dX13_cellOf_86 : decode cX13_cellOf 86 = .ok (.ifCond .ne 22, 3) := by decide +kernel
theorem dX13_cellOf_89 : decode cX13_cellOf 89 = .ok (.aload_n 0, 1) := by decide +kernel
theorem dX13_cellOf_90 : decode cX13_cellOf 90 = .ok (.getfield 341, 3) := by decide +kernel
theorem dX13_cellOf_93 : decode cX13_cellOf 93 = .ok (.iload_n 3, 1) := by decide +kernel
theorem dX13_cellOf_94 : decode cX13_cellOf 94 = .ok (.bipush 34, 2) := by decide +kernel
theorem dX13_cellOf_96 : decode cX13_cellOf 96 = .ok (.imul, 1) := by decide +kernel
theorem dX13_cellOf_97 : decode cX13_cellOf 97 = .ok (.iload 5, 2) := by decide +kernel
theorem dX13_cellOf_99 : decode cX13_cellOf 99 = .ok (.iadd, 1) := by decide +kernel
theorem dX13_cellOf_100 : decode cX13_cellOf 100 = .ok (.baload, 1) := by decide +kernel
theorem dX13_cellOf_101 : decode cX13_cellOf 101 = .ok (.ifCond .ne 7, 3) := by decide +kernel
theorem dX13_cellOf_104 : decode cX13_cellOf 104 = .ok (.iconst 1, 1) := by decide +kernel
theorem dX13_cellOf_105 : decode cX13_cellOf 105 = .ok (.goto 4, 3) := by decide +kernel
theorem dX13_cellOf_108 : decode cX13_cellOf 108 = .ok (.iconst 0, 1) := by decide +kernel
theorem dX13_cellOf_109 : decode cX13_cellOf 109 = .ok (.iadd, 1) := by decide +kernel
theorem dX13_cellOf_110 : decode cX13_cellOf 110 = .ok (.istore 4, 2) := by decide +kernel
theorem dX13_cellOf_112 : decode cX13_cellOf 112 = .ok (.iinc 5 1, 3) := by decide +kernel
theorem dX13_cellOf_115 : decode cX13_cellOf 115 = .ok (.goto (-54), 3) := by decide +kernel
theorem dX13_cellOf_118 : decode cX13_cellOf 118 = .ok (.aload_n 0, 1) := by decide +kernel
theorem dX13_cellOf_119 : decode cX13_cellOf 119 = .ok (.getfield 1262, 3) := by decide +kernel
theorem dX13_cellOf_122 : decode cX13_cellOf 122 = .ok (.iload_n 1, 1) := by decide +kernel
theorem dX13_cellOf_123 : decode cX13_cellOf 123 = .ok (.iaload, 1) := by decide +kernel
theorem dX13_cellOf_124 : decode cX13_cellOf 124 = .ok (.iload 4, 2) := by decide +kernel
theorem dX13_cellOf_126 : decode cX13_cellOf 126 = .ok (.iadd, 1) := by decide +kernel
theorem dX13_cellOf_127 : decode cX13_cellOf 127 = .ok (.ireturn, 1) := by decide +kernel
theorem dX13_newObject_0 : decode cX13_newObject 0 = .ok (.aload_n 0, 1) := by decide +kernel
theorem dX13_newObject_1 : decode cX13_newObject 1 = .ok (.iload_n 1, 1) := by decide +kernel
theorem dX13_newObject_2 : decode cX13_newObject 2 = .ok (.invokevirtual 1259, 3) := by decide +kernel
theorem dX13_newObject_5 : decode cX13_newObject 5 = .ok (.istore_n 2, 1) := by decide +kernel
theorem dX13_newObject_6 : decode cX13_newObject 6 = .ok (.aload_n 0, 1) := by decide +kernel
theorem dX13_newObject_7 : decode cX13_newObject 7 = .ok (.getfield 1198, 3) := by decide +kernel
theorem dX13_newObject_10 : decode cX13_newObject 10 = .ok (.sipush 200, 3) := by decide +kernel
theorem dX13_newObject_13 : decode cX13_newObject 13 = .ok (.if_icmp .eq 15, 3) := by decide +kernel
theorem dX13_newObject_16 : decode cX13_newObject 16 = .ok (.aload_n 0, 1) := by decide +kernel
theorem dX13_newObject_17 : decode cX13_newObject 17 = .ok (.getfield 1201, 3) := by decide +kernel
theorem dX13_newObject_20 : decode cX13_newObject 20 = .ok (.iload_n 2, 1) := by decide +kernel
theorem dX13_newObject_21 : decode cX13_newObject 21 = .ok (.iadd, 1) := by decide +kernel
theorem dX13_newObject_22 : decode cX13_newObject 22 = .ok (.sipush 2000, 3) := by decide +kernel
theorem dX13_newObject_25 : decode cX13_newObject 25 = .ok (.if_icmp .le 10, 3) := by decide +kernel
theorem dX13_newObject_28 : decode cX13_newObject 28 = .ok (.aload_n 0, 1) := by decide +kernel
theorem dX13_newObject_29 : decode cX13_newObject 29 = .ok (.bipush 16, 2) := by decide +kernel
theorem dX13_newObject_31 : decode cX13_newObject 31 = .ok (.invokevirtual 1213, 3) := by decide +kernel
theorem dX13_newObject_34 : decode cX13_newObject 34 = .ok (.ireturn, 1) := by decide +kernel
theorem dX13_newObject_35 : decode cX13_newObject 35 = .ok (.aload_n 0, 1) := by decide +kernel
theorem dX13_newObject_36 : decode cX13_newObject 36 = .ok (.dup, 1) := by decide +kernel
theorem dX13_newObject_37 : decode cX13_newObject 37 = .ok (.getfield 1198, 3) := by decide +kernel
theorem dX13_newObject_40 : decode cX13_newObject 40 = .ok (.iconst 1, 1) := by decide +kernel
theorem dX13_newObject_41 : decode cX13_newObject 41 = .ok (.iadd, 1) := by decide +kernel
theorem dX13_newObject_42 : decode cX13_newObject 42 = .ok (.putfield 1198, 3) := by decide +kernel
theorem dX13_newObject_45 : decode cX13_newObject 45 = .ok (.aload_n 0, 1) := by decide +kernel
theorem dX13_newObject_46 : decode cX13_newObject 46 = .ok (.getfield 1216, 3) := by decide +kernel
theorem dX13_newObject_49 : decode cX13_newObject 49 = .ok (.aload_n 0, 1) := by decide +kernel
theorem dX13_newObject_50 : decode cX13_newObject 50 = .ok (.getfield 1198, 3) := by decide +kernel
theorem dX13_newObject_53 : decode cX13_newObject 53 = .ok (.iload_n 1, 1) := by decide +kernel
theorem dX13_newObject_54 : decode cX13_newObject 54 = .ok (.iastore, 1) := by decide +kernel
theorem dX13_newObject_55 : decode cX13_newObject 55 = .ok (.aload_n 0, 1) := by decide +kernel
theorem dX13_newObject_56 : decode cX13_newObject 56 = .ok (.getfield 1262, 3) := by decide +kernel
theorem dX13_newObject_59 : decode cX13_newObject 59 = .ok (.aload_n 0, 1) := by decide +kernel
theorem dX13_newObject_60 : decode cX13_newObject 60 = .ok (.getfield 1198, 3) := by decide +kernel
theorem dX13_newObject_63 : decode cX13_newObject 63 = .ok (.aload_n 0, 1) := by decide +kernel
theorem dX13_newObject_64 : decode cX13_newObject 64 = .ok (.getfield 1201, 3) := by decide +kernel
theorem dX13_newObject_67 : decode cX13_newObject 67 = .ok (.iastore, 1) := by decide +kernel
theorem dX13_newObject_68 : decode cX13_newObject 68 = .ok (.iconst 0, 1) := by decide +kernel
theorem dX13_newObject_69 : decode cX13_newObject 69 = .ok (.istore_n 3, 1) := by decide +kernel
theorem dX13_newObject_70 : decode cX13_newObject 70 = .ok (.iload_n 3, 1) := by decide +kernel
theorem dX13_newObject_71 : decode cX13_newObject 71 = .ok (.iload_n 2, 1) := by decide +kernel
theorem dX13_newObject_72 : decode cX13_newObject 72 = .ok (.if_icmp .ge 21, 3) := by decide +kernel
theorem dX13_newObject_75 : decode cX13_newObject 75 = .ok (.aload_n 0, 1) := by decide +kernel
theorem dX13_newObject_76 : decode cX13_newObject 76 = .ok (.getfield 1265, 3) := by decide +kernel
theorem dX13_newObject_79 : decode cX13_newObject 79 = .ok (.aload_n 0, 1) := by decide +kernel
theorem dX13_newObject_80 : decode cX13_newObject 80 = .ok (.getfield 1201, 3) := by decide +kernel
theorem dX13_newObject_83 : decode cX13_newObject 83 = .ok (.iload_n 3, 1) := by decide +kernel
theorem dX13_newObject_84 : decode cX13_newObject 84 = .ok (.iadd, 1) := by decide +kernel
theorem dX13_newObject_85 : decode cX13_newObject 85 = .ok (.iconst 0, 1) := by decide +kernel
theorem dX13_newObject_86 : decode cX13_newObject 86 = .ok (.iastore, 1) := by decide +kernel
theorem dX13_newObject_87 : decode cX13_newObject 87 = .ok (.iinc 3 1, 3) := by decide +kernel
theorem dX13_newObject_90 : decode cX13_newObject 90 = .ok (.goto (-20), 3) := by decide +kernel
theorem dX13_newObject_93 : decode cX13_newObject 93 = .ok (.aload_n 0, 1) := by decide +kernel
theorem dX13_newObject_94 : decode cX13_newObject 94 = .ok (.dup, 1) := by decide +kernel
theorem dX13_newObject_95 : decode cX13_newObject 95 = .ok (.getfield 1201, 3) := by decide +kernel
theorem dX13_newObject_98 : decode cX13_newObject 98 = .ok (.iload_n 2, 1) := by decide +kernel
theorem dX13_newObject_99 : decode cX13_newObject 99 = .ok (.iadd, 1) := by decide +kernel
theorem dX13_newObject_100 : decode cX13_newObject 100 = .ok (.putfield 1201, 3) := by decide +kernel
theorem dX13_newObject_103 : decode cX13_newObject 103 = .ok (.aload_n 0, 1) := by decide +kernel
theorem dX13_newObject_104 : decode cX13_newObject 104 = .ok (.getfield 1262, 3) := by decide +kernel
theorem dX13_newObject_107 : decode cX13_newObject 107 = .ok (.aload_n 0, 1) := by decide +kernel
theorem dX13_newObject_108 : decode cX13_newObject 108 = .ok (.getfield 1198, 3) := by decide +kernel
theorem dX13_newObject_111 : decode cX13_newObject 111 = .ok (.iconst 1, 1) := by decide +kernel
theorem dX13_newObject_112 : decode cX13_newObject 112 = .ok (.iadd, 1) := by decide +kernel
theorem dX13_newObject_113 : decode cX13_newObject 113 = .ok (.aload_n 0, 1) := by decide +kernel
theorem dX13_newObject_114 : decode cX13_newObject 114 = .ok (.getfield 1201, 3) := by decide +kernel
theorem dX13_newObject_117 : decode cX13_newObject 117 = .ok (.iastore, 1) := by decide +kernel
theorem dX13_newObject_118 : decode cX13_newObject 118 = .ok (.aload_n 0, 1) := by decide +kernel
theorem dX13_newObject_119 : decode cX13_newObject 119 = .ok (.getfield 1198, 3) := by decide +kernel
theorem dX13_newObject_122 : decode cX13_newObject 122 = .ok (.ireturn, 1) := by decide +kernel
theorem dX13_steps_0 : decode cX13_steps 0 = .ok (.aload_n 0, 1) := by decide +kernel
theorem dX13_steps_1 : decode cX13_steps 1 = .ok (.getfield 1268, 3) := by decide +kernel
theorem dX13_steps_4 : decode cX13_steps 4 = .ok (.sipush 20000, 3) := by decide +kernel
theorem dX13_steps_7 : decode cX13_steps 7 = .ok (.if_icmp .ne 12, 3) := by decide +kernel
theorem dX13_steps_10 : decode cX13_steps 10 = .ok (.aload_n 0, 1) := by decide +kernel
theorem dX13_steps_11 : decode cX13_steps 11 = .ok (.bipush 14, 2) := by decide +kernel
theorem dX13_steps_13 : decode cX13_steps 13 = .ok (.invokevirtual 1213, 3) := by decide +kernel
theorem dX13_steps_16 : decode cX13_steps 16 = .ok (.pop, 1) := by decide +kernel
theorem dX13_steps_17 : decode cX13_steps 17 = .ok (.iconst 0, 1) := by decide +kernel
theorem dX13_steps_18 : decode cX13_steps 18 = .ok (.ireturn, 1) := by decide +kernel
theorem dX13_steps_19 : decode cX13_steps 19 = .ok (.aload_n 0, 1) := by decide +kernel
theorem dX13_steps_20 : decode cX13_steps 20 = .ok (.dup, 1) := by decide +kernel
theorem dX13_steps_21 : decode cX13_steps 21 = .ok (.getfield 1268, 3) := by decide +kernel
theorem dX13_steps_24 : decode cX13_steps 24 = .ok (.iconst 1, 1) := by decide +kernel
theorem dX13_steps_25 : decode cX13_steps 25 = .ok (.iadd, 1) := by decide +kernel
theorem dX13_steps_26 : decode cX13_steps 26 = .ok (.putfield 1268, 3) := by decide +kernel
theorem dX13_steps_29 : decode cX13_steps 29 = .ok (.iconst 1, 1) := by decide +kernel
theorem dX13_steps_30 : decode cX13_steps 30 = .ok (.ireturn, 1) := by decide +kernel
theorem dX13_invoke_0 : decode cX13_invoke 0 = .ok (.aload_n 0, 1) := by decide +kernel
theorem dX13_invoke_1 : decode cX13_invoke 1 = .ok (.iload_n 1, 1) := by decide +kernel
theorem dX13_invoke_2 : decode cX13_invoke 2 = .ok (.invokevirtual 599, 3) := by decide +kernel
theorem dX13_invoke_5 : decode cX13_invoke 5 = .ok (.istore 4, 2) := by decide +kernel
theorem dX13_invoke_7 : decode cX13_invoke 7 = .ok (.aload_n 0, 1) := by decide +kernel
theorem dX13_invoke_8 : decode cX13_invoke 8 = .ok (.getfield 402, 3) := by decide +kernel
theorem dX13_invoke_11 : decode cX13_invoke 11 = .ok (.iload_n 1, 1) := by decide +kernel
theorem dX13_invoke_12 : decode cX13_invoke 12 = .ok (.iaload, 1) := by decide +kernel
theorem dX13_invoke_13 : decode cX13_invoke 13 = .ok (.iconst 2, 1) := by decide +kernel
theorem dX13_invoke_14 : decode cX13_invoke 14 = .ok (.if_icmp .ne 15, 3) := by decide +kernel
theorem dX13_invoke_17 : decode cX13_invoke 17 = .ok (.iload 4, 2) := by decide +kernel
theorem dX13_invoke_19 : decode cX13_invoke 19 = .ok (.bipush 12, 2) := by decide +kernel
theorem dX13_invoke_21 : decode cX13_invoke 21 = .ok (.idiv, 1) := by decide +kernel
theorem dX13_invoke_22 : decode cX13_invoke 22 = .ok (.bipush 17, 2) := by decide +kernel
theorem dX13_invoke_24 : decode cX13_invoke 24 = .ok (.if_icmp .ne 5, 3) := by decide +kernel
theorem dX13_invoke_27 : decode cX13_invoke 27 = .ok (.iconst 0, 1) := by decide +kernel
theorem dX13_invoke_28 : decode cX13_invoke 28 = .ok (.ireturn, 1) := by decide +kernel
theorem dX13_invoke_29 : decode cX13_invoke 29 = .ok (.aload_n 0, 1) := by decide +kernel
theorem dX13_invoke_30 : decode cX13_invoke 30 = .ok (.getfield 1268, 3) := by decide +kernel
theorem dX13_invoke_33 : decode cX13_invoke 33 = .ok (.sipush 20000, 3) := by decide +kernel
theorem dX13_invoke_36 : decode cX13_invoke 36 = .ok (.if_icmp .ge 19, 3) := by decide +kernel
theorem dX13_invoke_39 : decode cX13_invoke 39 = .ok (.aload_n 0, 1) := by decide +kernel
theorem dX13_invoke_40 : decode cX13_invoke 40 = .ok (.getfield 1219, 3) := by decide +kernel
theorem dX13_invoke_43 : decode cX13_invoke 43 = .ok (.bipush 24, 2) := by decide +kernel
theorem dX13_invoke_45 : decode cX13_invoke 45 = .ok (.if_icmp .ne 10, 3) := by decide +kernel
theorem dX13_invoke_48 : decode cX13_invoke 48 = .ok (.aload_n 0, 1) := by decide +kernel
theorem dX13_invoke_49 : decode cX13_invoke 49 = .ok (.bipush 15, 2) := by decide +kernel
theorem dX13_invoke_51 : decode cX13_invoke 51 = .ok (.invokevirtual 1213, 3) := by decide +kernel
theorem dX13_invoke_54 : decode cX13_invoke 54 = .ok (.ireturn, 1) := by decide +kernel
theorem dX13_invoke_55 : decode cX13_invoke 55 = .ok (.aload_n 0, 1) := by decide +kernel
theorem dX13_invoke_56 : decode cX13_invoke 56 = .ok (.invokevirtual 1271, 3) := by decide +kernel
theorem dX13_invoke_59 : decode cX13_invoke 59 = .ok (.ifCond .ne 5, 3) := by decide +kernel
theorem dX13_invoke_62 : decode cX13_invoke 62 = .ok (.iconst 0, 1) := by decide +kernel
theorem dX13_invoke_63 : decode cX13_invoke 63 = .ok (.ireturn, 1) := by decide +kernel
theorem dX13_invoke_64 : decode cX13_invoke 64 = .ok (.aload_n 0, 1) := by decide +kernel
theorem dX13_invoke_65 : decode cX13_invoke 65 = .ok (.dup, 1) := by decide +kernel
theorem dX13_invoke_66 : decode cX13_invoke 66 = .ok (.getfield 1219, 3) := by decide +kernel
theorem dX13_invoke_69 : decode cX13_invoke 69 = .ok (.iconst 1, 1) := by decide +kernel
theorem dX13_invoke_70 : decode cX13_invoke 70 = .ok (.iadd, 1) := by decide +kernel
theorem dX13_invoke_71 : decode cX13_invoke 71 = .ok (.putfield 1219, 3) := by decide +kernel
theorem dX13_invoke_74 : decode cX13_invoke 74 = .ok (.aload_n 0, 1) := by decide +kernel
theorem dX13_invoke_75 : decode cX13_invoke 75 = .ok (.getfield 1248, 3) := by decide +kernel
theorem dX13_invoke_78 : decode cX13_invoke 78 = .ok (.istore 5, 2) := by decide +kernel
theorem dX13_invoke_80 : decode cX13_invoke 80 = .ok (.aload_n 0, 1) := by decide +kernel
theorem dX13_invoke_81 : decode cX13_invoke 81 = .ok (.iload_n 3, 1) := by decide +kernel
theorem dX13_invoke_82 : decode cX13_invoke 82 = .ok (.aload_n 0, 1) := by decide +kernel
theorem dX13_invoke_83 : decode cX13_invoke 83 = .ok (.getfield 389, 3) := by decide +kernel
theorem dX13_invoke_86 : decode cX13_invoke 86 = .ok (.iload_n 1, 1) := by decide +kernel
theorem dX13_invoke_87 : decode cX13_invoke 87 = .ok (.iaload, 1) := by decide +kernel
theorem dX13_invoke_88 : decode cX13_invoke 88 = .ok (.iadd, 1) := by decide +kernel
theorem dX13_invoke_89 : decode cX13_invoke 89 = .ok (.putfield 1248, 3) := by decide +kernel
theorem dX13_invoke_92 : decode cX13_invoke 92 = .ok (.iconst 0, 1) := by decide +kernel
theorem dX13_invoke_93 : decode cX13_invoke 93 = .ok (.istore 6, 2) := by decide +kernel
theorem dX13_invoke_95 : decode cX13_invoke 95 = .ok (.aload_n 0, 1) := by decide +kernel
theorem dX13_invoke_96 : decode cX13_invoke 96 = .ok (.getfield 350, 3) := by decide +kernel
theorem dX13_invoke_99 : decode cX13_invoke 99 = .ok (.iload_n 1, 1) := by decide +kernel
theorem dX13_invoke_100 : decode cX13_invoke 100 = .ok (.baload, 1) := by decide +kernel
theorem dX13_invoke_101 : decode cX13_invoke 101 = .ok (.ifCond .eq 15, 3) := by decide +kernel
theorem dX13_invoke_104 : decode cX13_invoke 104 = .ok (.aload_n 0, 1) := by decide +kernel
theorem dX13_invoke_105 : decode cX13_invoke 105 = .ok (.iload_n 1, 1) := by decide +kernel
theorem dX13_invoke_106 : decode cX13_invoke 106 = .ok (.iload_n 2, 1) := by decide +kernel
theorem dX13_invoke_107 : decode cX13_invoke 107 = .ok (.iload_n 3, 1) := by decide +kernel
theorem dX13_invoke_108 : decode cX13_invoke 108 = .ok (.invokevirtual 1273, 3) := by decide +kernel
theorem dX13_invoke_111 : decode cX13_invoke 111 = .ok (.istore 6, 2) := by decide +kernel
theorem dX13_invoke_113 : decode cX13_invoke 113 = .ok (.goto 55, 3) := by decide +kernel
theorem dX13_invoke_116 : decode cX13_invoke 116 = .ok (.aload_n 0, 1) := by decide +kernel
theorem dX13_invoke_117 : decode cX13_invoke 117 = .ok (.getfield 402, 3) := by decide +kernel
theorem dX13_invoke_120 : decode cX13_invoke 120 = .ok (.iload_n 1, 1) := by decide +kernel
theorem dX13_invoke_121 : decode cX13_invoke 121 = .ok (.iaload, 1) := by decide +kernel
theorem dX13_invoke_122 : decode cX13_invoke 122 = .ok (.iconst 2, 1) := by decide +kernel
theorem dX13_invoke_123 : decode cX13_invoke 123 = .ok (.if_icmp .ne 13, 3) := by decide +kernel
theorem dX13_invoke_126 : decode cX13_invoke 126 = .ok (.aload_n 0, 1) := by decide +kernel
theorem dX13_invoke_127 : decode cX13_invoke 127 = .ok (.iload_n 1, 1) := by decide +kernel
theorem dX13_invoke_128 : decode cX13_invoke 128 = .ok (.iload_n 2, 1) := by decide +kernel
theorem dX13_invoke_129 : decode cX13_invoke 129 = .ok (.iload_n 3, 1) := by decide +kernel
theorem dX13_invoke_130 : decode cX13_invoke 130 = .ok (.invokevirtual 1276, 3) := by decide +kernel
theorem dX13_invoke_133 : decode cX13_invoke 133 = .ok (.goto 35, 3) := by decide +kernel
theorem dX13_invoke_136 : decode cX13_invoke 136 = .ok (.aload_n 0, 1) := by decide +kernel
theorem dX13_invoke_137 : decode cX13_invoke 137 = .ok (.aload_n 0, 1) := by decide +kernel
theorem dX13_invoke_138 : decode cX13_invoke 138 = .ok (.getfield 368, 3) := by decide +kernel
theorem dX13_invoke_141 : decode cX13_invoke 141 = .ok (.iload_n 1, 1) := by decide +kernel
theorem dX13_invoke_142 : decode cX13_invoke 142 = .ok (.iaload, 1) := by decide +kernel
theorem dX13_invoke_143 : decode cX13_invoke 143 = .ok (.iload 4, 2) := by decide +kernel
theorem dX13_invoke_145 : decode cX13_invoke 145 = .ok (.iload_n 2, 1) := by decide +kernel
theorem dX13_invoke_146 : decode cX13_invoke 146 = .ok (.iload_n 3, 1) := by decide +kernel
theorem dX13_invoke_147 : decode cX13_invoke 147 = .ok (.invokevirtual 1255, 3) := by decide +kernel
theorem dX13_invoke_150 : decode cX13_invoke 150 = .ok (.aload_n 0, 1) := by decide +kernel
theorem dX13_invoke_151 : decode cX13_invoke 151 = .ok (.getfield 1207, 3) := by decide +kernel
theorem dX13_invoke_154 : decode cX13_invoke 154 = .ok (.iconst 1, 1) := by decide +kernel
theorem dX13_invoke_155 : decode cX13_invoke 155 = .ok (.if_icmp .ne 10, 3) := by decide +kernel
theorem dX13_invoke_158 : decode cX13_invoke 158 = .ok (.aload_n 0, 1) := by decide +kernel
theorem dX13_invoke_159 : decode cX13_invoke 159 = .ok (.getfield 1279, 3) := by decide +kernel
theorem dX13_invoke_162 : decode cX13_invoke 162 = .ok (.goto 4, 3) := by decide +kernel
theorem dX13_invoke_165 : decode cX13_invoke 165 = .ok (.iconst 0, 1) := by decide +kernel
theorem dX13_invoke_166 : decode cX13_invoke 166 = .ok (.istore 6, 2) := by decide +kernel
theorem dX13_invoke_168 : decode cX13_invoke 168 = .ok (.aload_n 0, 1) := by decide +kernel
theorem dX13_invoke_169 : decode cX13_invoke 169 = .ok (.aload_n 0, 1) := by decide +kernel
theorem dX13_invoke_170 : decode cX13_invoke 170 = .ok (.getfield 1207, 3) := by decide +kernel
theorem dX13_invoke_173 : decode cX13_invoke 173 = .ok (.iconst 1, 1) := by decide +kernel
theorem dX13_invoke_174 : decode cX13_invoke 174 = .ok (.if_icmp .ne 7, 3) := by decide +kernel
theorem dX13_invoke_177 : decode cX13_invoke 177 = .ok (.iconst 0, 1) := by decide +kernel
theorem dX13_invoke_178 : decode cX13_invoke 178 = .ok (.goto 7, 3) := by decide +kernel
theorem dX13_invoke_181 : decode cX13_invoke 181 = .ok (.aload_n 0, 1) := by decide +kernel
theorem dX13_invoke_182 : decode cX13_invoke 182 = .ok (.getfield 1207, 3) := by decide +kernel
theorem dX13_invoke_185 : decode cX13_invoke 185 = .ok (.putfield 1207, 3) := by decide +kernel
theorem dX13_invoke_188 : decode cX13_invoke 188 = .ok (.aload_n 0, 1) := by decide +kernel
theorem dX13_invoke_189 : decode cX13_invoke 189 = .ok (.iload 5, 2) := by decide +kernel
theorem dX13_invoke_191 : decode cX13_invoke 191 = .ok (.putfield 1248, 3) := by decide +kernel
theorem dX13_invoke_194 : decode cX13_invoke 194 = .ok (.aload_n 0, 1) := by decide +kernel
theorem dX13_invoke_195 : decode cX13_invoke 195 = .ok (.dup, 1) := by decide +kernel
theorem dX13_invoke_196 : decode cX13_invoke 196 = .ok (.getfield 1219, 3) := by decide +kernel
theorem dX13_invoke_199 : decode cX13_invoke 199 = .ok (.iconst 1, 1) := by decide +kernel
theorem dX13_invoke_200 : decode cX13_invoke 200 = .ok (.isub, 1) := by decide +kernel
theorem dX13_invoke_201 : decode cX13_invoke 201 = .ok (.putfield 1219, 3) := by decide +kernel
theorem dX13_invoke_204 : decode cX13_invoke 204 = .ok (.iload 6, 2) := by decide +kernel
theorem dX13_invoke_206 : decode cX13_invoke 206 = .ok (.ireturn, 1) := by decide +kernel
theorem dX13_alongBridge_0 : decode cX13_alongBridge 0 = .ok (.aload_n 0, 1) := by decide +kernel
theorem dX13_alongBridge_1 : decode cX13_alongBridge 1 = .ok (.getfield 1248, 3) := by decide +kernel
theorem dX13_alongBridge_4 : decode cX13_alongBridge 4 = .ok (.istore 4, 2) := by decide +kernel
theorem dX13_alongBridge_6 : decode cX13_alongBridge 6 = .ok (.iconst 0, 1) := by decide +kernel
theorem dX13_alongBridge_7 : decode cX13_alongBridge 7 = .ok (.istore 5, 2) := by decide +kernel
theorem dX13_alongBridge_9 : decode cX13_alongBridge 9 = .ok (.iload 5, 2) := by decide +kernel
theorem dX13_alongBridge_11 : decode cX13_alongBridge 11 = .ok (.aload_n 0, 1) := by decide +kernel
theorem dX13_alongBridge_12 : decode cX13_alongBridge 12 = .ok (.getfield 362, 3) := by decide +kernel
theorem dX13_alongBridge_15 : decode cX13_alongBridge 15 = .ok (.iload_n 1, 1) := by decide +kernel
theorem dX13_alongBridge_16 : decode cX13_alongBridge 16 = .ok (.iaload, 1) := by decide +kernel
theorem dX13_alongBridge_17 : decode cX13_alongBridge 17 = .ok (.if_icmp .ge 28, 3) := by decide +kernel
theorem dX13_alongBridge_20 : decode cX13_alongBridge 20 = .ok (.aload_n 0, 1) := by decide +kernel
theorem dX13_alongBridge_21 : decode cX13_alongBridge 21 = .ok (.getfield 1282, 3) := by decide +kernel
theorem dX13_alongBridge_24 : decode cX13_alongBridge 24 = .ok (.iload 4, 2) := by decide +kernel
theorem dX13_alongBridge_26 : decode cX13_alongBridge 26 = .ok (.iload 5, 2) := by decide +kernel
theorem dX13_alongBridge_28 : decode cX13_alongBridge 28 = .ok (.iadd, 1) := by decide +kernel
theorem dX13_alongBridge_29 : decode cX13_alongBridge 29 = .ok (.aload_n 0, 1) := by decide +kernel
theorem dX13_alongBridge_30 : decode cX13_alongBridge 30 = .ok (.getfield 1282, 3) := by decide +kernel
theorem dX13_alongBridge_33 : decode cX13_alongBridge 33 = .ok (.iload_n 3, 1) := by decide +kernel
theorem dX13_alongBridge_34 : decode cX13_alongBridge 34 = .ok (.iload 5, 2) := by decide +kernel
theorem dX13_alongBridge_36 : decode cX13_alongBridge 36 = .ok (.iadd, 1) := by decide +kernel
theorem dX13_alongBridge_37 : decode cX13_alongBridge 37 = .ok (.iaload, 1) := by decide +kernel
theorem dX13_alongBridge_38 : decode cX13_alongBridge 38 = .ok (.iastore, 1) := by decide +kernel
theorem dX13_alongBridge_39 : decode cX13_alongBridge 39 = .ok (.iinc 5 1, 3) := by decide +kernel
theorem dX13_alongBridge_42 : decode cX13_alongBridge 42 = .ok (.goto (-33), 3) := by decide +kernel
theorem dX13_alongBridge_45 : decode cX13_alongBridge 45 = .ok (.aload_n 0, 1) := by decide +kernel
theorem dX13_alongBridge_46 : decode cX13_alongBridge 46 = .ok (.iload 4, 2) := by decide +kernel
theorem dX13_alongBridge_48 : decode cX13_alongBridge 48 = .ok (.aload_n 0, 1) := by decide +kernel
theorem dX13_alongBridge_49 : decode cX13_alongBridge 49 = .ok (.getfield 362, 3) := by decide +kernel
theorem dX13_alongBridge_52 : decode cX13_alongBridge 52 = .ok (.iload_n 1, 1) := by decide +kernel
theorem dX13_alongBridge_53 : decode cX13_alongBridge 53 = .ok (.iaload, 1) := by decide +kernel
theorem dX13_alongBridge_54 : decode cX13_alongBridge 54 = .ok (.iadd, 1) := by decide +kernel
theorem dX13_alongBridge_55 : decode cX13_alongBridge 55 = .ok (.putfield 1248, 3) := by decide +kernel
theorem dX13_alongBridge_58 : decode cX13_alongBridge 58 = .ok (.aload_n 0, 1) := by decide +kernel
theorem dX13_alongBridge_59 : decode cX13_alongBridge 59 = .ok (.aload_n 0, 1) := by decide +kernel
theorem dX13_alongBridge_60 : decode cX13_alongBridge 60 = .ok (.getfield 386, 3) := by decide +kernel
theorem dX13_alongBridge_63 : decode cX13_alongBridge 63 = .ok (.iload_n 1, 1) := by decide +kernel
theorem dX13_alongBridge_64 : decode cX13_alongBridge 64 = .ok (.iaload, 1) := by decide +kernel
theorem dX13_alongBridge_65 : decode cX13_alongBridge 65 = .ok (.iload_n 2, 1) := by decide +kernel
theorem dX13_alongBridge_66 : decode cX13_alongBridge 66 = .ok (.iload 4, 2) := by decide +kernel
theorem dX13_alongBridge_68 : decode cX13_alongBridge 68 = .ok (.invokevirtual 1285, 3) := by decide +kernel
theorem dX13_alongBridge_71 : decode cX13_alongBridge 71 = .ok (.ireturn, 1) := by decide +kernel
theorem dX13_callBy_0 : decode cX13_callBy 0 = .ok (.aload_n 0, 1) := by decide +kernel
theorem dX13_callBy_1 : decode cX13_callBy 1 = .ok (.iload_n 1, 1) := by decide +kernel
theorem dX13_callBy_2 : decode cX13_callBy 2 = .ok (.invokevirtual 1288, 3) := by decide +kernel
theorem dX13_callBy_5 : decode cX13_callBy 5 = .ok (.ifCond .ne 5, 3) := by decide +kernel
theorem dX13_callBy_8 : decode cX13_callBy 8 = .ok (.iconst 0, 1) := by decide +kernel
theorem dX13_callBy_9 : decode cX13_callBy 9 = .ok (.ireturn, 1) := by decide +kernel
theorem dX13_callBy_10 : decode cX13_callBy 10 = .ok (.aload_n 0, 1) := by decide +kernel
theorem dX13_callBy_11 : decode cX13_callBy 11 = .ok (.getfield 1124, 3) := by decide +kernel
theorem dX13_callBy_14 : decode cX13_callBy 14 = .ok (.istore 4, 2) := by decide +kernel
theorem dX13_callBy_16 : decode cX13_callBy 16 = .ok (.aload_n 0, 1) := by decide +kernel
theorem dX13_callBy_17 : decode cX13_callBy 17 = .ok (.getfield 866, 3) := by decide +kernel
theorem dX13_callBy_20 : decode cX13_callBy 20 = .ok (.iload_n 1, 1) := by decide +kernel
theorem dX13_callBy_21 : decode cX13_callBy 21 = .ok (.iaload, 1) := by decide +kernel
theorem dX13_callBy_22 : decode cX13_callBy 22 = .ok (.istore 5, 2) := by decide +kernel
theorem dX13_callBy_24 : decode cX13_callBy 24 = .ok (.iload 5, 2) := by decide +kernel
theorem dX13_callBy_26 : decode cX13_callBy 26 = .ok (.bipush 9, 2) := by decide +kernel
theorem dX13_callBy_28 : decode cX13_callBy 28 = .ok (.if_icmp .lt 33, 3) := by decide +kernel
theorem dX13_callBy_31 : decode cX13_callBy 31 = .ok (.aload_n 0, 1) := by decide +kernel
theorem dX13_callBy_32 : decode cX13_callBy 32 = .ok (.aload_n 0, 1) := by decide +kernel
theorem dX13_callBy_33 : decode cX13_callBy 33 = .ok (.iload 4, 2) := by decide +kernel
theorem dX13_callBy_35 : decode cX13_callBy 35 = .ok (.invokevirtual 599, 3) := by decide +kernel
theorem dX13_callBy_38 : decode cX13_callBy 38 = .ok (.invokevirtual 1222, 3) := by decide +kernel
theorem dX13_callBy_41 : decode cX13_callBy 41 = .ok (.aload_n 0, 1) := by decide +kernel
theorem dX13_callBy_42 : decode cX13_callBy 42 = .ok (.getfield 1207, 3) := by decide +kernel
theorem dX13_callBy_45 : decode cX13_callBy 45 = .ok (.ifCond .ne 14, 3) := by decide +kernel
theorem dX13_callBy_48 : decode cX13_callBy 48 = .ok (.aload_n 0, 1) := by decide +kernel
theorem dX13_callBy_49 : decode cX13_callBy 49 = .ok (.iload 4, 2) := by decide +kernel
theorem dX13_callBy_51 : decode cX13_callBy 51 = .ok (.iconst 0, 1) := by decide +kernel
theorem dX13_callBy_52 : decode cX13_callBy 52 = .ok (.iload_n 3, 1) := by decide +kernel
theorem dX13_callBy_53 : decode cX13_callBy 53 = .ok (.invokevirtual 1291, 3) := by decide +kernel
theorem dX13_callBy_56 : decode cX13_callBy 56 = .ok (.goto 4, 3) := by decide +kernel
theorem dX13_callBy_59 : decode cX13_callBy 59 = .ok (.iconst 0, 1) := by decide +kernel
theorem dX13_callBy_60 : decode cX13_callBy 60 = .ok (.ireturn, 1) := by decide +kernel
theorem dX13_callBy_61 : decode cX13_callBy 61 = .ok (.iload_n 2, 1) := by decide +kernel
theorem dX13_callBy_62 : decode cX13_callBy 62 = .ok (.ifCond .ne 10, 3) := by decide +kernel
theorem dX13_callBy_65 : decode cX13_callBy 65 = .ok (.aload_n 0, 1) := by decide +kernel
theorem dX13_callBy_66 : decode cX13_callBy 66 = .ok (.bipush 13, 2) := by decide +kernel
theorem dX13_callBy_68 : decode cX13_callBy 68 = .ok (.invokevirtual 1213, 3) := by decide +kernel
theorem dX13_callBy_71 : decode cX13_callBy 71 = .ok (.ireturn, 1) := by decide +kernel
theorem dX13_callBy_72 : decode cX13_callBy 72 = .ok (.aload_n 0, 1) := by decide +kernel
theorem dX13_callBy_73 : decode cX13_callBy 73 = .ok (.getfield 1216, 3) := by decide +kernel
theorem dX13_callBy_76 : decode cX13_callBy 76 = .ok (.iload_n 2, 1) := by decide +kernel
theorem dX13_callBy_77 : decode cX13_callBy 77 = .ok (.iaload, 1) := by decide +kernel
theorem dX13_callBy_78 : decode cX13_callBy 78 = .ok (.istore 6, 2) := by decide +kernel
theorem dX13_callBy_80 : decode cX13_callBy 80 = .ok (.aload_n 0, 1) := by decide +kernel
theorem dX13_callBy_81 : decode cX13_callBy 81 = .ok (.aload_n 0, 1) := by decide +kernel
theorem dX13_callBy_82 : decode cX13_callBy 82 = .ok (.getfield 872, 3) := by decide +kernel
theorem dX13_callBy_85 : decode cX13_callBy 85 = .ok (.iload_n 1, 1) := by decide +kernel
theorem dX13_callBy_86 : decode cX13_callBy 86 = .ok (.laload, 1) := by decide +kernel
theorem dX13_callBy_87 : decode cX13_callBy 87 = .ok (.invokevirtual 551, 3) := by decide +kernel
theorem dX13_callBy_90 : decode cX13_callBy 90 = .ok (.istore 7, 2) := by decide +kernel
theorem dX13_callBy_92 : decode cX13_callBy 92 = .ok (.iload 5, 2) := by decide +kernel
theorem dX13_callBy_94 : decode cX13_callBy 94 = .ok (.bipush 8, 2) := by decide +kernel
theorem dX13_callBy_96 : decode cX13_callBy 96 = .ok (.if_icmp .ne 27, 3) := by decide +kernel
theorem dX13_callBy_99 : decode cX13_callBy 99 = .ok (.iload 6, 2) := by decide +kernel
theorem dX13_callBy_101 : decode cX13_callBy 101 = .ok (.iload 7, 2) := by decide +kernel
theorem dX13_callBy_103 : decode cX13_callBy 103 = .ok (.if_icmp .eq 20, 3) := by decide +kernel
theorem dX13_callBy_106 : decode cX13_callBy 106 = .ok (.aload_n 0, 1) := by decide +kernel
theorem dX13_callBy_107 : decode cX13_callBy 107 = .ok (.iload 6, 2) := by decide +kernel
theorem dX13_callBy_109 : decode cX13_callBy 109 = .ok (.iload 7, 2) := by decide +kernel
theorem dX13_callBy_111 : decode cX13_callBy 111 = .ok (.invokevirtual 581, 3) := by decide +kernel
theorem dX13_callBy_114 : decode cX13_callBy 114 = .ok (.ifCond .ne 9, 3) := by decide +kernel
theorem dX13_callBy_117 : decode cX13_callBy 117 = .ok (.aload_n 0, 1) := by decide +kernel
theorem dX13_callBy_118 : decode cX13_callBy 118 = .ok (.iconst 3, 1) := by decide +kernel
theorem dX13_callBy_119 : decode cX13_callBy 119 = .ok (.invokevirtual 1213, 3) := by decide +kernel
theorem dX13_callBy_122 : decode cX13_callBy 122 = .ok (.ireturn, 1) := by decide +kernel
theorem dX13_callBy_123 : decode cX13_callBy 123 = .ok (.aload_n 0, 1) := by decide +kernel
theorem dX13_callBy_124 : decode cX13_callBy 124 = .ok (.iload 4, 2) := by decide +kernel
theorem dX13_callBy_126 : decode cX13_callBy 126 = .ok (.iload 6, 2) := by decide +kernel
theorem dX13_callBy_128 : decode cX13_callBy 128 = .ok (.invokevirtual 711, 3) := by decide +kernel
theorem dX13_callBy_131 : decode cX13_callBy 131 = .ok (.istore 8, 2) := by decide +kernel
theorem dX13_callBy_133 : decode cX13_callBy 133 = .ok (.iload 8, 2) := by decide +kernel
theorem dX13_callBy_135 : decode cX13_callBy 135 = .ok (.ifCond .ge 11, 3) := by decide +kernel
theorem dX13_callBy_138 : decode cX13_callBy 138 = .ok (.aload_n 0, 1) := by decide +kernel
theorem dX13_callBy_139 : decode cX13_callBy 139 = .ok (.iload 8, 2) := by decide +kernel
theorem dX13_callBy_141 : decode cX13_callBy 141 = .ok (.ineg, 1) := by decide +kernel
theorem dX13_callBy_142 : decode cX13_callBy 142 = .ok (.invokevirtual 1213, 3) := by decide +kernel
theorem dX13_callBy_145 : decode cX13_callBy 145 = .ok (.ireturn, 1) := by decide +kernel
theorem dX13_callBy_146 : decode cX13_callBy 146 = .ok (.iload 5, 2) := by decide +kernel
theorem dX13_callBy_148 : decode cX13_callBy 148 = .ok (.bipush 8, 2) := by decide +kernel
theorem dX13_callBy_150 : decode cX13_callBy 150 = .ok (.if_icmp .ne 30, 3) := by decide +kernel
theorem dX13_callBy_153 : decode cX13_callBy 153 = .ok (.aload_n 0, 1) := by decide +kernel
theorem dX13_callBy_154 : decode cX13_callBy 154 = .ok (.getfield 433, 3) := by decide +kernel
theorem dX13_callBy_157 : decode cX13_callBy 157 = .ok (.iload 8, 2) := by decide +kernel
theorem dX13_callBy_159 : decode cX13_callBy 159 = .ok (.iaload, 1) := by decide +kernel
theorem dX13_callBy_160 : decode cX13_callBy 160 = .ok (.iconst 3, 1) := by decide +kernel
theorem dX13_callBy_161 : decode cX13_callBy 161 = .ok (.if_icmp .eq 19, 3) := by decide +kernel
theorem dX13_callBy_164 : decode cX13_callBy 164 = .ok (.aload_n 0, 1) := by decide +kernel
theorem dX13_callBy_165 : decode cX13_callBy 165 = .ok (.getfield 433, 3) := by decide +kernel
theorem dX13_callBy_168 : decode cX13_callBy 168 = .ok (.iload 8, 2) := by decide +kernel
theorem dX13_callBy_170 : decode cX13_callBy 170 = .ok (.iaload, 1) := by decide +kernel
theorem dX13_callBy_171 : decode cX13_callBy 171 = .ok (.ifCond .eq 9, 3) := by decide +kernel
theorem dX13_callBy_174 : decode cX13_callBy 174 = .ok (.aload_n 0, 1) := by decide +kernel
theorem dX13_callBy_175 : decode cX13_callBy 175 = .ok (.iconst 2, 1) := by decide +kernel
theorem dX13_callBy_176 : decode cX13_callBy 176 = .ok (.invokevirtual 1213, 3) := by decide +kernel
theorem dX13_callBy_179 : decode cX13_callBy 179 = .ok (.ireturn, 1) := by decide +kernel
theorem dX13_callBy_180 : decode cX13_callBy 180 = .ok (.aload_n 0, 1) := by decide +kernel
theorem dX13_callBy_181 : decode cX13_callBy 181 = .ok (.iload 8, 2) := by decide +kernel
theorem dX13_callBy_183 : decode cX13_callBy 183 = .ok (.iload_n 2, 1) := by decide +kernel
theorem dX13_callBy_184 : decode cX13_callBy 184 = .ok (.iload_n 3, 1) := by decide +kernel
theorem dX13_callBy_185 : decode cX13_callBy 185 = .ok (.invokevirtual 1291, 3) := by decide +kernel
theorem dX13_callBy_188 : decode cX13_callBy 188 = .ok (.ireturn, 1) := by decide +kernel
theorem dX13_runMaker_0 : decode cX13_runMaker 0 = .ok (.aload_n 0, 1) := by decide +kernel
theorem dX13_runMaker_1 : decode cX13_runMaker 1 = .ok (.iload_n 1, 1) := by decide +kernel
theorem dX13_runMaker_2 : decode cX13_runMaker 2 = .ok (.invokevirtual 599, 3) := by decide +kernel
theorem dX13_runMaker_5 : decode cX13_runMaker 5 = .ok (.istore 4, 2) := by decide +kernel
theorem dX13_runMaker_7 : decode cX13_runMaker 7 = .ok (.aload_n 0, 1) := by decide +kernel
theorem dX13_runMaker_8 : decode cX13_runMaker 8 = .ok (.getfield 368, 3) := by decide +kernel
theorem dX13_runMaker_11 : decode cX13_runMaker 11 = .ok (.iload_n 1, 1) := by decide +kernel
theorem dX13_runMaker_12 : decode cX13_runMaker 12 = .ok (.iaload, 1) := by decide +kernel
theorem dX13_runMaker_13 : decode cX13_runMaker 13 = .ok (.bipush (-2), 2) := by decide +kernel
theorem dX13_runMaker_15 : decode cX13_runMaker 15 = .ok (.if_icmp .ne 8, 3) := by decide +kernel
theorem dX13_runMaker_18 : decode cX13_runMaker 18 = .ok (.bipush (-2), 2) := by decide +kernel
theorem dX13_runMaker_20 : decode cX13_runMaker 20 = .ok (.goto 14, 3) := by decide +kernel
theorem dX13_runMaker_23 : decode cX13_runMaker 23 = .ok (.aload_n 0, 1) := by decide +kernel
theorem dX13_runMaker_24 : decode cX13_runMaker 24 = .ok (.getfield 194, 3) := by decide +kernel
theorem dX13_runMaker_27 : decode cX13_runMaker 27 = .ok (.aload_n 0, 1) := by decide +kernel
theorem dX13_runMaker_28 : decode cX13_runMaker 28 = .ok (.getfield 368, 3) := by decide +kernel
theorem dX13_runMaker_31 : decode cX13_runMaker 31 = .ok (.iload_n 1, 1) := by decide +kernel
theorem dX13_runMaker_32 : decode cX13_runMaker 32 = .ok (.iaload, 1) := by decide +kernel
theorem dX13_runMaker_33 : decode cX13_runMaker 33 = .ok (.iaload, 1) := by decide +kernel
theorem dX13_runMaker_34 : decode cX13_runMaker 34 = .ok (.istore 5, 2) := by decide +kernel
theorem dX13_runMaker_36 : decode cX13_runMaker 36 = .ok (.iload 5, 2) := by decide +kernel
theorem dX13_runMaker_38 : decode cX13_runMaker 38 = .ok (.bipush (-2), 2) := by decide +kernel
theorem dX13_runMaker_40 : decode cX13_runMaker 40 = .ok (.if_icmp .eq 37, 3) := by decide +kernel
theorem dX13_runMaker_43 : decode cX13_runMaker 43 = .ok (.aload_n 0, 1) := by decide +kernel
theorem dX13_runMaker_44 : decode cX13_runMaker 44 = .ok (.getfield 173, 3) := by decide +kernel
theorem dX13_runMaker_47 : decode cX13_runMaker 47 = .ok (.iload 5, 2) := by decide +kernel
theorem dX13_runMaker_49 : decode cX13_runMaker 49 = .ok (.iaload, 1) := by decide +kernel
theorem dX13_runMaker_50 : decode cX13_runMaker 50 = .ok (.bipush 28, 2) := by decide +kernel
theorem dX13_runMaker_52 : decode cX13_runMaker 52 = .ok (.if_icmp .ne 25, 3) := by decide +kernel
theorem dX13_runMaker_55 : decode cX13_runMaker 55 = .ok (.aload_n 0, 1) := by decide +kernel
theorem dX13_runMaker_56 : decode cX13_runMaker 56 = .ok (.iload 5, 2) := by decide +kernel
theorem dX13_runMaker_58 : decode cX13_runMaker 58 = .ok (.iload 4, 2) := by decide +kernel
theorem dX13_runMaker_60 : decode cX13_runMaker 60 = .ok (.iload_n 2, 1) := by decide +kernel
theorem dX13_runMaker_61 : decode cX13_runMaker 61 = .ok (.iload_n 3, 1) := by decide +kernel
theorem dX13_runMaker_62 : decode cX13_runMaker 62 = .ok (.invokevirtual 1255, 3) := by decide +kernel
theorem dX13_runMaker_65 : decode cX13_runMaker 65 = .ok (.aload_n 0, 1) := by decide +kernel
theorem dX13_runMaker_66 : decode cX13_runMaker 66 = .ok (.getfield 203, 3) := by decide +kernel
theorem dX13_runMaker_69 : decode cX13_runMaker 69 = .ok (.iload 5, 2) := by decide +kernel
theorem dX13_runMaker_71 : decode cX13_runMaker 71 = .ok (.iaload, 1) := by decide +kernel
theorem dX13_runMaker_72 : decode cX13_runMaker 72 = .ok (.istore 5, 2) := by decide +kernel
theorem dX13_runMaker_74 : decode cX13_runMaker 74 = .ok (.goto 41, 3) := by decide +kernel
theorem dX13_runMaker_77 : decode cX13_runMaker 77 = .ok (.aload_n 0, 1) := by decide +kernel
theorem dX13_runMaker_78 : decode cX13_runMaker 78 = .ok (.getfield 386, 3) := by decide +kernel
theorem dX13_runMaker_81 : decode cX13_runMaker 81 = .ok (.iload_n 1, 1) := by decide +kernel
theorem dX13_runMaker_82 : decode cX13_runMaker 82 = .ok (.iaload, 1) := by decide +kernel
theorem dX13_runMaker_83 : decode cX13_runMaker 83 = .ok (.bipush (-2), 2) := by decide +kernel
theorem dX13_runMaker_85 : decode cX13_runMaker 85 = .ok (.if_icmp .eq 30, 3) := by decide +kernel
theorem dX13_runMaker_88 : decode cX13_runMaker 88 = .ok (.aload_n 0, 1) := by decide +kernel
theorem dX13_runMaker_89 : decode cX13_runMaker 89 = .ok (.aload_n 0, 1) := by decide +kernel
theorem dX13_runMaker_90 : decode cX13_runMaker 90 = .ok (.getfield 386, 3) := by decide +kernel
theorem dX13_runMaker_93 : decode cX13_runMaker 93 = .ok (.iload_n 1, 1) := by decide +kernel
theorem dX13_runMaker_94 : decode cX13_runMaker 94 = .ok (.iaload, 1) := by decide +kernel
theorem dX13_runMaker_95 : decode cX13_runMaker 95 = .ok (.invokevirtual 1288, 3) := by decide +kernel
theorem dX13_runMaker_98 : decode cX13_runMaker 98 = .ok (.ifCond .eq 17, 3) := by decide +kernel
theorem dX13_runMaker_101 : decode cX13_runMaker 101 = .ok (.aload_n 0, 1) := by decide +kernel
theorem dX13_runMaker_102 : decode cX13_runMaker 102 = .ok (.aload_n 0, 1) := by decide +kernel
theorem dX13_runMaker_103 : decode cX13_runMaker 103 = .ok (.getfield 1124, 3) := by decide +kernel
theorem dX13_runMaker_106 : decode cX13_runMaker 106 = .ok (.iload_n 2, 1) := by decide +kernel
theorem dX13_runMaker_107 : decode cX13_runMaker 107 = .ok (.aload_n 0, 1) := by decide +kernel
theorem dX13_runMaker_108 : decode cX13_runMaker 108 = .ok (.getfield 1248, 3) := by decide +kernel
theorem dX13_runMaker_111 : decode cX13_runMaker 111 = .ok (.invokevirtual 1291, 3) := by decide +kernel
theorem dX13_runMaker_114 : decode cX13_runMaker 114 = .ok (.pop, 1) := by decide +kernel
theorem dX13_runMaker_115 : decode cX13_runMaker 115 = .ok (.iconst 0, 1) := by decide +kernel
theorem dX13_runMaker_116 : decode cX13_runMaker 116 = .ok (.istore 6, 2) := by decide +kernel
theorem dX13_runMaker_118 : decode cX13_runMaker 118 = .ok (.iload 6, 2) := by decide +kernel
theorem dX13_runMaker_120 : decode cX13_runMaker 120 = .ok (.aload_n 0, 1) := by decide +kernel
theorem dX13_runMaker_121 : decode cX13_runMaker 121 = .ok (.getfield 275, 3) := by decide +kernel
theorem dX13_runMaker_124 : decode cX13_runMaker 124 = .ok (.iload 4, 2) := by decide +kernel
theorem dX13_runMaker_126 : decode cX13_runMaker 126 = .ok (.iaload, 1) := by decide +kernel
theorem dX13_runMaker_127 : decode cX13_runMaker 127 = .ok (.if_icmp .ge 96, 3) := by decide +kernel
theorem dX13_runMaker_130 : decode cX13_runMaker 130 = .ok (.aload_n 0, 1) := by decide +kernel
theorem dX13_runMaker_131 : decode cX13_runMaker 131 = .ok (.getfield 1207, 3) := by decide +kernel
theorem dX13_runMaker_134 : decode cX13_runMaker 134 = .ok (.ifCond .ne 89, 3) := by decide +kernel
theorem dX13_runMaker_137 : decode cX13_runMaker 137 = .ok (.iload 4, 2) := by decide +kernel
theorem dX13_runMaker_139 : decode cX13_runMaker 139 = .ok (.bipush 34, 2) := by decide +kernel
theorem dX13_runMaker_141 : decode cX13_runMaker 141 = .ok (.imul, 1) := by decide +kernel
theorem dX13_runMaker_142 : decode cX13_runMaker 142 = .ok (.iload 6, 2) := by decide +kernel
theorem dX13_runMaker_144 : decode cX13_runMaker 144 = .ok (.iadd, 1) := by decide +kernel
theorem dX13_runMaker_145 : decode cX13_runMaker 145 = .ok (.istore 7, 2) := by decide +kernel
theorem dX13_runMaker_147 : decode cX13_runMaker 147 = .ok (.aload_n 0, 1) := by decide +kernel
theorem dX13_runMaker_148 : decode cX13_runMaker 148 = .ok (.getfield 402, 3) := by decide +kernel
theorem dX13_runMaker_151 : decode cX13_runMaker 151 = .ok (.iload 7, 2) := by decide +kernel
theorem dX13_runMaker_153 : decode cX13_runMaker 153 = .ok (.iaload, 1) := by decide +kernel
theorem dX13_runMaker_154 : decode cX13_runMaker 154 = .ok (.ifCond .ne 63, 3) := by decide +kernel
theorem dX13_runMaker_157 : decode cX13_runMaker 157 = .ok (.aload_n 0, 1) := by decide +kernel
theorem dX13_runMaker_158 : decode cX13_runMaker 158 = .ok (.getfield 341, 3) := by decide +kernel
theorem dX13_runMaker_161 : decode cX13_runMaker 161 = .ok (.iload 7, 2) := by decide +kernel
theorem dX13_runMaker_163 : decode cX13_runMaker 163 = .ok (.baload, 1) := by decide +kernel
theorem dX13_runMaker_164 : decode cX13_runMaker 164 = .ok (.ifCond .ne 53, 3) := by decide +kernel
theorem dX13_runMaker_167 : decode cX13_runMaker 167 = .ok (.aload_n 0, 1) := by decide +kernel
theorem dX13_runMaker_168 : decode cX13_runMaker 168 = .ok (.getfield 365, 3) := by decide +kernel
theorem dX13_runMaker_171 : decode cX13_runMaker 171 = .ok (.iload 7, 2) := by decide +kernel
theorem dX13_runMaker_173 : decode cX13_runMaker 173 = .ok (.iaload, 1) := by decide +kernel
theorem dX13_runMaker_174 : decode cX13_runMaker 174 = .ok (.bipush (-2), 2) := by decide +kernel
theorem dX13_runMaker_176 : decode cX13_runMaker 176 = .ok (.if_icmp .eq 41, 3) := by decide +kernel
theorem dX13_runMaker_179 : decode cX13_runMaker 179 = .ok (.aload_n 0, 1) := by decide +kernel
theorem dX13_runMaker_180 : decode cX13_runMaker 180 = .ok (.aload_n 0, 1) := by decide +kernel
theorem dX13_runMaker_181 : decode cX13_runMaker 181 = .ok (.getfield 365, 3) := by decide +kernel
theorem dX13_runMaker_184 : decode cX13_runMaker 184 = .ok (.iload 7, 2) := by decide +kernel
theorem dX13_runMaker_186 : decode cX13_runMaker 186 = .ok (.iaload, 1) := by decide +kernel
theorem dX13_runMaker_187 : decode cX13_runMaker 187 = .ok (.iload 4, 2) := by decide +kernel
theorem dX13_runMaker_189 : decode cX13_runMaker 189 = .ok (.iload_n 2, 1) := by decide +kernel
theorem dX13_runMaker_190 : decode cX13_runMaker 190 = .ok (.iload_n 3, 1) := by decide +kernel
theorem dX13_runMaker_191 : decode cX13_runMaker 191 = .ok (.invokevirtual 1251, 3) := by decide +kernel
theorem dX13_runMaker_194 : decode cX13_runMaker 194 = .ok (.istore 8, 2) := by decide +kernel
theorem dX13_runMaker_196 : decode cX13_runMaker 196 = .ok (.aload_n 0, 1) := by decide +kernel
theorem dX13_runMaker_197 : decode cX13_runMaker 197 = .ok (.getfield 1207, 3) := by decide +kernel
theorem dX13_runMaker_200 : decode cX13_runMaker 200 = .ok (.ifCond .ne 17, 3) := by decide +kernel
theorem dX13_runMaker_203 : decode cX13_runMaker 203 = .ok (.aload_n 0, 1) := by decide +kernel
theorem dX13_runMaker_204 : decode cX13_runMaker 204 = .ok (.getfield 1265, 3) := by decide +kernel
theorem dX13_runMaker_207 : decode cX13_runMaker 207 = .ok (.aload_n 0, 1) := by decide +kernel
theorem dX13_runMaker_208 : decode cX13_runMaker 208 = .ok (.iload_n 2, 1) := by decide +kernel
theorem dX13_runMaker_209 : decode cX13_runMaker 209 = .ok (.iload 7, 2) := by decide +kernel
theorem dX13_runMaker_211 : decode cX13_runMaker 211 = .ok (.invokevirtual 1294, 3) := by decide +kernel
theorem dX13_runMaker_214 : decode cX13_runMaker 214 = .ok (.iload 8, 2) := by decide +kernel
theorem dX13_runMaker_216 : decode cX13_runMaker 216 = .ok (.iastore, 1) := by decide +kernel
theorem dX13_runMaker_217 : decode cX13_runMaker 217 = .ok (.iinc 6 1, 3) := by decide +kernel
theorem dX13_runMaker_220 : decode cX13_runMaker 220 = .ok (.goto (-102), 3) := by decide +kernel
theorem dX13_runMaker_223 : decode cX13_runMaker 223 = .ok (.iload 5, 2) := by decide +kernel
theorem dX13_runMaker_225 : decode cX13_runMaker 225 = .ok (.bipush (-2), 2) := by decide +kernel
theorem dX13_runMaker_227 : decode cX13_runMaker 227 = .ok (.if_icmp .eq 32, 3) := by decide +kernel
theorem dX13_runMaker_230 : decode cX13_runMaker 230 = .ok (.aload_n 0, 1) := by decide +kernel
theorem dX13_runMaker_231 : decode cX13_runMaker 231 = .ok (.getfield 1207, 3) := by decide +kernel
theorem dX13_runMaker_234 : decode cX13_runMaker 234 = .ok (.ifCond .ne 25, 3) := by decide +kernel
theorem dX13_runMaker_237 : decode cX13_runMaker 237 = .ok (.aload_n 0, 1) := by decide +kernel
theorem dX13_runMaker_238 : decode cX13_runMaker 238 = .ok (.iload 5, 2) := by decide +kernel
theorem dX13_runMaker_240 : decode cX13_runMaker 240 = .ok (.iload 4, 2) := by decide +kernel
theorem dX13_runMaker_242 : decode cX13_runMaker 242 = .ok (.iload_n 2, 1) := by decide +kernel
theorem dX13_runMaker_243 : decode cX13_runMaker 243 = .ok (.iload_n 3, 1) := by decide +kernel
theorem dX13_runMaker_244 : decode cX13_runMaker 244 = .ok (.invokevirtual 1255, 3) := by decide +kernel
theorem dX13_runMaker_247 : decode cX13_runMaker 247 = .ok (.aload_n 0, 1) := by decide +kernel
theorem dX13_runMaker_248 : decode cX13_runMaker 248 = .ok (.getfield 203, 3) := by decide +kernel
theorem dX13_runMaker_251 : decode cX13_runMaker 251 = .ok (.iload 5, 2) := by decide +kernel
theorem dX13_runMaker_253 : decode cX13_runMaker 253 = .ok (.iaload, 1) := by decide +kernel
theorem dX13_runMaker_254 : decode cX13_runMaker 254 = .ok (.istore 5, 2) := by decide +kernel
theorem dX13_runMaker_256 : decode cX13_runMaker 256 = .ok (.goto (-33), 3) := by decide +kernel
theorem dX13_runMaker_259 : decode cX13_runMaker 259 = .ok (.return_, 1) := by decide +kernel
theorem dX13_push_0 : decode cX13_push 0 = .ok (.aload_n 0, 1) := by decide +kernel
theorem dX13_push_1 : decode cX13_push 1 = .ok (.getfield 1297, 3) := by decide +kernel
theorem dX13_push_4 : decode cX13_push 4 = .ok (.aload_n 0, 1) := by decide +kernel
theorem dX13_push_5 : decode cX13_push 5 = .ok (.getfield 1300, 3) := by decide +kernel
theorem dX13_push_8 : decode cX13_push 8 = .ok (.iload_n 1, 1) := by decide +kernel
theorem dX13_push_9 : decode cX13_push 9 = .ok (.iastore, 1) := by decide +kernel
theorem dX13_push_10 : decode cX13_push 10 = .ok (.aload_n 0, 1) := by decide +kernel
theorem dX13_push_11 : decode cX13_push 11 = .ok (.getfield 1303, 3) := by decide +kernel
theorem dX13_push_14 : decode cX13_push 14 = .ok (.aload_n 0, 1) := by decide +kernel
theorem dX13_push_15 : decode cX13_push 15 = .ok (.getfield 1300, 3) := by decide +kernel
theorem dX13_push_18 : decode cX13_push 18 = .ok (.iconst 0, 1) := by decide +kernel
theorem dX13_push_19 : decode cX13_push 19 = .ok (.iastore, 1) := by decide +kernel
theorem dX13_push_20 : decode cX13_push 20 = .ok (.aload_n 0, 1) := by decide +kernel
theorem dX13_push_21 : decode cX13_push 21 = .ok (.getfield 1306, 3) := by decide +kernel
theorem dX13_push_24 : decode cX13_push 24 = .ok (.aload_n 0, 1) := by decide +kernel
theorem dX13_push_25 : decode cX13_push 25 = .ok (.getfield 1300, 3) := by decide +kernel
theorem dX13_push_28 : decode cX13_push 28 = .ok (.bipush (-2), 2) := by decide +kernel
theorem dX13_push_30 : decode cX13_push 30 = .ok (.iastore, 1) := by decide +kernel
theorem dX13_push_31 : decode cX13_push 31 = .ok (.aload_n 0, 1) := by decide +kernel
theorem dX13_push_32 : decode cX13_push 32 = .ok (.dup, 1) := by decide +kernel
theorem dX13_push_33 : decode cX13_push 33 = .ok (.getfield 1300, 3) := by decide +kernel
theorem dX13_push_36 : decode cX13_push 36 = .ok (.iconst 1, 1) := by decide +kernel
theorem dX13_push_37 : decode cX13_push 37 = .ok (.iadd, 1) := by decide +kernel
theorem dX13_push_38 : decode cX13_push 38 = .ok (.putfield 1300, 3) := by decide +kernel
theorem dX13_push_41 : decode cX13_push 41 = .ok (.return_, 1) := by decide +kernel
theorem dX13_eval_0 : decode cX13_eval 0 = .ok (.aload_n 0, 1) := by decide +kernel
theorem dX13_eval_1 : decode cX13_eval 1 = .ok (.getfield 1300, 3) := by decide +kernel
theorem dX13_eval_4 : decode cX13_eval 4 = .ok (.istore 5, 2) := by decide +kernel
theorem dX13_eval_6 : decode cX13_eval 6 = .ok (.iconst 0, 1) := by decide +kernel
theorem dX13_eval_7 : decode cX13_eval 7 = .ok (.istore 6, 2) := by decide +kernel
theorem dX13_eval_9 : decode cX13_eval 9 = .ok (.aload_n 0, 1) := by decide +kernel
theorem dX13_eval_10 : decode cX13_eval 10 = .ok (.iload_n 1, 1) := by decide +kernel
theorem dX13_eval_11 : decode cX13_eval 11 = .ok (.invokevirtual 1309, 3) := by decide +kernel
theorem dX13_eval_14 : decode cX13_eval 14 = .ok (.aload_n 0, 1) := by decide +kernel
theorem dX13_eval_15 : decode cX13_eval 15 = .ok (.getfield 1300, 3) := by decide +kernel
theorem dX13_eval_18 : decode cX13_eval 18 = .ok (.iload 5, 2) := by decide +kernel
theorem dX13_eval_20 : decode cX13_eval 20 = .ok (.if_icmp .le 85, 3) := by decide +kernel
theorem dX13_eval_23 : decode cX13_eval 23 = .ok (.aload_n 0, 1) := by decide +kernel
theorem dX13_eval_24 : decode cX13_eval 24 = .ok (.getfield 1300, 3) := by decide +kernel
theorem dX13_eval_27 : decode cX13_eval 27 = .ok (.iconst 1, 1) := by decide +kernel
theorem dX13_eval_28 : decode cX13_eval 28 = .ok (.isub, 1) := by decide +kernel
theorem dX13_eval_29 : decode cX13_eval 29 = .ok (.istore 7, 2) := by decide +kernel
theorem dX13_eval_31 : decode cX13_eval 31 = .ok (.aload_n 0, 1) := by decide +kernel
theorem dX13_eval_32 : decode cX13_eval 32 = .ok (.getfield 1207, 3) := by decide +kernel
theorem dX13_eval_35 : decode cX13_eval 35 = .ok (.ifCond .ne 27, 3) := by decide +kernel
theorem dX13_eval_38 : decode cX13_eval 38 = .ok (.aload_n 0, 1) := by decide +kernel
theorem dX13_eval_39 : decode cX13_eval 39 = .ok (.iload 7, 2) := by decide +kernel
theorem dX13_eval_41 : decode cX13_eval 41 = .ok (.aload_n 0, 1) := by decide +kernel
theorem dX13_eval_42 : decode cX13_eval 42 = .ok (.getfield 1297, 3) := by decide +kernel
theorem dX13_eval_45 : decode cX13_eval 45 = .ok (.iload 7, 2) := by decide +kernel
theorem dX13_eval_47 : decode cX13_eval 47 = .ok (.iaload, 1) := by decide +kernel
theorem dX13_eval_48 : decode cX13_eval 48 = .ok (.iload 6, 2) := by decide +kernel
theorem dX13_eval_50 : decode cX13_eval 50 = .ok (.iload_n 2, 1) := by decide +kernel
theorem dX13_eval_51 : decode cX13_eval 51 = .ok (.iload_n 3, 1) := by decide +kernel
theorem dX13_eval_52 : decode cX13_eval 52 = .ok (.iload 4, 2) := by decide +kernel
theorem dX13_eval_54 : decode cX13_eval 54 = .ok (.invokevirtual 1312, 3) := by decide +kernel
theorem dX13_eval_57 : decode cX13_eval 57 = .ok (.istore 6, 2) := by decide +kernel
theorem dX13_eval_59 : decode cX13_eval 59 = .ok (.goto 43, 3) := by decide +kernel
theorem dX13_eval_62 : decode cX13_eval 62 = .ok (.aload_n 0, 1) := by decide +kernel
theorem dX13_eval_63 : decode cX13_eval 63 = .ok (.aload_n 0, 1) := by decide +kernel
theorem dX13_eval_64 : decode cX13_eval 64 = .ok (.getfield 1306, 3) := by decide +kernel
theorem dX13_eval_67 : decode cX13_eval 67 = .ok (.iload 7, 2) := by decide +kernel
theorem dX13_eval_69 : decode cX13_eval 69 = .ok (.iaload, 1) := by decide +kernel
theorem dX13_eval_70 : decode cX13_eval 70 = .ok (.bipush (-2), 2) := by decide +kernel
theorem dX13_eval_72 : decode cX13_eval 72 = .ok (.if_icmp .ne 10, 3) := by decide +kernel
theorem dX13_eval_75 : decode cX13_eval 75 = .ok (.aload_n 0, 1) := by decide +kernel
theorem dX13_eval_76 : decode cX13_eval 76 = .ok (.getfield 1248, 3) := by decide +kernel
theorem dX13_eval_79 : decode cX13_eval 79 = .ok (.goto 10, 3) := by decide +kernel
theorem dX13_eval_82 : decode cX13_eval 82 = .ok (.aload_n 0, 1) := by decide +kernel
theorem dX13_eval_83 : decode cX13_eval 83 = .ok (.getfield 1306, 3) := by decide +kernel
theorem dX13_eval_86 : decode cX13_eval 86 = .ok (.iload 7, 2) := by decide +kernel
theorem dX13_eval_88 : decode cX13_eval 88 = .ok (.iaload, 1) := by decide +kernel
theorem dX13_eval_89 : decode cX13_eval 89 = .ok (.putfield 1248, 3) := by decide +kernel
theorem dX13_eval_92 : decode cX13_eval 92 = .ok (.aload_n 0, 1) := by decide +kernel
theorem dX13_eval_93 : decode cX13_eval 93 = .ok (.dup, 1) := by decide +kernel
theorem dX13_eval_94 : decode cX13_eval 94 = .ok (.getfield 1300, 3) := by decide +kernel
theorem dX13_eval_97 : decode cX13_eval 97 = .ok (.iconst 1, 1) := by decide +kernel
theorem dX13_eval_98 : decode cX13_eval 98 = .ok (.isub, 1) := by decide +kernel
theorem dX13_eval_99 : decode cX13_eval 99 = .ok (.putfield 1300, 3) := by decide +kernel
theorem dX13_eval_102 : decode cX13_eval 102 = .ok (.goto (-88), 3) := by decide +kernel
theorem dX13_eval_105 : decode cX13_eval 105 = .ok (.iload 6, 2) := by decide +kernel
theorem dX13_eval_107 : decode cX13_eval 107 = .ok (.ireturn, 1) := by decide +kernel
theorem dX13_evalNode_0 : decode cX13_evalNode 0 = .ok (.aload_n 0, 1) := by decide +kernel
theorem dX13_evalNode_1 : decode cX13_evalNode 1 = .ok (.getfield 1303, 3) := by decide +kernel
theorem dX13_evalNode_4 : decode cX13_evalNode 4 = .ok (.iload_n 1, 1) := by decide +kernel
theorem dX13_evalNode_5 : decode cX13_evalNode 5 = .ok (.iaload, 1) := by decide +kernel
theorem dX13_evalNode_6 : decode cX13_evalNode 6 = .ok (.istore 7, 2) := by decide +kernel
theorem dX13_evalNode_8 : decode cX13_evalNode 8 = .ok (.aload_n 0, 1) := by decide +kernel
theorem dX13_evalNode_9 : decode cX13_evalNode 9 = .ok (.getfield 173, 3) := by decide +kernel
theorem dX13_evalNode_12 : decode cX13_evalNode 12 = .ok (.iload_n 2, 1) := by decide +kernel
theorem dX13_evalNode_13 : decode cX13_evalNode 13 = .ok (.iaload, 1) := by decide +kernel
theorem dX13_evalNode_14 : decode cX13_evalNode 14 = .ok (.tableswitch 393 0 14 #[74, 91, 103, 116, 393, 116, 393, 393, 393, 369, 223, 209, 223, 309, 223], 74) := by decide +kernel
theorem dX13_evalNode_88 : decode cX13_evalNode 88 = .ok (.aload_n 0, 1) := by decide +kernel
theorem dX13_evalNode_89 : decode cX13_evalNode 89 = .ok (.dup, 1) := by decide +kernel
theorem dX13_evalNode_90 : decode cX13_evalNode 90 = .ok (.getfield 1300, 3) := by decide +kernel
theorem dX13_evalNode_93 : decode cX13_evalNode 93 = .ok (.iconst 1, 1) := by decide +kernel
theorem dX13_evalNode_94 : decode cX13_evalNode 94 = .ok (.isub, 1) := by decide +kernel
theorem dX13_evalNode_95 : decode cX13_evalNode 95 = .ok (.putfield 1300, 3) := by decide +kernel
theorem dX13_evalNode_98 : decode cX13_evalNode 98 = .ok (.aload_n 0, 1) := by decide +kernel
theorem dX13_evalNode_99 : decode cX13_evalNode 99 = .ok (.getfield 206, 3) := by decide +kernel
theorem dX13_evalNode_102 : decode cX13_evalNode 102 = .ok (.iload_n 2, 1) := by decide +kernel
theorem dX13_evalNode_103 : decode cX13_evalNode 103 = .ok (.iaload, 1) := by decide +kernel
theorem dX13_evalNode_104 : decode cX13_evalNode 104 = .ok (.ireturn, 1) := by decide +kernel
theorem dX13_evalNode_105 : decode cX13_evalNode 105 = .ok (.aload_n 0, 1) := by decide +kernel
theorem dX13_evalNode_106 : decode cX13_evalNode 106 = .ok (.dup, 1) := by decide +kernel
theorem dX13_evalNode_107 : decode cX13_evalNode 107 = .ok (.getfield 1300, 3) := by decide +kernel
theorem dX13_evalNode_110 : decode cX13_evalNode 110 = .ok (.iconst 1, 1) := by decide +kernel
theorem dX13_evalNode_111 : decode cX13_evalNode 111 = .ok (.isub, 1) := by decide +kernel
theorem dX13_evalNode_112 : decode cX13_evalNode 112 = .ok (.putfield 1300, 3) := by decide +kernel
theorem dX13_evalNode_115 : decode cX13_evalNode 115 = .ok (.iconst 0, 1) := by decide +kernel
theorem dX13_evalNode_116 : decode cX13_evalNode 116 = .ok (.ireturn, 1) := by decide +kernel
theorem dX13_evalNode_117 : decode cX13_evalNode 117 = .ok (.aload_n 0, 1) := by decide +kernel
theorem dX13_evalNode_118 : decode cX13_evalNode 118 = .ok (.dup, 1) := by decide +kernel
theorem dX13_evalNode_119 : decode cX13_evalNode 119 = .ok (.getfield 1300, 3) := by decide +kernel
theorem dX13_evalNode_122 : decode cX13_evalNode 122 = .ok (.iconst 1, 1) := by decide +kernel
theorem dX13_evalNode_123 : decode cX13_evalNode 123 = .ok (.isub, 1) := by decide +kernel
theorem dX13_evalNode_124 : decode cX13_evalNode 124 = .ok (.putfield 1300, 3) := by decide +kernel
theorem dX13_evalNode_127 : decode cX13_evalNode 127 = .ok (.iload 5, 2) := by decide +kernel
theorem dX13_evalNode_129 : decode cX13_evalNode 129 = .ok (.ireturn, 1) := by decide +kernel
theorem dX13_evalNode_130 : decode cX13_evalNode 130 = .ok (.aload_n 0, 1) := by decide +kernel
theorem dX13_evalNode_131 : decode cX13_evalNode 131 = .ok (.dup, 1) := by decide +kernel
theorem dX13_evalNode_132 : decode cX13_evalNode 132 = .ok (.getfield 1300, 3) := by decide +kernel
theorem dX13_evalNode_135 : decode cX13_evalNode 135 = .ok (.iconst 1, 1) := by decide +kernel
theorem dX13_evalNode_136 : decode cX13_evalNode 136 = .ok (.isub, 1) := by decide +kernel
theorem dX13_evalNode_137 : decode cX13_evalNode 137 = .ok (.putfield 1300, 3) := by decide +kernel
theorem dX13_evalNode_140 : decode cX13_evalNode 140 = .ok (.aload_n 0, 1) := by decide +kernel
theorem dX13_evalNode_141 : decode cX13_evalNode 141 = .ok (.getfield 209, 3) := by decide +kernel
theorem dX13_evalNode_144 : decode cX13_evalNode 144 = .ok (.iload_n 2, 1) := by decide +kernel
theorem dX13_evalNode_145 : decode cX13_evalNode 145 = .ok (.iaload, 1) := by decide +kernel
theorem dX13_evalNode_146 : decode cX13_evalNode 146 = .ok (.ifCond .lt 20, 3) := by decide +kernel
theorem dX13_evalNode_149 : decode cX13_evalNode 149 = .ok (.aload_n 0, 1) := by decide +kernel
theorem dX13_evalNode_150 : decode cX13_evalNode 150 = .ok (.getfield 1282, 3) := by decide +kernel
theorem dX13_evalNode_153 : decode cX13_evalNode 153 = .ok (.iload 6, 2) := by decide +kernel
theorem dX13_evalNode_155 : decode cX13_evalNode 155 = .ok (.aload_n 0, 1) := by decide +kernel
theorem dX13_evalNode_156 : decode cX13_evalNode 156 = .ok (.getfield 209, 3) := by decide +kernel
theorem dX13_evalNode_159 : decode cX13_evalNode 159 = .ok (.iload_n 2, 1) := by decide +kernel
theorem dX13_evalNode_160 : decode cX13_evalNode 160 = .ok (.iaload, 1) := by decide +kernel
theorem dX13_evalNode_161 : decode cX13_evalNode 161 = .ok (.iadd, 1) := by decide +kernel
theorem dX13_evalNode_162 : decode cX13_evalNode 162 = .ok (.iaload, 1) := by decide +kernel
theorem dX13_evalNode_163 : decode cX13_evalNode 163 = .ok (.goto 59, 3) := by decide +kernel
theorem dX13_evalNode_166 : decode cX13_evalNode 166 = .ok (.aload_n 0, 1) := by decide +kernel
theorem dX13_evalNode_167 : decode cX13_evalNode 167 = .ok (.getfield 209, 3) := by decide +kernel
theorem dX13_evalNode_170 : decode cX13_evalNode 170 = .ok (.iload_n 2, 1) := by decide +kernel
theorem dX13_evalNode_171 : decode cX13_evalNode 171 = .ok (.iaload, 1) := by decide +kernel
theorem dX13_evalNode_172 : decode cX13_evalNode 172 = .ok (.bipush (-10), 2) := by decide +kernel
theorem dX13_evalNode_174 : decode cX13_evalNode 174 = .ok (.if_icmp .ne 12, 3) := by decide +kernel
theorem dX13_evalNode_177 : decode cX13_evalNode 177 = .ok (.aload_n 0, 1) := by decide +kernel
theorem dX13_evalNode_178 : decode cX13_evalNode 178 = .ok (.getfield 206, 3) := by decide +kernel
theorem dX13_evalNode_181 : decode cX13_evalNode 181 = .ok (.iload_n 2, 1) := by decide +kernel
theorem dX13_evalNode_182 : decode cX13_evalNode 182 = .ok (.iaload, 1) := by decide +kernel
theorem dX13_evalNode_183 : decode cX13_evalNode 183 = .ok (.goto 39, 3) := by decide +kernel
theorem dX13_evalNode_186 : decode cX13_evalNode 186 = .ok (.aload_n 0, 1) := by decide +kernel
theorem dX13_evalNode_187 : decode cX13_evalNode 187 = .ok (.getfield 209, 3) := by decide +kernel
theorem dX13_evalNode_190 : decode cX13_evalNode 190 = .ok (.iload_n 2, 1) := by decide +kernel
theorem dX13_evalNode_191 : decode cX13_evalNode 191 = .ok (.iaload, 1) := by decide +kernel
theorem dX13_evalNode_192 : decode cX13_evalNode 192 = .ok (.bipush (-11), 2) := by decide +kernel
theorem dX13_evalNode_194 : decode cX13_evalNode 194 = .ok (.if_icmp .ne 16, 3) := by decide +kernel
theorem dX13_evalNode_197 : decode cX13_evalNode 197 = .ok (.aload_n 0, 1) := by decide +kernel
theorem dX13_evalNode_198 : decode cX13_evalNode 198 = .ok (.aload_n 0, 1) := by decide +kernel
theorem dX13_evalNode_199 : decode cX13_evalNode 199 = .ok (.getfield 221, 3) := by decide +kernel
theorem dX13_evalNode_202 : decode cX13_evalNode 202 = .ok (.iload_n 2, 1) := by decide +kernel
theorem dX13_evalNode_203 : decode cX13_evalNode 203 = .ok (.iaload, 1) := by decide +kernel
theorem dX13_evalNode_204 : decode cX13_evalNode 204 = .ok (.invokevirtual 1316, 3) := by decide +kernel
theorem dX13_evalNode_207 : decode cX13_evalNode 207 = .ok (.goto 15, 3) := by decide +kernel
theorem dX13_evalNode_210 : decode cX13_evalNode 210 = .ok (.aload_n 0, 1) := by decide +kernel
theorem dX13_evalNode_211 : decode cX13_evalNode 211 = .ok (.aload_n 0, 1) := by decide +kernel
theorem dX13_evalNode_212 : decode cX13_evalNode 212 = .ok (.getfield 221, 3) := by decide +kernel
theorem dX13_evalNode_215 : decode cX13_evalNode 215 = .ok (.iload_n 2, 1) := by decide +kernel
theorem dX13_evalNode_216 : decode cX13_evalNode 216 = .ok (.iaload, 1) := by decide +kernel
theorem dX13_evalNode_217 : decode cX13_evalNode 217 = .ok (.iload 5, 2) := by decide +kernel
theorem dX13_evalNode_219 : decode cX13_evalNode 219 = .ok (.invokevirtual 1319, 3) := by decide +kernel
theorem dX13_evalNode_222 : decode cX13_evalNode 222 = .ok (.ireturn, 1) := by decide +kernel
theorem dX13_evalNode_223 : decode cX13_evalNode 223 = .ok (.aload_n 0, 1) := by decide +kernel
theorem dX13_evalNode_224 : decode cX13_evalNode 224 = .ok (.getfield 1297, 3) := by decide +kernel
theorem dX13_evalNode_227 : decode cX13_evalNode 227 = .ok (.iload_n 1, 1) := by decide +kernel
theorem dX13_evalNode_228 : decode cX13_evalNode 228 = .ok (.aload_n 0, 1) := by decide +kernel
theorem dX13_evalNode_229 : decode cX13_evalNode 229 = .ok (.getfield 194, 3) := by decide +kernel
theorem dX13_evalNode_232 : decode cX13_evalNode 232 = .ok (.iload_n 2, 1) := by decide +kernel
theorem dX13_evalNode_233 : decode cX13_evalNode 233 = .ok (.iaload, 1) := by decide +kernel
theorem dX13_evalNode_234 : decode cX13_evalNode 234 = .ok (.iastore, 1) := by decide +kernel
theorem dX13_evalNode_235 : decode cX13_evalNode 235 = .ok (.iload_n 3, 1) := by decide +kernel
theorem dX13_evalNode_236 : decode cX13_evalNode 236 = .ok (.ireturn, 1) := by decide +kernel
theorem dX13_evalNode_237 : decode cX13_evalNode 237 = .ok (.iload 7, 2) := by decide +kernel
theorem dX13_evalNode_239 : decode cX13_evalNode 239 = .ok (.ifCond .ne 22, 3) := by decide +kernel
theorem dX13_evalNode_242 : decode cX13_evalNode 242 = .ok (.aload_n 0, 1) := by decide +kernel
theorem dX13_evalNode_243 : decode cX13_evalNode 243 = .ok (.getfield 1303, 3) := by decide +kernel
theorem dX13_evalNode_246 : decode cX13_evalNode 246 = .ok (.iload_n 1, 1) := by decide +kernel
theorem dX13_evalNode_247 : decode cX13_evalNode 247 = .ok (.iconst 1, 1) := by decide +kernel
theorem dX13_evalNode_248 : decode cX13_evalNode 248 = .ok (.iastore, 1) := by decide +kernel
theorem dX13_evalNode_249 : decode cX13_evalNode 249 = .ok (.aload_n 0, 1) := by decide +kernel
theorem dX13_evalNode_250 : decode cX13_evalNode 250 = .ok (.aload_n 0, 1) := by decide +kernel
theorem dX13_evalNode_251 : decode cX13_evalNode 251 = .ok (.getfield 194, 3) := by decide +kernel
theorem dX13_evalNode_254 : decode cX13_evalNode 254 = .ok (.iload_n 2, 1) := by decide +kernel
theorem dX13_evalNode_255 : decode cX13_evalNode 255 = .ok (.iaload, 1) := by decide +kernel
theorem dX13_evalNode_256 : decode cX13_evalNode 256 = .ok (.invokevirtual 1309, 3) := by decide +kernel
theorem dX13_evalNode_259 : decode cX13_evalNode 259 = .ok (.iload_n 3, 1) := by decide +kernel
theorem dX13_evalNode_260 : decode cX13_evalNode 260 = .ok (.ireturn, 1) := by decide +kernel
theorem dX13_evalNode_261 : decode cX13_evalNode 261 = .ok (.aload_n 0, 1) := by decide +kernel
theorem dX13_evalNode_262 : decode cX13_evalNode 262 = .ok (.dup, 1) := by decide +kernel
theorem dX13_evalNode_263 : decode cX13_evalNode 263 = .ok (.getfield 1300, 3) := by decide +kernel
theorem dX13_evalNode_266 : decode cX13_evalNode 266 = .ok (.iconst 1, 1) := by decide +kernel
theorem dX13_evalNode_267 : decode cX13_evalNode 267 = .ok (.isub, 1) := by decide +kernel
theorem dX13_evalNode_268 : decode cX13_evalNode 268 = .ok (.putfield 1300, 3) := by decide +kernel
theorem dX13_evalNode_271 : decode cX13_evalNode 271 = .ok (.aload_n 0, 1) := by decide +kernel
theorem dX13_evalNode_272 : decode cX13_evalNode 272 = .ok (.getfield 173, 3) := by decide +kernel
theorem dX13_evalNode_275 : decode cX13_evalNode 275 = .ok (.iload_n 2, 1) := by decide +kernel
theorem dX13_evalNode_276 : decode cX13_evalNode 276 = .ok (.iaload, 1) := by decide +kernel
theorem dX13_evalNode_277 : decode cX13_evalNode 277 = .ok (.bipush 12, 2) := by decide +kernel
theorem dX13_evalNode_279 : decode cX13_evalNode 279 = .ok (.if_icmp .ne 17, 3) := by decide +kernel
theorem dX13_evalNode_282 : decode cX13_evalNode 282 = .ok (.aload_n 0, 1) := by decide +kernel
theorem dX13_evalNode_283 : decode cX13_evalNode 283 = .ok (.aload_n 0, 1) := by decide +kernel
theorem dX13_evalNode_284 : decode cX13_evalNode 284 = .ok (.getfield 221, 3) := by decide +kernel
theorem dX13_evalNode_287 : decode cX13_evalNode 287 = .ok (.iload_n 2, 1) := by decide +kernel
theorem dX13_evalNode_288 : decode cX13_evalNode 288 = .ok (.iaload, 1) := by decide +kernel
theorem dX13_evalNode_289 : decode cX13_evalNode 289 = .ok (.iload_n 3, 1) := by decide +kernel
theorem dX13_evalNode_290 : decode cX13_evalNode 290 = .ok (.invokevirtual 1319, 3) := by decide +kernel
theorem dX13_evalNode_293 : decode cX13_evalNode 293 = .ok (.goto 29, 3) := by decide +kernel
theorem dX13_evalNode_296 : decode cX13_evalNode 296 = .ok (.aload_n 0, 1) := by decide +kernel
theorem dX13_evalNode_297 : decode cX13_evalNode 297 = .ok (.getfield 173, 3) := by decide +kernel
theorem dX13_evalNode_300 : decode cX13_evalNode 300 = .ok (.iload_n 2, 1) := by decide +kernel
theorem dX13_evalNode_301 : decode cX13_evalNode 301 = .ok (.iaload, 1) := by decide +kernel
theorem dX13_evalNode_302 : decode cX13_evalNode 302 = .ok (.bipush 14, 2) := by decide +kernel
theorem dX13_evalNode_304 : decode cX13_evalNode 304 = .ok (.if_icmp .ne 12, 3) := by decide +kernel
theorem dX13_evalNode_307 : decode cX13_evalNode 307 = .ok (.aload_n 0, 1) := by decide +kernel
theorem dX13_evalNode_308 : decode cX13_evalNode 308 = .ok (.iload_n 2, 1) := by decide +kernel
theorem dX13_evalNode_309 : decode cX13_evalNode 309 = .ok (.iload_n 3, 1) := by decide +kernel
theorem dX13_evalNode_310 : decode cX13_evalNode 310 = .ok (.invokevirtual 1322, 3) := by decide +kernel
theorem dX13_evalNode_313 : decode cX13_evalNode 313 = .ok (.goto 9, 3) := by decide +kernel
theorem dX13_evalNode_316 : decode cX13_evalNode 316 = .ok (.aload_n 0, 1) := by decide +kernel
theorem dX13_evalNode_317 : decode cX13_evalNode 317 = .ok (.iload_n 2, 1) := by decide +kernel
theorem dX13_evalNode_318 : decode cX13_evalNode 318 = .ok (.iload_n 3, 1) := by decide +kernel
theorem dX13_evalNode_319 : decode cX13_evalNode 319 = .ok (.invokevirtual 1325, 3) := by decide +kernel
theorem dX13_evalNode_322 : decode cX13_evalNode 322 = .ok (.ireturn, 1) := by decide +kernel
theorem dX13_evalNode_323 : decode cX13_evalNode 323 = .ok (.iload 7, 2) := by decide +kernel
theorem dX13_evalNode_325 : decode cX13_evalNode 325 = .ok (.ifCond .ne 22, 3) := by decide +kernel
theorem dX13_evalNode_328 : decode cX13_evalNode 328 = .ok (.aload_n 0, 1) := by decide +kernel
theorem dX13_evalNode_329 : decode cX13_evalNode 329 = .ok (.getfield 1303, 3) := by decide +kernel
theorem dX13_evalNode_332 : decode cX13_evalNode 332 = .ok (.iload_n 1, 1) := by decide +kernel
theorem dX13_evalNode_333 : decode cX13_evalNode 333 = .ok (.iconst 1, 1) := by decide +kernel
theorem dX13_evalNode_334 : decode cX13_evalNode 334 = .ok (.iastore, 1) := by decide +kernel
theorem dX13_evalNode_335 : decode cX13_evalNode 335 = .ok (.aload_n 0, 1) := by decide +kernel
theorem dX13_evalNode_336 : decode cX13_evalNode 336 = .ok (.aload_n 0, 1) := by decide +kernel
theorem dX13_evalNode_337 : decode cX13_evalNode 337 = .ok (.getfield 194, 3) := by decide +kernel
theorem dX13_evalNode_340 : decode cX13_evalNode 340 = .ok (.iload_n 2, 1) := by decide +kernel
theorem dX13_evalNode_341 : decode cX13_evalNode 341 = .ok (.iaload, 1) := by decide +kernel
theorem dX13_evalNode_342 : decode cX13_evalNode 342 = .ok (.invokevirtual 1309, 3) := by decide +kernel
theorem dX13_evalNode_345 : decode cX13_evalNode 345 = .ok (.iload_n 3, 1) := by decide +kernel
theorem dX13_evalNode_346 : decode cX13_evalNode 346 = .ok (.ireturn, 1) := by decide +kernel
theorem dX13_evalNode_347 : decode cX13_evalNode 347 = .ok (.iload 7, 2) := by decide +kernel
theorem dX13_evalNode_349 : decode cX13_evalNode 349 = .ok (.iconst 1, 1) := by decide +kernel
theorem dX13_evalNode_350 : decode cX13_evalNode 350 = .ok (.if_icmp .ne 23, 3) := by decide +kernel
theorem dX13_evalNode_353 : decode cX13_evalNode 353 = .ok (.aload_n 0, 1) := by decide +kernel
theorem dX13_evalNode_354 : decode cX13_evalNode 354 = .ok (.getfield 1328, 3) := by decide +kernel
theorem dX13_evalNode_357 : decode cX13_evalNode 357 = .ok (.iload_n 1, 1) := by decide +kernel
theorem dX13_evalNode_358 : decode cX13_evalNode 358 = .ok (.iload_n 3, 1) := by decide +kernel
theorem dX13_evalNode_359 : decode cX13_evalNode 359 = .ok (.iastore, 1) := by decide +kernel
theorem dX13_evalNode_360 : decode cX13_evalNode 360 = .ok (.aload_n 0, 1) := by decide +kernel
theorem dX13_evalNode_361 : decode cX13_evalNode 361 = .ok (.iload_n 1, 1) := by decide +kernel
theorem dX13_evalNode_362 : decode cX13_evalNode 362 = .ok (.aload_n 0, 1) := by decide +kernel
theorem dX13_evalNode_363 : decode cX13_evalNode 363 = .ok (.getfield 197, 3) := by decide +kernel
theorem dX13_evalNode_366 : decode cX13_evalNode 366 = .ok (.iload_n 2, 1) := by decide +kernel
theorem dX13_evalNode_367 : decode cX13_evalNode 367 = .ok (.iaload, 1) := by decide +kernel
theorem dX13_evalNode_368 : decode cX13_evalNode 368 = .ok (.invokevirtual 1331, 3) := by decide +kernel
theorem dX13_evalNode_371 : decode cX13_evalNode 371 = .ok (.iload_n 3, 1) := by decide +kernel
theorem dX13_evalNode_372 : decode cX13_evalNode 372 = .ok (.ireturn, 1) := by decide +kernel
theorem dX13_evalNode_373 : decode cX13_evalNode 373 = .ok (.aload_n 0, 1) := by decide +kernel
theorem dX13_evalNode_374 : decode cX13_evalNode 374 = .ok (.iload_n 1, 1) := by decide +kernel
theorem dX13_evalNode_375 : decode cX13_evalNode 375 = .ok (.iload_n 2, 1) := by decide +kernel
theorem dX13_evalNode_376 : decode cX13_evalNode 376 = .ok (.iload_n 3, 1) := by decide +kernel
theorem dX13_evalNode_377 : decode cX13_evalNode 377 = .ok (.iload 5, 2) := by decide +kernel
theorem dX13_evalNode_379 : decode cX13_evalNode 379 = .ok (.invokevirtual 1334, 3) := by decide +kernel
theorem dX13_evalNode_382 : decode cX13_evalNode 382 = .ok (.ireturn, 1) := by decide +kernel
theorem dX13_evalNode_383 : decode cX13_evalNode 383 = .ok (.iload 7, 2) := by decide +kernel
theorem dX13_evalNode_385 : decode cX13_evalNode 385 = .ok (.ifCond .ne 12, 3) := by decide +kernel
theorem dX13_evalNode_388 : decode cX13_evalNode 388 = .ok (.aload_n 0, 1) := by decide +kernel
theorem dX13_evalNode_389 : decode cX13_evalNode 389 = .ok (.iload_n 1, 1) := by decide +kernel
theorem dX13_evalNode_390 : decode cX13_evalNode 390 = .ok (.iload_n 2, 1) := by decide +kernel
theorem dX13_evalNode_391 : decode cX13_evalNode 391 = .ok (.invokevirtual 1337, 3) := by decide +kernel
theorem dX13_evalNode_394 : decode cX13_evalNode 394 = .ok (.goto 12, 3) := by decide +kernel
theorem dX13_evalNode_397 : decode cX13_evalNode 397 = .ok (.aload_n 0, 1) := by decide +kernel
theorem dX13_evalNode_398 : decode cX13_evalNode 398 = .ok (.iload_n 1, 1) := by decide +kernel
theorem dX13_evalNode_399 : decode cX13_evalNode 399 = .ok (.iload_n 2, 1) := by decide +kernel
theorem dX13_evalNode_400 : decode cX13_evalNode 400 = .ok (.iload_n 3, 1) := by decide +kernel
theorem dX13_evalNode_401 : decode cX13_evalNode 401 = .ok (.iload 5, 2) := by decide +kernel
theorem dX13_evalNode_403 : decode cX13_evalNode 403 = .ok (.invokevirtual 1334, 3) := by decide +kernel
theorem dX13_evalNode_406 : decode cX13_evalNode 406 = .ok (.ireturn, 1) := by decide +kernel
theorem dX13_evalNode_407 : decode cX13_evalNode 407 = .ok (.aload_n 0, 1) := by decide +kernel
theorem dX13_evalNode_408 : decode cX13_evalNode 408 = .ok (.getfield 173, 3) := by decide +kernel
theorem dX13_evalNode_411 : decode cX13_evalNode 411 = .ok (.iload_n 2, 1) := by decide +kernel
theorem dX13_evalNode_412 : decode cX13_evalNode 412 = .ok (.iaload, 1) := by decide +kernel
theorem dX13_evalNode_413 : decode cX13_evalNode 413 = .ok (.invokestatic 723, 3) := by decide +kernel
theorem dX13_evalNode_416 : decode cX13_evalNode 416 = .ok (.ifCond .eq 11, 3) := by decide +kernel
theorem dX13_evalNode_419 : decode cX13_evalNode 419 = .ok (.aload_n 0, 1) := by decide +kernel
theorem dX13_evalNode_420 : decode cX13_evalNode 420 = .ok (.iload_n 1, 1) := by decide +kernel
theorem dX13_evalNode_421 : decode cX13_evalNode 421 = .ok (.iload_n 2, 1) := by decide +kernel
theorem dX13_evalNode_422 : decode cX13_evalNode 422 = .ok (.iload_n 3, 1) := by decide +kernel
theorem dX13_evalNode_423 : decode cX13_evalNode 423 = .ok (.invokevirtual 1340, 3) := by decide +kernel
theorem dX13_evalNode_426 : decode cX13_evalNode 426 = .ok (.ireturn, 1) := by decide +kernel
theorem dX13_evalNode_427 : decode cX13_evalNode 427 = .ok (.iload 7, 2) := by decide +kernel
theorem dX13_evalNode_429 : decode cX13_evalNode 429 = .ok (.ifCond .ne 16, 3) := by decide +kernel
theorem dX13_evalNode_432 : decode cX13_evalNode 432 = .ok (.aload_n 0, 1) := by decide +kernel
theorem dX13_evalNode_433 : decode cX13_evalNode 433 = .ok (.iload_n 1, 1) := by decide +kernel
theorem dX13_evalNode_434 : decode cX13_evalNode 434 = .ok (.aload_n 0, 1) := by decide +kernel
theorem dX13_evalNode_435 : decode cX13_evalNode 435 = .ok (.getfield 197, 3) := by decide +kernel
theorem dX13_evalNode_438 : decode cX13_evalNode 438 = .ok (.iload_n 2, 1) := by decide +kernel
theorem dX13_evalNode_439 : decode cX13_evalNode 439 = .ok (.iaload, 1) := by decide +kernel
theorem dX13_evalNode_440 : decode cX13_evalNode 440 = .ok (.invokevirtual 1331, 3) := by decide +kernel
theorem dX13_evalNode_443 : decode cX13_evalNode 443 = .ok (.iload_n 3, 1) := by decide +kernel
theorem dX13_evalNode_444 : decode cX13_evalNode 444 = .ok (.ireturn, 1) := by decide +kernel
theorem dX13_evalNode_445 : decode cX13_evalNode 445 = .ok (.aload_n 0, 1) := by decide +kernel
theorem dX13_evalNode_446 : decode cX13_evalNode 446 = .ok (.iload_n 1, 1) := by decide +kernel
theorem dX13_evalNode_447 : decode cX13_evalNode 447 = .ok (.iload_n 2, 1) := by decide +kernel
theorem dX13_evalNode_448 : decode cX13_evalNode 448 = .ok (.iload_n 3, 1) := by decide +kernel
theorem dX13_evalNode_449 : decode cX13_evalNode 449 = .ok (.iload 5, 2) := by decide +kernel
theorem dX13_evalNode_451 : decode cX13_evalNode 451 = .ok (.invokevirtual 1334, 3) := by decide +kernel
theorem dX13_evalNode_454 : decode cX13_evalNode 454 = .ok (.ireturn, 1) := by decide +kernel
theorem dX13_evalTwo_0 : decode cX13_evalTwo 0 = .ok (.aload_n 0, 1) := by decide +kernel
theorem dX13_evalTwo_1 : decode cX13_evalTwo 1 = .ok (.getfield 1303, 3) := by decide +kernel
theorem dX13_evalTwo_4 : decode cX13_evalTwo 4 = .ok (.iload_n 1, 1) := by decide +kernel
theorem dX13_evalTwo_5 : decode cX13_evalTwo 5 = .ok (.iaload, 1) := by decide +kernel
theorem dX13_evalTwo_6 : decode cX13_evalTwo 6 = .ok (.ifCond .ne 22, 3) := by decide +kernel
theorem dX13_evalTwo_9 : decode cX13_evalTwo 9 = .ok (.aload_n 0, 1) := by decide +kernel
theorem dX13_evalTwo_10 : decode cX13_evalTwo 10 = .ok (.getfield 1303, 3) := by decide +kernel
theorem dX13_evalTwo_13 : decode cX13_evalTwo 13 = .ok (.iload_n 1, 1) := by decide +kernel
theorem dX13_evalTwo_14 : decode cX13_evalTwo 14 = .ok (.iconst 1, 1) := by decide +kernel
theorem dX13_evalTwo_15 : decode cX13_evalTwo 15 = .ok (.iastore, 1) := by decide +kernel
theorem dX13_evalTwo_16 : decode cX13_evalTwo 16 = .ok (.aload_n 0, 1) := by decide +kernel
theorem dX13_evalTwo_17 : decode cX13_evalTwo 17 = .ok (.aload_n 0, 1) := by decide +kernel
theorem dX13_evalTwo_18 : decode cX13_evalTwo 18 = .ok (.getfield 194, 3) := by decide +kernel
theorem dX13_evalTwo_21 : decode cX13_evalTwo 21 = .ok (.iload_n 2, 1) := by decide +kernel
theorem dX13_evalTwo_22 : decode cX13_evalTwo 22 = .ok (.iaload, 1) := by decide +kernel
theorem dX13_evalTwo_23 : decode cX13_evalTwo 23 = .ok (.invokevirtual 1309, 3) := by decide +kernel
theorem dX13_evalTwo_26 : decode cX13_evalTwo 26 = .ok (.iload_n 3, 1) := by decide +kernel
theorem dX13_evalTwo_27 : decode cX13_evalTwo 27 = .ok (.ireturn, 1) := by decide +kernel
theorem dX13_evalTwo_28 : decode cX13_evalTwo 28 = .ok (.aload_n 0, 1) := by decide +kernel
theorem dX13_evalTwo_29 : decode cX13_evalTwo 29 = .ok (.getfield 1303, 3) := by decide +kernel
theorem dX13_evalTwo_32 : decode cX13_evalTwo 32 = .ok (.iload_n 1, 1) := by decide +kernel
theorem dX13_evalTwo_33 : decode cX13_evalTwo 33 = .ok (.iaload, 1) := by decide +kernel
theorem dX13_evalTwo_34 : decode cX13_evalTwo 34 = .ok (.iconst 1, 1) := by decide +kernel
theorem dX13_evalTwo_35 : decode cX13_evalTwo 35 = .ok (.if_icmp .ne 29, 3) := by decide +kernel
theorem dX13_evalTwo_38 : decode cX13_evalTwo 38 = .ok (.aload_n 0, 1) := by decide +kernel
theorem dX13_evalTwo_39 : decode cX13_evalTwo 39 = .ok (.getfield 1303, 3) := by decide +kernel
theorem dX13_evalTwo_42 : decode cX13_evalTwo 42 = .ok (.iload_n 1, 1) := by decide +kernel
theorem dX13_evalTwo_43 : decode cX13_evalTwo 43 = .ok (.iconst 2, 1) := by decide +kernel
theorem dX13_evalTwo_44 : decode cX13_evalTwo 44 = .ok (.iastore, 1) := by decide +kernel
theorem dX13_evalTwo_45 : decode cX13_evalTwo 45 = .ok (.aload_n 0, 1) := by decide +kernel
theorem dX13_evalTwo_46 : decode cX13_evalTwo 46 = .ok (.getfield 1328, 3) := by decide +kernel
theorem dX13_evalTwo_49 : decode cX13_evalTwo 49 = .ok (.iload_n 1, 1) := by decide +kernel
theorem dX13_evalTwo_50 : decode cX13_evalTwo 50 = .ok (.iload_n 3, 1) := by decide +kernel
theorem dX13_evalTwo_51 : decode cX13_evalTwo 51 = .ok (.iastore, 1) := by decide +kernel
theorem dX13_evalTwo_52 : decode cX13_evalTwo 52 = .ok (.aload_n 0, 1) := by decide +kernel
theorem dX13_evalTwo_53 : decode cX13_evalTwo 53 = .ok (.aload_n 0, 1) := by decide +kernel
theorem dX13_evalTwo_54 : decode cX13_evalTwo 54 = .ok (.getfield 197, 3) := by decide +kernel
theorem dX13_evalTwo_57 : decode cX13_evalTwo 57 = .ok (.iload_n 2, 1) := by decide +kernel
theorem dX13_evalTwo_58 : decode cX13_evalTwo 58 = .ok (.iaload, 1) := by decide +kernel
theorem dX13_evalTwo_59 : decode cX13_evalTwo 59 = .ok (.invokevirtual 1309, 3) := by decide +kernel
theorem dX13_evalTwo_62 : decode cX13_evalTwo 62 = .ok (.iload_n 3, 1) := by decide +kernel
theorem dX13_evalTwo_63 : decode cX13_evalTwo 63 = .ok (.ireturn, 1) := by decide +kernel
theorem dX13_evalTwo_64 : decode cX13_evalTwo 64 = .ok (.aload_n 0, 1) := by decide +kernel
theorem dX13_evalTwo_65 : decode cX13_evalTwo 65 = .ok (.dup, 1) := by decide +kernel
theorem dX13_evalTwo_66 : decode cX13_evalTwo 66 = .ok (.getfield 1300, 3) := by decide +kernel
theorem dX13_evalTwo_69 : decode cX13_evalTwo 69 = .ok (.iconst 1, 1) := by decide +kernel
theorem dX13_evalTwo_70 : decode cX13_evalTwo 70 = .ok (.isub, 1) := by decide +kernel
theorem dX13_evalTwo_71 : decode cX13_evalTwo 71 = .ok (.putfield 1300, 3) := by decide +kernel
theorem dX13_evalTwo_74 : decode cX13_evalTwo 74 = .ok (.aload_n 0, 1) := by decide +kernel
theorem dX13_evalTwo_75 : decode cX13_evalTwo 75 = .ok (.getfield 173, 3) := by decide +kernel
theorem dX13_evalTwo_78 : decode cX13_evalTwo 78 = .ok (.iload_n 2, 1) := by decide +kernel
theorem dX13_evalTwo_79 : decode cX13_evalTwo 79 = .ok (.iaload, 1) := by decide +kernel
theorem dX13_evalTwo_80 : decode cX13_evalTwo 80 = .ok (.aload_n 0, 1) := by decide +kernel
theorem dX13_evalTwo_81 : decode cX13_evalTwo 81 = .ok (.getfield 1328, 3) := by decide +kernel
theorem dX13_evalTwo_84 : decode cX13_evalTwo 84 = .ok (.iload_n 1, 1) := by decide +kernel
theorem dX13_evalTwo_85 : decode cX13_evalTwo 85 = .ok (.iaload, 1) := by decide +kernel
theorem dX13_evalTwo_86 : decode cX13_evalTwo 86 = .ok (.iload_n 3, 1) := by decide +kernel
theorem dX13_evalTwo_87 : decode cX13_evalTwo 87 = .ok (.invokestatic 732, 3) := by decide +kernel
theorem dX13_evalTwo_90 : decode cX13_evalTwo 90 = .ok (.ireturn, 1) := by decide +kernel
theorem dX13_asked_0 : decode cX13_asked 0 = .ok (.iload_n 2, 1) := by decide +kernel
theorem dX13_asked_1 : decode cX13_asked 1 = .ok (.ifCond .eq 43, 3) := by decide +kernel
theorem dX13_asked_4 : decode cX13_asked 4 = .ok (.aload_n 0, 1) := by decide +kernel
theorem dX13_asked_5 : decode cX13_asked 5 = .ok (.aload_n 0, 1) := by decide +kernel
theorem dX13_asked_6 : decode cX13_asked 6 = .ok (.getfield 221, 3) := by decide +kernel
theorem dX13_asked_9 : decode cX13_asked 9 = .ok (.iload_n 1, 1) := by decide +kernel
theorem dX13_asked_10 : decode cX13_asked 10 = .ok (.iaload, 1) := by decide +kernel
theorem dX13_asked_11 : decode cX13_asked 11 = .ok (.invokevirtual 1288, 3) := by decide +kernel
theorem dX13_asked_14 : decode cX13_asked 14 = .ok (.ifCond .eq 30, 3) := by decide +kernel
theorem dX13_asked_17 : decode cX13_asked 17 = .ok (.aload_n 0, 1) := by decide +kernel
theorem dX13_asked_18 : decode cX13_asked 18 = .ok (.iload_n 2, 1) := by decide +kernel
theorem dX13_asked_19 : decode cX13_asked 19 = .ok (.aload_n 0, 1) := by decide +kernel
theorem dX13_asked_20 : decode cX13_asked 20 = .ok (.aload_n 0, 1) := by decide +kernel
theorem dX13_asked_21 : decode cX13_asked 21 = .ok (.getfield 872, 3) := by decide +kernel
theorem dX13_asked_24 : decode cX13_asked 24 = .ok (.aload_n 0, 1) := by decide +kernel
theorem dX13_asked_25 : decode cX13_asked 25 = .ok (.getfield 221, 3) := by decide +kernel
theorem dX13_asked_28 : decode cX13_asked 28 = .ok (.iload_n 1, 1) := by decide +kernel
theorem dX13_asked_29 : decode cX13_asked 29 = .ok (.iaload, 1) := by decide +kernel
theorem dX13_asked_30 : decode cX13_asked 30 = .ok (.laload, 1) := by decide +kernel
theorem dX13_asked_31 : decode cX13_asked 31 = .ok (.invokevirtual 551, 3) := by decide +kernel
theorem dX13_asked_34 : decode cX13_asked 34 = .ok (.invokevirtual 1343, 3) := by decide +kernel
theorem dX13_asked_37 : decode cX13_asked 37 = .ok (.ifCond .eq 7, 3) := by decide +kernel
theorem dX13_asked_40 : decode cX13_asked 40 = .ok (.iconst 1, 1) := by decide +kernel
theorem dX13_asked_41 : decode cX13_asked 41 = .ok (.goto 4, 3) := by decide +kernel
theorem dX13_asked_44 : decode cX13_asked 44 = .ok (.iconst 0, 1) := by decide +kernel
theorem dX13_asked_45 : decode cX13_asked 45 = .ok (.ireturn, 1) := by decide +kernel
theorem dX13_cast_0 : decode cX13_cast 0 = .ok (.iload_n 2, 1) := by decide +kernel
theorem dX13_cast_1 : decode cX13_cast 1 = .ok (.ifCond .eq 16, 3) := by decide +kernel
theorem dX13_cast_4 : decode cX13_cast 4 = .ok (.aload_n 0, 1) := by decide +kernel
theorem dX13_cast_5 : decode cX13_cast 5 = .ok (.aload_n 0, 1) := by decide +kernel
theorem dX13_cast_6 : decode cX13_cast 6 = .ok (.getfield 221, 3) := by decide +kernel
theorem dX13_cast_9 : decode cX13_cast 9 = .ok (.iload_n 1, 1) := by decide +kernel
theorem dX13_cast_10 : decode cX13_cast 10 = .ok (.iaload, 1) := by decide +kernel
theorem dX13_cast_11 : decode cX13_cast 11 = .ok (.invokevirtual 1288, 3) := by decide +kernel
theorem dX13_cast_14 : decode cX13_cast 14 = .ok (.ifCond .ne 5, 3) := by decide +kernel
theorem dX13_cast_17 : decode cX13_cast 17 = .ok (.iconst 0, 1) := by decide +kernel
theorem dX13_cast_18 : decode cX13_cast 18 = .ok (.ireturn, 1) := by decide +kernel
theorem dX13_cast_19 : decode cX13_cast 19 = .ok (.aload_n 0, 1) := by decide +kernel
theorem dX13_cast_20 : decode cX13_cast 20 = .ok (.iload_n 2, 1) := by decide +kernel
theorem dX13_cast_21 : decode cX13_cast 21 = .ok (.aload_n 0, 1) := by decide +kernel
theorem dX13_cast_22 : decode cX13_cast 22 = .ok (.aload_n 0, 1) := by decide +kernel
theorem dX13_cast_23 : decode cX13_cast 23 = .ok (.getfield 188, 3) := by decide +kernel
theorem dX13_cast_26 : decode cX13_cast 26 = .ok (.iload_n 1, 1) := by decide +kernel
theorem dX13_cast_27 : decode cX13_cast 27 = .ok (.laload, 1) := by decide +kernel
theorem dX13_cast_28 : decode cX13_cast 28 = .ok (.invokevirtual 551, 3) := by decide +kernel
theorem dX13_cast_31 : decode cX13_cast 31 = .ok (.invokevirtual 1343, 3) := by decide +kernel
