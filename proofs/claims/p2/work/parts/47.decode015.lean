theorem dX13_four_33 : decode cX13_four 33 = .ok (.iinc 2 (-8), 3) := by decide +kernel
theorem dX13_four_36 : decode cX13_four 36 = .ok (.goto (-33), 3) := by decide +kernel
theorem dX13_four_39 : decode cX13_four 39 = .ok (.return_, 1) := by decide +kernel
theorem dX13_cut_0 : decode cX13_cut 0 = .ok (.iload_n 1, 1) := by decide +kernel
theorem dX13_cut_1 : decode cX13_cut 1 = .ok (.ifCond .lt 11, 3) := by decide +kernel
theorem dX13_cut_4 : decode cX13_cut 4 = .ok (.iload_n 1, 1) := by decide +kernel
theorem dX13_cut_5 : decode cX13_cut 5 = .ok (.aload_n 0, 1) := by decide +kernel
theorem dX13_cut_6 : decode cX13_cut 6 = .ok (.getfield 57, 3) := by decide +kernel
theorem dX13_cut_9 : decode cX13_cut 9 = .ok (.if_icmp .le 5, 3) := by decide +kernel
theorem dX13_cut_12 : decode cX13_cut 12 = .ok (.iconst (-1), 1) := by decide +kernel
theorem dX13_cut_13 : decode cX13_cut 13 = .ok (.ireturn, 1) := by decide +kernel
theorem dX13_cut_14 : decode cX13_cut 14 = .ok (.aload_n 0, 1) := by decide +kernel
theorem dX13_cut_15 : decode cX13_cut 15 = .ok (.dup, 1) := by decide +kernel
theorem dX13_cut_16 : decode cX13_cut 16 = .ok (.getfield 57, 3) := by decide +kernel
theorem dX13_cut_19 : decode cX13_cut 19 = .ok (.iload_n 1, 1) := by decide +kernel
theorem dX13_cut_20 : decode cX13_cut 20 = .ok (.isub, 1) := by decide +kernel
theorem dX13_cut_21 : decode cX13_cut 21 = .ok (.putfield 57, 3) := by decide +kernel
theorem dX13_cut_24 : decode cX13_cut 24 = .ok (.aload_n 0, 1) := by decide +kernel
theorem dX13_cut_25 : decode cX13_cut 25 = .ok (.getfield 57, 3) := by decide +kernel
theorem dX13_cut_28 : decode cX13_cut 28 = .ok (.ireturn, 1) := by decide +kernel
theorem dX13_splice_0 : decode cX13_splice 0 = .ok (.iload_n 3, 1) := by decide +kernel
theorem dX13_splice_1 : decode cX13_splice 1 = .ok (.ifCond .lt 41, 3) := by decide +kernel
theorem dX13_splice_4 : decode cX13_splice 4 = .ok (.iload_n 3, 1) := by decide +kernel
theorem dX13_splice_5 : decode cX13_splice 5 = .ok (.aload_n 0, 1) := by decide +kernel
theorem dX13_splice_6 : decode cX13_splice 6 = .ok (.getfield 57, 3) := by decide +kernel
theorem dX13_splice_9 : decode cX13_splice 9 = .ok (.if_icmp .gt 33, 3) := by decide +kernel
theorem dX13_splice_12 : decode cX13_splice 12 = .ok (.iload_n 1, 1) := by decide +kernel
theorem dX13_splice_13 : decode cX13_splice 13 = .ok (.ifCond .lt 29, 3) := by decide +kernel
theorem dX13_splice_16 : decode cX13_splice 16 = .ok (.iload_n 1, 1) := by decide +kernel
theorem dX13_splice_17 : decode cX13_splice 17 = .ok (.aload_n 0, 1) := by decide +kernel
theorem dX13_splice_18 : decode cX13_splice 18 = .ok (.getfield 57, 3) := by decide +kernel
theorem dX13_splice_21 : decode cX13_splice 21 = .ok (.iload_n 3, 1) := by decide +kernel
theorem dX13_splice_22 : decode cX13_splice 22 = .ok (.isub, 1) := by decide +kernel
theorem dX13_splice_23 : decode cX13_splice 23 = .ok (.if_icmp .gt 19, 3) := by decide +kernel
theorem dX13_splice_26 : decode cX13_splice 26 = .ok (.iload_n 2, 1) := by decide +kernel
theorem dX13_splice_27 : decode cX13_splice 27 = .ok (.ifCond .lt 15, 3) := by decide +kernel
theorem dX13_splice_30 : decode cX13_splice 30 = .ok (.iload_n 2, 1) := by decide +kernel
theorem dX13_splice_31 : decode cX13_splice 31 = .ok (.aload_n 0, 1) := by decide +kernel
theorem dX13_splice_32 : decode cX13_splice 32 = .ok (.getfield 57, 3) := by decide +kernel
theorem dX13_splice_35 : decode cX13_splice 35 = .ok (.iload_n 3, 1) := by decide +kernel
theorem dX13_splice_36 : decode cX13_splice 36 = .ok (.isub, 1) := by decide +kernel
theorem dX13_splice_37 : decode cX13_splice 37 = .ok (.iload_n 1, 1) := by decide +kernel
theorem dX13_splice_38 : decode cX13_splice 38 = .ok (.isub, 1) := by decide +kernel
theorem dX13_splice_39 : decode cX13_splice 39 = .ok (.if_icmp .le 5, 3) := by decide +kernel
theorem dX13_splice_42 : decode cX13_splice 42 = .ok (.iconst (-1), 1) := by decide +kernel
theorem dX13_splice_43 : decode cX13_splice 43 = .ok (.ireturn, 1) := by decide +kernel
theorem dX13_splice_44 : decode cX13_splice 44 = .ok (.aload_n 0, 1) := by decide +kernel
theorem dX13_splice_45 : decode cX13_splice 45 = .ok (.getfield 57, 3) := by decide +kernel
theorem dX13_splice_48 : decode cX13_splice 48 = .ok (.iload_n 3, 1) := by decide +kernel
theorem dX13_splice_49 : decode cX13_splice 49 = .ok (.isub, 1) := by decide +kernel
theorem dX13_splice_50 : decode cX13_splice 50 = .ok (.istore 4, 2) := by decide +kernel
theorem dX13_splice_52 : decode cX13_splice 52 = .ok (.iconst 0, 1) := by decide +kernel
theorem dX13_splice_53 : decode cX13_splice 53 = .ok (.istore 5, 2) := by decide +kernel
theorem dX13_splice_55 : decode cX13_splice 55 = .ok (.iconst 0, 1) := by decide +kernel
theorem dX13_splice_56 : decode cX13_splice 56 = .ok (.istore 6, 2) := by decide +kernel
theorem dX13_splice_58 : decode cX13_splice 58 = .ok (.iload 6, 2) := by decide +kernel
theorem dX13_splice_60 : decode cX13_splice 60 = .ok (.iload_n 1, 1) := by decide +kernel
theorem dX13_splice_61 : decode cX13_splice 61 = .ok (.if_icmp .ge 26, 3) := by decide +kernel
theorem dX13_splice_64 : decode cX13_splice 64 = .ok (.aload_n 0, 1) := by decide +kernel
theorem dX13_splice_65 : decode cX13_splice 65 = .ok (.getfield 66, 3) := by decide +kernel
theorem dX13_splice_68 : decode cX13_splice 68 = .ok (.iload 5, 2) := by decide +kernel
theorem dX13_splice_70 : decode cX13_splice 70 = .ok (.iinc 5 1, 3) := by decide +kernel
theorem dX13_splice_73 : decode cX13_splice 73 = .ok (.aload_n 0, 1) := by decide +kernel
theorem dX13_splice_74 : decode cX13_splice 74 = .ok (.getfield 63, 3) := by decide +kernel
theorem dX13_splice_77 : decode cX13_splice 77 = .ok (.iload 6, 2) := by decide +kernel
theorem dX13_splice_79 : decode cX13_splice 79 = .ok (.iaload, 1) := by decide +kernel
theorem dX13_splice_80 : decode cX13_splice 80 = .ok (.iastore, 1) := by decide +kernel
theorem dX13_splice_81 : decode cX13_splice 81 = .ok (.iinc 6 1, 3) := by decide +kernel
theorem dX13_splice_84 : decode cX13_splice 84 = .ok (.goto (-26), 3) := by decide +kernel
theorem dX13_splice_87 : decode cX13_splice 87 = .ok (.iconst 0, 1) := by decide +kernel
theorem dX13_splice_88 : decode cX13_splice 88 = .ok (.istore 6, 2) := by decide +kernel
theorem dX13_splice_90 : decode cX13_splice 90 = .ok (.iload 6, 2) := by decide +kernel
theorem dX13_splice_92 : decode cX13_splice 92 = .ok (.iload_n 3, 1) := by decide +kernel
theorem dX13_splice_93 : decode cX13_splice 93 = .ok (.if_icmp .ge 29, 3) := by decide +kernel
theorem dX13_splice_96 : decode cX13_splice 96 = .ok (.aload_n 0, 1) := by decide +kernel
theorem dX13_splice_97 : decode cX13_splice 97 = .ok (.getfield 66, 3) := by decide +kernel
theorem dX13_splice_100 : decode cX13_splice 100 = .ok (.iload 5, 2) := by decide +kernel
theorem dX13_splice_102 : decode cX13_splice 102 = .ok (.iinc 5 1, 3) := by decide +kernel
theorem dX13_splice_105 : decode cX13_splice 105 = .ok (.aload_n 0, 1) := by decide +kernel
theorem dX13_splice_106 : decode cX13_splice 106 = .ok (.getfield 63, 3) := by decide +kernel
theorem dX13_splice_109 : decode cX13_splice 109 = .ok (.iload 4, 2) := by decide +kernel
theorem dX13_splice_111 : decode cX13_splice 111 = .ok (.iload 6, 2) := by decide +kernel
theorem dX13_splice_113 : decode cX13_splice 113 = .ok (.iadd, 1) := by decide +kernel
theorem dX13_splice_114 : decode cX13_splice 114 = .ok (.iaload, 1) := by decide +kernel
theorem dX13_splice_115 : decode cX13_splice 115 = .ok (.iastore, 1) := by decide +kernel
theorem dX13_splice_116 : decode cX13_splice 116 = .ok (.iinc 6 1, 3) := by decide +kernel
theorem dX13_splice_119 : decode cX13_splice 119 = .ok (.goto (-29), 3) := by decide +kernel
theorem dX13_splice_122 : decode cX13_splice 122 = .ok (.iload_n 1, 1) := by decide +kernel
theorem dX13_splice_123 : decode cX13_splice 123 = .ok (.iload_n 2, 1) := by decide +kernel
theorem dX13_splice_124 : decode cX13_splice 124 = .ok (.iadd, 1) := by decide +kernel
theorem dX13_splice_125 : decode cX13_splice 125 = .ok (.istore 6, 2) := by decide +kernel
theorem dX13_splice_127 : decode cX13_splice 127 = .ok (.iload 6, 2) := by decide +kernel
theorem dX13_splice_129 : decode cX13_splice 129 = .ok (.iload 4, 2) := by decide +kernel
theorem dX13_splice_131 : decode cX13_splice 131 = .ok (.if_icmp .ge 26, 3) := by decide +kernel
theorem dX13_splice_134 : decode cX13_splice 134 = .ok (.aload_n 0, 1) := by decide +kernel
theorem dX13_splice_135 : decode cX13_splice 135 = .ok (.getfield 66, 3) := by decide +kernel
theorem dX13_splice_138 : decode cX13_splice 138 = .ok (.iload 5, 2) := by decide +kernel
theorem dX13_splice_140 : decode cX13_splice 140 = .ok (.iinc 5 1, 3) := by decide +kernel
theorem dX13_splice_143 : decode cX13_splice 143 = .ok (.aload_n 0, 1) := by decide +kernel
theorem dX13_splice_144 : decode cX13_splice 144 = .ok (.getfield 63, 3) := by decide +kernel
theorem dX13_splice_147 : decode cX13_splice 147 = .ok (.iload 6, 2) := by decide +kernel
theorem dX13_splice_149 : decode cX13_splice 149 = .ok (.iaload, 1) := by decide +kernel
theorem dX13_splice_150 : decode cX13_splice 150 = .ok (.iastore, 1) := by decide +kernel
theorem dX13_splice_151 : decode cX13_splice 151 = .ok (.iinc 6 1, 3) := by decide +kernel
theorem dX13_splice_154 : decode cX13_splice 154 = .ok (.goto (-27), 3) := by decide +kernel
theorem dX13_splice_157 : decode cX13_splice 157 = .ok (.iconst 0, 1) := by decide +kernel
theorem dX13_splice_158 : decode cX13_splice 158 = .ok (.istore 6, 2) := by decide +kernel
theorem dX13_splice_160 : decode cX13_splice 160 = .ok (.iload 6, 2) := by decide +kernel
theorem dX13_splice_162 : decode cX13_splice 162 = .ok (.iload 5, 2) := by decide +kernel
theorem dX13_splice_164 : decode cX13_splice 164 = .ok (.if_icmp .ge 23, 3) := by decide +kernel
theorem dX13_splice_167 : decode cX13_splice 167 = .ok (.aload_n 0, 1) := by decide +kernel
theorem dX13_splice_168 : decode cX13_splice 168 = .ok (.getfield 63, 3) := by decide +kernel
theorem dX13_splice_171 : decode cX13_splice 171 = .ok (.iload 6, 2) := by decide +kernel
theorem dX13_splice_173 : decode cX13_splice 173 = .ok (.aload_n 0, 1) := by decide +kernel
theorem dX13_splice_174 : decode cX13_splice 174 = .ok (.getfield 66, 3) := by decide +kernel
theorem dX13_splice_177 : decode cX13_splice 177 = .ok (.iload 6, 2) := by decide +kernel
theorem dX13_splice_179 : decode cX13_splice 179 = .ok (.iaload, 1) := by decide +kernel
theorem dX13_splice_180 : decode cX13_splice 180 = .ok (.iastore, 1) := by decide +kernel
theorem dX13_splice_181 : decode cX13_splice 181 = .ok (.iinc 6 1, 3) := by decide +kernel
theorem dX13_splice_184 : decode cX13_splice 184 = .ok (.goto (-24), 3) := by decide +kernel
theorem dX13_splice_187 : decode cX13_splice 187 = .ok (.aload_n 0, 1) := by decide +kernel
theorem dX13_splice_188 : decode cX13_splice 188 = .ok (.iload 5, 2) := by decide +kernel
theorem dX13_splice_190 : decode cX13_splice 190 = .ok (.putfield 57, 3) := by decide +kernel
theorem dX13_splice_193 : decode cX13_splice 193 = .ok (.aload_n 0, 1) := by decide +kernel
theorem dX13_splice_194 : decode cX13_splice 194 = .ok (.getfield 57, 3) := by decide +kernel
theorem dX13_splice_197 : decode cX13_splice 197 = .ok (.ireturn, 1) := by decide +kernel
theorem dX13_size_0 : decode cX13_size 0 = .ok (.aload_n 0, 1) := by decide +kernel
theorem dX13_size_1 : decode cX13_size 1 = .ok (.getfield 15, 3) := by decide +kernel
theorem dX13_size_4 : decode cX13_size 4 = .ok (.ireturn, 1) := by decide +kernel
theorem dX13_octet_0 : decode cX13_octet 0 = .ok (.iload_n 1, 1) := by decide +kernel
theorem dX13_octet_1 : decode cX13_octet 1 = .ok (.ifCond .lt 11, 3) := by decide +kernel
theorem dX13_octet_4 : decode cX13_octet 4 = .ok (.iload_n 1, 1) := by decide +kernel
theorem dX13_octet_5 : decode cX13_octet 5 = .ok (.aload_n 0, 1) := by decide +kernel
theorem dX13_octet_6 : decode cX13_octet 6 = .ok (.getfield 15, 3) := by decide +kernel
theorem dX13_octet_9 : decode cX13_octet 9 = .ok (.if_icmp .lt 7, 3) := by decide +kernel
theorem dX13_octet_12 : decode cX13_octet 12 = .ok (.iconst (-1), 1) := by decide +kernel
theorem dX13_octet_13 : decode cX13_octet 13 = .ok (.goto 9, 3) := by decide +kernel
theorem dX13_octet_16 : decode cX13_octet 16 = .ok (.aload_n 0, 1) := by decide +kernel
theorem dX13_octet_17 : decode cX13_octet 17 = .ok (.getfield 11, 3) := by decide +kernel
theorem dX13_octet_20 : decode cX13_octet 20 = .ok (.iload_n 1, 1) := by decide +kernel
theorem dX13_octet_21 : decode cX13_octet 21 = .ok (.iaload, 1) := by decide +kernel
theorem dX13_octet_22 : decode cX13_octet 22 = .ok (.ireturn, 1) := by decide +kernel
theorem dX13_wordTable_0 : decode cX13_wordTable 0 = .ok (.lconst 0, 1) := by decide +kernel
theorem dX13_wordTable_1 : decode cX13_wordTable 1 = .ok (.lstore_n 1, 1) := by decide +kernel
theorem dX13_wordTable_2 : decode cX13_wordTable 2 = .ok (.iconst 1, 1) := by decide +kernel
theorem dX13_wordTable_3 : decode cX13_wordTable 3 = .ok (.istore_n 3, 1) := by decide +kernel
theorem dX13_wordTable_4 : decode cX13_wordTable 4 = .ok (.iload_n 3, 1) := by decide +kernel
theorem dX13_wordTable_5 : decode cX13_wordTable 5 = .ok (.ldc 69, 2) := by decide +kernel
theorem dX13_wordTable_7 : decode cX13_wordTable 7 = .ok (.invokevirtual 19, 3) := by decide +kernel
theorem dX13_wordTable_10 : decode cX13_wordTable 10 = .ok (.if_icmp .ge 61, 3) := by decide +kernel
theorem dX13_wordTable_13 : decode cX13_wordTable 13 = .ok (.ldc 69, 2) := by decide +kernel
theorem dX13_wordTable_15 : decode cX13_wordTable 15 = .ok (.iload_n 3, 1) := by decide +kernel
theorem dX13_wordTable_16 : decode cX13_wordTable 16 = .ok (.invokevirtual 25, 3) := by decide +kernel
theorem dX13_wordTable_19 : decode cX13_wordTable 19 = .ok (.bipush 32, 2) := by decide +kernel
theorem dX13_wordTable_21 : decode cX13_wordTable 21 = .ok (.if_icmp .ne 28, 3) := by decide +kernel
theorem dX13_wordTable_24 : decode cX13_wordTable 24 = .ok (.aload_n 0, 1) := by decide +kernel
theorem dX13_wordTable_25 : decode cX13_wordTable 25 = .ok (.getfield 71, 3) := by decide +kernel
theorem dX13_wordTable_28 : decode cX13_wordTable 28 = .ok (.aload_n 0, 1) := by decide +kernel
theorem dX13_wordTable_29 : decode cX13_wordTable 29 = .ok (.getfield 75, 3) := by decide +kernel
theorem dX13_wordTable_32 : decode cX13_wordTable 32 = .ok (.lload_n 1, 1) := by decide +kernel
theorem dX13_wordTable_33 : decode cX13_wordTable 33 = .ok (.lastore, 1) := by decide +kernel
theorem dX13_wordTable_34 : decode cX13_wordTable 34 = .ok (.aload_n 0, 1) := by decide +kernel
theorem dX13_wordTable_35 : decode cX13_wordTable 35 = .ok (.dup, 1) := by decide +kernel
theorem dX13_wordTable_36 : decode cX13_wordTable 36 = .ok (.getfield 75, 3) := by decide +kernel
theorem dX13_wordTable_39 : decode cX13_wordTable 39 = .ok (.iconst 1, 1) := by decide +kernel
theorem dX13_wordTable_40 : decode cX13_wordTable 40 = .ok (.iadd, 1) := by decide +kernel
theorem dX13_wordTable_41 : decode cX13_wordTable 41 = .ok (.putfield 75, 3) := by decide +kernel
theorem dX13_wordTable_44 : decode cX13_wordTable 44 = .ok (.lconst 0, 1) := by decide +kernel
theorem dX13_wordTable_45 : decode cX13_wordTable 45 = .ok (.lstore_n 1, 1) := by decide +kernel
theorem dX13_wordTable_46 : decode cX13_wordTable 46 = .ok (.goto 19, 3) := by decide +kernel
theorem dX13_wordTable_49 : decode cX13_wordTable 49 = .ok (.lload_n 1, 1) := by decide +kernel
theorem dX13_wordTable_50 : decode cX13_wordTable 50 = .ok (.bipush 6, 2) := by decide +kernel
theorem dX13_wordTable_52 : decode cX13_wordTable 52 = .ok (.lshl, 1) := by decide +kernel
theorem dX13_wordTable_53 : decode cX13_wordTable 53 = .ok (.ldc 69, 2) := by decide +kernel
theorem dX13_wordTable_55 : decode cX13_wordTable 55 = .ok (.iload_n 3, 1) := by decide +kernel
theorem dX13_wordTable_56 : decode cX13_wordTable 56 = .ok (.invokevirtual 25, 3) := by decide +kernel
theorem dX13_wordTable_59 : decode cX13_wordTable 59 = .ok (.invokestatic 78, 3) := by decide +kernel
theorem dX13_wordTable_62 : decode cX13_wordTable 62 = .ok (.i2l, 1) := by decide +kernel
theorem dX13_wordTable_63 : decode cX13_wordTable 63 = .ok (.lor, 1) := by decide +kernel
theorem dX13_wordTable_64 : decode cX13_wordTable 64 = .ok (.lstore_n 1, 1) := by decide +kernel
theorem dX13_wordTable_65 : decode cX13_wordTable 65 = .ok (.iinc 3 1, 3) := by decide +kernel
theorem dX13_wordTable_68 : decode cX13_wordTable 68 = .ok (.goto (-64), 3) := by decide +kernel
theorem dX13_wordTable_71 : decode cX13_wordTable 71 = .ok (.return_, 1) := by decide +kernel
theorem dX13_nameOf_0 : decode cX13_nameOf 0 = .ok (.lconst 0, 1) := by decide +kernel
theorem dX13_nameOf_1 : decode cX13_nameOf 1 = .ok (.lstore_n 1, 1) := by decide +kernel
theorem dX13_nameOf_2 : decode cX13_nameOf 2 = .ok (.iconst 0, 1) := by decide +kernel
theorem dX13_nameOf_3 : decode cX13_nameOf 3 = .ok (.istore_n 3, 1) := by decide +kernel
theorem dX13_nameOf_4 : decode cX13_nameOf 4 = .ok (.iload_n 3, 1) := by decide +kernel
theorem dX13_nameOf_5 : decode cX13_nameOf 5 = .ok (.aload_n 0, 1) := by decide +kernel
theorem dX13_nameOf_6 : decode cX13_nameOf 6 = .ok (.invokevirtual 19, 3) := by decide +kernel
theorem dX13_nameOf_9 : decode cX13_nameOf 9 = .ok (.if_icmp .ge 24, 3) := by decide +kernel
theorem dX13_nameOf_12 : decode cX13_nameOf 12 = .ok (.lload_n 1, 1) := by decide +kernel
theorem dX13_nameOf_13 : decode cX13_nameOf 13 = .ok (.bipush 6, 2) := by decide +kernel
theorem dX13_nameOf_15 : decode cX13_nameOf 15 = .ok (.lshl, 1) := by decide +kernel
theorem dX13_nameOf_16 : decode cX13_nameOf 16 = .ok (.aload_n 0, 1) := by decide +kernel
theorem dX13_nameOf_17 : decode cX13_nameOf 17 = .ok (.iload_n 3, 1) := by decide +kernel
theorem dX13_nameOf_18 : decode cX13_nameOf 18 = .ok (.invokevirtual 25, 3) := by decide +kernel
theorem dX13_nameOf_21 : decode cX13_nameOf 21 = .ok (.invokestatic 78, 3) := by decide +kernel
theorem dX13_nameOf_24 : decode cX13_nameOf 24 = .ok (.i2l, 1) := by decide +kernel
theorem dX13_nameOf_25 : decode cX13_nameOf 25 = .ok (.lor, 1) := by decide +kernel
theorem dX13_nameOf_26 : decode cX13_nameOf 26 = .ok (.lstore_n 1, 1) := by decide +kernel
theorem dX13_nameOf_27 : decode cX13_nameOf 27 = .ok (.iinc 3 1, 3) := by decide +kernel
theorem dX13_nameOf_30 : decode cX13_nameOf 30 = .ok (.goto (-26), 3) := by decide +kernel
theorem dX13_nameOf_33 : decode cX13_nameOf 33 = .ok (.lload_n 1, 1) := by decide +kernel
theorem dX13_nameOf_34 : decode cX13_nameOf 34 = .ok (.lreturn, 1) := by decide +kernel
theorem dX13_isWord_0 : decode cX13_isWord 0 = .ok (.iconst 0, 1) := by decide +kernel
theorem dX13_isWord_1 : decode cX13_isWord 1 = .ok (.istore_n 3, 1) := by decide +kernel
theorem dX13_isWord_2 : decode cX13_isWord 2 = .ok (.iload_n 3, 1) := by decide +kernel
theorem dX13_isWord_3 : decode cX13_isWord 3 = .ok (.aload_n 0, 1) := by decide +kernel
theorem dX13_isWord_4 : decode cX13_isWord 4 = .ok (.getfield 75, 3) := by decide +kernel
theorem dX13_isWord_7 : decode cX13_isWord 7 = .ok (.if_icmp .ge 22, 3) := by decide +kernel
theorem dX13_isWord_10 : decode cX13_isWord 10 = .ok (.aload_n 0, 1) := by decide +kernel
theorem dX13_isWord_11 : decode cX13_isWord 11 = .ok (.getfield 71, 3) := by decide +kernel
theorem dX13_isWord_14 : decode cX13_isWord 14 = .ok (.iload_n 3, 1) := by decide +kernel
theorem dX13_isWord_15 : decode cX13_isWord 15 = .ok (.laload, 1) := by decide +kernel
theorem dX13_isWord_16 : decode cX13_isWord 16 = .ok (.lload_n 1, 1) := by decide +kernel
theorem dX13_isWord_17 : decode cX13_isWord 17 = .ok (.lcmp, 1) := by decide +kernel
theorem dX13_isWord_18 : decode cX13_isWord 18 = .ok (.ifCond .ne 5, 3) := by decide +kernel
theorem dX13_isWord_21 : decode cX13_isWord 21 = .ok (.iconst 1, 1) := by decide +kernel
theorem dX13_isWord_22 : decode cX13_isWord 22 = .ok (.ireturn, 1) := by decide +kernel
theorem dX13_isWord_23 : decode cX13_isWord 23 = .ok (.iinc 3 1, 3) := by decide +kernel
theorem dX13_isWord_26 : decode cX13_isWord 26 = .ok (.goto (-24), 3) := by decide +kernel
theorem dX13_isWord_29 : decode cX13_isWord 29 = .ok (.iconst 0, 1) := by decide +kernel
theorem dX13_isWord_30 : decode cX13_isWord 30 = .ok (.ireturn, 1) := by decide +kernel
theorem dX13_byteAt_0 : decode cX13_byteAt 0 = .ok (.iload_n 1, 1) := by decide +kernel
theorem dX13_byteAt_1 : decode cX13_byteAt 1 = .ok (.aload_n 0, 1) := by decide +kernel
theorem dX13_byteAt_2 : decode cX13_byteAt 2 = .ok (.getfield 81, 3) := by decide +kernel
theorem dX13_byteAt_5 : decode cX13_byteAt 5 = .ok (.aload_n 0, 1) := by decide +kernel
theorem dX13_byteAt_6 : decode cX13_byteAt 6 = .ok (.getfield 84, 3) := by decide +kernel
theorem dX13_byteAt_9 : decode cX13_byteAt 9 = .ok (.iaload, 1) := by decide +kernel
theorem dX13_byteAt_10 : decode cX13_byteAt 10 = .ok (.if_icmp .ge 25, 3) := by decide +kernel
theorem dX13_byteAt_13 : decode cX13_byteAt 13 = .ok (.aload_n 0, 1) := by decide +kernel
theorem dX13_byteAt_14 : decode cX13_byteAt 14 = .ok (.getfield 87, 3) := by decide +kernel
theorem dX13_byteAt_17 : decode cX13_byteAt 17 = .ok (.aload_n 0, 1) := by decide +kernel
theorem dX13_byteAt_18 : decode cX13_byteAt 18 = .ok (.getfield 84, 3) := by decide +kernel
theorem dX13_byteAt_21 : decode cX13_byteAt 21 = .ok (.sipush 4000, 3) := by decide +kernel
theorem dX13_byteAt_24 : decode cX13_byteAt 24 = .ok (.imul, 1) := by decide +kernel
theorem dX13_byteAt_25 : decode cX13_byteAt 25 = .ok (.iload_n 1, 1) := by decide +kernel
theorem dX13_byteAt_26 : decode cX13_byteAt 26 = .ok (.iadd, 1) := by decide +kernel
theorem dX13_byteAt_27 : decode cX13_byteAt 27 = .ok (.baload, 1) := by decide +kernel
theorem dX13_byteAt_28 : decode cX13_byteAt 28 = .ok (.sipush 255, 3) := by decide +kernel
theorem dX13_byteAt_31 : decode cX13_byteAt 31 = .ok (.iand, 1) := by decide +kernel
theorem dX13_byteAt_32 : decode cX13_byteAt 32 = .ok (.goto 4, 3) := by decide +kernel
theorem dX13_byteAt_35 : decode cX13_byteAt 35 = .ok (.iconst 0, 1) := by decide +kernel
theorem dX13_byteAt_36 : decode cX13_byteAt 36 = .ok (.ireturn, 1) := by decide +kernel
theorem dX13_isSmall_0 : decode cX13_isSmall 0 = .ok (.iload_n 0, 1) := by decide +kernel
theorem dX13_isSmall_1 : decode cX13_isSmall 1 = .ok (.bipush 97, 2) := by decide +kernel
theorem dX13_isSmall_3 : decode cX13_isSmall 3 = .ok (.if_icmp .lt 13, 3) := by decide +kernel
theorem dX13_isSmall_6 : decode cX13_isSmall 6 = .ok (.iload_n 0, 1) := by decide +kernel
theorem dX13_isSmall_7 : decode cX13_isSmall 7 = .ok (.bipush 122, 2) := by decide +kernel
theorem dX13_isSmall_9 : decode cX13_isSmall 9 = .ok (.if_icmp .gt 7, 3) := by decide +kernel
theorem dX13_isSmall_12 : decode cX13_isSmall 12 = .ok (.iconst 1, 1) := by decide +kernel
theorem dX13_isSmall_13 : decode cX13_isSmall 13 = .ok (.goto 4, 3) := by decide +kernel
theorem dX13_isSmall_16 : decode cX13_isSmall 16 = .ok (.iconst 0, 1) := by decide +kernel
theorem dX13_isSmall_17 : decode cX13_isSmall 17 = .ok (.ireturn, 1) := by decide +kernel
theorem dX13_isGreat_0 : decode cX13_isGreat 0 = .ok (.iload_n 0, 1) := by decide +kernel
theorem dX13_isGreat_1 : decode cX13_isGreat 1 = .ok (.bipush 65, 2) := by decide +kernel
theorem dX13_isGreat_3 : decode cX13_isGreat 3 = .ok (.if_icmp .lt 13, 3) := by decide +kernel
theorem dX13_isGreat_6 : decode cX13_isGreat 6 = .ok (.iload_n 0, 1) := by decide +kernel
theorem dX13_isGreat_7 : decode cX13_isGreat 7 = .ok (.bipush 90, 2) := by decide +kernel
theorem dX13_isGreat_9 : decode cX13_isGreat 9 = .ok (.if_icmp .gt 7, 3) := by decide +kernel
theorem dX13_isGreat_12 : decode cX13_isGreat 12 = .ok (.iconst 1, 1) := by decide +kernel
theorem dX13_isGreat_13 : decode cX13_isGreat 13 = .ok (.goto 4, 3) := by decide +kernel
theorem dX13_isGreat_16 : decode cX13_isGreat 16 = .ok (.iconst 0, 1) := by decide +kernel
theorem dX13_isGreat_17 : decode cX13_isGreat 17 = .ok (.ireturn, 1) := by decide +kernel
theorem dX13_tokenize_0 : decode cX13_tokenize 0 = .ok (.iconst 0, 1) := by decide +kernel
theorem dX13_tokenize_1 : decode cX13_tokenize 1 = .ok (.istore_n 1, 1) := by decide +kernel
theorem dX13_tokenize_2 : decode cX13_tokenize 2 = .ok (.iconst 0, 1) := by decide +kernel
theorem dX13_tokenize_3 : decode cX13_tokenize 3 = .ok (.istore_n 2, 1) := by decide +kernel
theorem dX13_tokenize_4 : decode cX13_tokenize 4 = .ok (.iconst 1, 1) := by decide +kernel
theorem dX13_tokenize_5 : decode cX13_tokenize 5 = .ok (.istore_n 3, 1) := by decide +kernel
theorem dX13_tokenize_6 : decode cX13_tokenize 6 = .ok (.iload_n 3, 1) := by decide +kernel
theorem dX13_tokenize_7 : decode cX13_tokenize 7 = .ok (.ifCond .eq 165, 3) := by decide +kernel
theorem dX13_tokenize_10 : decode cX13_tokenize 10 = .ok (.iload_n 1, 1) := by decide +kernel
theorem dX13_tokenize_11 : decode cX13_tokenize 11 = .ok (.aload_n 0, 1) := by decide +kernel
theorem dX13_tokenize_12 : decode cX13_tokenize 12 = .ok (.getfield 81, 3) := by decide +kernel
theorem dX13_tokenize_15 : decode cX13_tokenize 15 = .ok (.aload_n 0, 1) := by decide +kernel
theorem dX13_tokenize_16 : decode cX13_tokenize 16 = .ok (.getfield 84, 3) := by decide +kernel
theorem dX13_tokenize_19 : decode cX13_tokenize 19 = .ok (.iaload, 1) := by decide +kernel
theorem dX13_tokenize_20 : decode cX13_tokenize 20 = .ok (.if_icmp .ge 29, 3) := by decide +kernel
theorem dX13_tokenize_23 : decode cX13_tokenize 23 = .ok (.aload_n 0, 1) := by decide +kernel
theorem dX13_tokenize_24 : decode cX13_tokenize 24 = .ok (.iload_n 1, 1) := by decide +kernel
theorem dX13_tokenize_25 : decode cX13_tokenize 25 = .ok (.invokevirtual 91, 3) := by decide +kernel
theorem dX13_tokenize_28 : decode cX13_tokenize 28 = .ok (.bipush 10, 2) := by decide +kernel
theorem dX13_tokenize_30 : decode cX13_tokenize 30 = .ok (.if_icmp .eq 13, 3) := by decide +kernel
theorem dX13_tokenize_33 : decode cX13_tokenize 33 = .ok (.aload_n 0, 1) := by decide +kernel
theorem dX13_tokenize_34 : decode cX13_tokenize 34 = .ok (.iload_n 1, 1) := by decide +kernel
theorem dX13_tokenize_35 : decode cX13_tokenize 35 = .ok (.invokevirtual 91, 3) := by decide +kernel
theorem dX13_tokenize_38 : decode cX13_tokenize 38 = .ok (.bipush 32, 2) := by decide +kernel
theorem dX13_tokenize_40 : decode cX13_tokenize 40 = .ok (.if_icmp .ne 9, 3) := by decide +kernel
theorem dX13_tokenize_43 : decode cX13_tokenize 43 = .ok (.iinc 1 1, 3) := by decide +kernel
theorem dX13_tokenize_46 : decode cX13_tokenize 46 = .ok (.goto (-36), 3) := by decide +kernel
theorem dX13_tokenize_49 : decode cX13_tokenize 49 = .ok (.aload_n 0, 1) := by decide +kernel
theorem dX13_tokenize_50 : decode cX13_tokenize 50 = .ok (.getfield 84, 3) := by decide +kernel
theorem dX13_tokenize_53 : decode cX13_tokenize 53 = .ok (.sipush 702, 3) := by decide +kernel
theorem dX13_tokenize_56 : decode cX13_tokenize 56 = .ok (.imul, 1) := by decide +kernel
theorem dX13_tokenize_57 : decode cX13_tokenize 57 = .ok (.iload_n 2, 1) := by decide +kernel
theorem dX13_tokenize_58 : decode cX13_tokenize 58 = .ok (.iadd, 1) := by decide +kernel
theorem dX13_tokenize_59 : decode cX13_tokenize 59 = .ok (.istore 4, 2) := by decide +kernel
theorem dX13_tokenize_61 : decode cX13_tokenize 61 = .ok (.aload_n 0, 1) := by decide +kernel
theorem dX13_tokenize_62 : decode cX13_tokenize 62 = .ok (.getfield 94, 3) := by decide +kernel
theorem dX13_tokenize_65 : decode cX13_tokenize 65 = .ok (.iload 4, 2) := by decide +kernel
theorem dX13_tokenize_67 : decode cX13_tokenize 67 = .ok (.iload_n 1, 1) := by decide +kernel
theorem dX13_tokenize_68 : decode cX13_tokenize 68 = .ok (.iastore, 1) := by decide +kernel
theorem dX13_tokenize_69 : decode cX13_tokenize 69 = .ok (.aload_n 0, 1) := by decide +kernel
theorem dX13_tokenize_70 : decode cX13_tokenize 70 = .ok (.getfield 97, 3) := by decide +kernel
theorem dX13_tokenize_73 : decode cX13_tokenize 73 = .ok (.iload 4, 2) := by decide +kernel
theorem dX13_tokenize_75 : decode cX13_tokenize 75 = .ok (.lconst 0, 1) := by decide +kernel
theorem dX13_tokenize_76 : decode cX13_tokenize 76 = .ok (.lastore, 1) := by decide +kernel
theorem dX13_tokenize_77 : decode cX13_tokenize 77 = .ok (.aload_n 0, 1) := by decide +kernel
theorem dX13_tokenize_78 : decode cX13_tokenize 78 = .ok (.getfield 100, 3) := by decide +kernel
theorem dX13_tokenize_81 : decode cX13_tokenize 81 = .ok (.iload 4, 2) := by decide +kernel
theorem dX13_tokenize_83 : decode cX13_tokenize 83 = .ok (.iconst 0, 1) := by decide +kernel
theorem dX13_tokenize_84 : decode cX13_tokenize 84 = .ok (.iastore, 1) := by decide +kernel
theorem dX13_tokenize_85 : decode cX13_tokenize 85 = .ok (.aload_n 0, 1) := by decide +kernel
theorem dX13_tokenize_86 : decode cX13_tokenize 86 = .ok (.getfield 103, 3) := by decide +kernel
theorem dX13_tokenize_89 : decode cX13_tokenize 89 = .ok (.iload 4, 2) := by decide +kernel
theorem dX13_tokenize_91 : decode cX13_tokenize 91 = .ok (.iconst 0, 1) := by decide +kernel
theorem dX13_tokenize_92 : decode cX13_tokenize 92 = .ok (.iastore, 1) := by decide +kernel
theorem dX13_tokenize_93 : decode cX13_tokenize 93 = .ok (.iload_n 1, 1) := by decide +kernel
theorem dX13_tokenize_94 : decode cX13_tokenize 94 = .ok (.aload_n 0, 1) := by decide +kernel
theorem dX13_tokenize_95 : decode cX13_tokenize 95 = .ok (.getfield 81, 3) := by decide +kernel
theorem dX13_tokenize_98 : decode cX13_tokenize 98 = .ok (.aload_n 0, 1) := by decide +kernel
theorem dX13_tokenize_99 : decode cX13_tokenize 99 = .ok (.getfield 84, 3) := by decide +kernel
theorem dX13_tokenize_102 : decode cX13_tokenize 102 = .ok (.iaload, 1) := by decide +kernel
theorem dX13_tokenize_103 : decode cX13_tokenize 103 = .ok (.if_icmp .ge 13, 3) := by decide +kernel
theorem dX13_tokenize_106 : decode cX13_tokenize 106 = .ok (.aload_n 0, 1) := by decide +kernel
theorem dX13_tokenize_107 : decode cX13_tokenize 107 = .ok (.iload 4, 2) := by decide +kernel
theorem dX13_tokenize_109 : decode cX13_tokenize 109 = .ok (.iload_n 1, 1) := by decide +kernel
theorem dX13_tokenize_110 : decode cX13_tokenize 110 = .ok (.invokevirtual 106, 3) := by decide +kernel
theorem dX13_tokenize_113 : decode cX13_tokenize 113 = .ok (.goto 4, 3) := by decide +kernel
theorem dX13_tokenize_116 : decode cX13_tokenize 116 = .ok (.iload_n 1, 1) := by decide +kernel
theorem dX13_tokenize_117 : decode cX13_tokenize 117 = .ok (.istore 5, 2) := by decide +kernel
theorem dX13_tokenize_119 : decode cX13_tokenize 119 = .ok (.aload_n 0, 1) := by decide +kernel
theorem dX13_tokenize_120 : decode cX13_tokenize 120 = .ok (.getfield 110, 3) := by decide +kernel
theorem dX13_tokenize_123 : decode cX13_tokenize 123 = .ok (.iload 4, 2) := by decide +kernel
theorem dX13_tokenize_125 : decode cX13_tokenize 125 = .ok (.iload 5, 2) := by decide +kernel
theorem dX13_tokenize_127 : decode cX13_tokenize 127 = .ok (.iastore, 1) := by decide +kernel
theorem dX13_tokenize_128 : decode cX13_tokenize 128 = .ok (.aload_n 0, 1) := by decide +kernel
theorem dX13_tokenize_129 : decode cX13_tokenize 129 = .ok (.getfield 103, 3) := by decide +kernel
theorem dX13_tokenize_132 : decode cX13_tokenize 132 = .ok (.iload 4, 2) := by decide +kernel
theorem dX13_tokenize_134 : decode cX13_tokenize 134 = .ok (.iaload, 1) := by decide +kernel
theorem dX13_tokenize_135 : decode cX13_tokenize 135 = .ok (.ifCond .eq 26, 3) := by decide +kernel
theorem dX13_tokenize_138 : decode cX13_tokenize 138 = .ok (.aload_n 0, 1) := by decide +kernel
theorem dX13_tokenize_139 : decode cX13_tokenize 139 = .ok (.getfield 103, 3) := by decide +kernel
theorem dX13_tokenize_142 : decode cX13_tokenize 142 = .ok (.iload 4, 2) := by decide +kernel
theorem dX13_tokenize_144 : decode cX13_tokenize 144 = .ok (.iaload, 1) := by decide +kernel
theorem dX13_tokenize_145 : decode cX13_tokenize 145 = .ok (.bipush 6, 2) := by decide +kernel
theorem dX13_tokenize_147 : decode cX13_tokenize 147 = .ok (.if_icmp .eq 14, 3) := by decide +kernel
theorem dX13_tokenize_150 : decode cX13_tokenize 150 = .ok (.iload_n 2, 1) := by decide +kernel
theorem dX13_tokenize_151 : decode cX13_tokenize 151 = .ok (.sipush 700, 3) := by decide +kernel
theorem dX13_tokenize_154 : decode cX13_tokenize 154 = .ok (.if_icmp .ge 7, 3) := by decide +kernel
theorem dX13_tokenize_157 : decode cX13_tokenize 157 = .ok (.iconst 1, 1) := by decide +kernel
theorem dX13_tokenize_158 : decode cX13_tokenize 158 = .ok (.goto 4, 3) := by decide +kernel
theorem dX13_tokenize_161 : decode cX13_tokenize 161 = .ok (.iconst 0, 1) := by decide +kernel
theorem dX13_tokenize_162 : decode cX13_tokenize 162 = .ok (.istore_n 3, 1) := by decide +kernel
theorem dX13_tokenize_163 : decode cX13_tokenize 163 = .ok (.iload 5, 2) := by decide +kernel
theorem dX13_tokenize_165 : decode cX13_tokenize 165 = .ok (.istore_n 1, 1) := by decide +kernel
theorem dX13_tokenize_166 : decode cX13_tokenize 166 = .ok (.iinc 2 1, 3) := by decide +kernel
theorem dX13_tokenize_169 : decode cX13_tokenize 169 = .ok (.goto (-163), 3) := by decide +kernel
theorem dX13_tokenize_172 : decode cX13_tokenize 172 = .ok (.aload_n 0, 1) := by decide +kernel
theorem dX13_tokenize_173 : decode cX13_tokenize 173 = .ok (.getfield 113, 3) := by decide +kernel
theorem dX13_tokenize_176 : decode cX13_tokenize 176 = .ok (.aload_n 0, 1) := by decide +kernel
theorem dX13_tokenize_177 : decode cX13_tokenize 177 = .ok (.getfield 84, 3) := by decide +kernel
theorem dX13_tokenize_180 : decode cX13_tokenize 180 = .ok (.iload_n 2, 1) := by decide +kernel
theorem dX13_tokenize_181 : decode cX13_tokenize 181 = .ok (.iastore, 1) := by decide +kernel
theorem dX13_tokenize_182 : decode cX13_tokenize 182 = .ok (.return_, 1) := by decide +kernel
theorem dX13_wordEnd_0 : decode cX13_wordEnd 0 = .ok (.iload_n 1, 1) := by decide +kernel
theorem dX13_wordEnd_1 : decode cX13_wordEnd 1 = .ok (.istore_n 2, 1) := by decide +kernel
theorem dX13_wordEnd_2 : decode cX13_wordEnd 2 = .ok (.aload_n 0, 1) := by decide +kernel
theorem dX13_wordEnd_3 : decode cX13_wordEnd 3 = .ok (.iload_n 2, 1) := by decide +kernel
theorem dX13_wordEnd_4 : decode cX13_wordEnd 4 = .ok (.invokevirtual 91, 3) := by decide +kernel
theorem dX13_wordEnd_7 : decode cX13_wordEnd 7 = .ok (.invokestatic 78, 3) := by decide +kernel
theorem dX13_wordEnd_10 : decode cX13_wordEnd 10 = .ok (.ifCond .eq 9, 3) := by decide +kernel
theorem dX13_wordEnd_13 : decode cX13_wordEnd 13 = .ok (.iinc 2 1, 3) := by decide +kernel
theorem dX13_wordEnd_16 : decode cX13_wordEnd 16 = .ok (.goto (-14), 3) := by decide +kernel
theorem dX13_wordEnd_19 : decode cX13_wordEnd 19 = .ok (.iload_n 2, 1) := by decide +kernel
theorem dX13_wordEnd_20 : decode cX13_wordEnd 20 = .ok (.ireturn, 1) := by decide +kernel
theorem dX13_tokenAt_0 : decode cX13_tokenAt 0 = .ok (.aload_n 0, 1) := by decide +kernel
theorem dX13_tokenAt_1 : decode cX13_tokenAt 1 = .ok (.iload_n 2, 1) := by decide +kernel
theorem dX13_tokenAt_2 : decode cX13_tokenAt 2 = .ok (.invokevirtual 91, 3) := by decide +kernel
theorem dX13_tokenAt_5 : decode cX13_tokenAt 5 = .ok (.istore_n 3, 1) := by decide +kernel
theorem dX13_tokenAt_6 : decode cX13_tokenAt 6 = .ok (.iload_n 3, 1) := by decide +kernel
theorem dX13_tokenAt_7 : decode cX13_tokenAt 7 = .ok (.invokestatic 116, 3) := by decide +kernel
theorem dX13_tokenAt_10 : decode cX13_tokenAt 10 = .ok (.ifCond .eq 125, 3) := by decide +kernel
theorem dX13_tokenAt_13 : decode cX13_tokenAt 13 = .ok (.aload_n 0, 1) := by decide +kernel
theorem dX13_tokenAt_14 : decode cX13_tokenAt 14 = .ok (.iload_n 2, 1) := by decide +kernel
theorem dX13_tokenAt_15 : decode cX13_tokenAt 15 = .ok (.iconst 1, 1) := by decide +kernel
theorem dX13_tokenAt_16 : decode cX13_tokenAt 16 = .ok (.iadd, 1) := by decide +kernel
theorem dX13_tokenAt_17 : decode cX13_tokenAt 17 = .ok (.invokevirtual 91, 3) := by decide +kernel
theorem dX13_tokenAt_20 : decode cX13_tokenAt 20 = .ok (.bipush 46, 2) := by decide +kernel
theorem dX13_tokenAt_22 : decode cX13_tokenAt 22 = .ok (.if_icmp .ne 113, 3) := by decide +kernel
theorem dX13_tokenAt_25 : decode cX13_tokenAt 25 = .ok (.aload_n 0, 1) := by decide +kernel
theorem dX13_tokenAt_26 : decode cX13_tokenAt 26 = .ok (.iload_n 2, 1) := by decide +kernel
theorem dX13_tokenAt_27 : decode cX13_tokenAt 27 = .ok (.iconst 2, 1) := by decide +kernel
theorem dX13_tokenAt_28 : decode cX13_tokenAt 28 = .ok (.iadd, 1) := by decide +kernel
theorem dX13_tokenAt_29 : decode cX13_tokenAt 29 = .ok (.invokevirtual 91, 3) := by decide +kernel
theorem dX13_tokenAt_32 : decode cX13_tokenAt 32 = .ok (.invokestatic 120, 3) := by decide +kernel
theorem dX13_tokenAt_35 : decode cX13_tokenAt 35 = .ok (.ifCond .eq 100, 3) := by decide +kernel
theorem dX13_tokenAt_38 : decode cX13_tokenAt 38 = .ok (.aload_n 0, 1) := by decide +kernel
theorem dX13_tokenAt_39 : decode cX13_tokenAt 39 = .ok (.iload_n 2, 1) := by decide +kernel
theorem dX13_tokenAt_40 : decode cX13_tokenAt 40 = .ok (.iconst 2, 1) := by decide +kernel
theorem dX13_tokenAt_41 : decode cX13_tokenAt 41 = .ok (.iadd, 1) := by decide +kernel
theorem dX13_tokenAt_42 : decode cX13_tokenAt 42 = .ok (.invokevirtual 123, 3) := by decide +kernel
theorem dX13_tokenAt_45 : decode cX13_tokenAt 45 = .ok (.istore 4, 2) := by decide +kernel
theorem dX13_tokenAt_47 : decode cX13_tokenAt 47 = .ok (.aload_n 0, 1) := by decide +kernel
theorem dX13_tokenAt_48 : decode cX13_tokenAt 48 = .ok (.getfield 103, 3) := by decide +kernel
theorem dX13_tokenAt_51 : decode cX13_tokenAt 51 = .ok (.iload_n 1, 1) := by decide +kernel
theorem dX13_tokenAt_52 : decode cX13_tokenAt 52 = .ok (.iload 4, 2) := by decide +kernel
theorem dX13_tokenAt_54 : decode cX13_tokenAt 54 = .ok (.iload_n 2, 1) := by decide +kernel
theorem dX13_tokenAt_55 : decode cX13_tokenAt 55 = .ok (.isub, 1) := by decide +kernel
theorem dX13_tokenAt_56 : decode cX13_tokenAt 56 = .ok (.bipush 11, 2) := by decide +kernel
theorem dX13_tokenAt_58 : decode cX13_tokenAt 58 = .ok (.if_icmp .le 8, 3) := by decide +kernel
theorem dX13_tokenAt_61 : decode cX13_tokenAt 61 = .ok (.bipush 6, 2) := by decide +kernel
theorem dX13_tokenAt_63 : decode cX13_tokenAt 63 = .ok (.goto 4, 3) := by decide +kernel
theorem dX13_tokenAt_66 : decode cX13_tokenAt 66 = .ok (.iconst 1, 1) := by decide +kernel
theorem dX13_tokenAt_67 : decode cX13_tokenAt 67 = .ok (.iastore, 1) := by decide +kernel
theorem dX13_tokenAt_68 : decode cX13_tokenAt 68 = .ok (.iload_n 3, 1) := by decide +kernel
theorem dX13_tokenAt_69 : decode cX13_tokenAt 69 = .ok (.invokestatic 78, 3) := by decide +kernel
theorem dX13_tokenAt_72 : decode cX13_tokenAt 72 = .ok (.i2l, 1) := by decide +kernel
theorem dX13_tokenAt_73 : decode cX13_tokenAt 73 = .ok (.lstore 5, 2) := by decide +kernel
theorem dX13_tokenAt_75 : decode cX13_tokenAt 75 = .ok (.iload_n 2, 1) := by decide +kernel
theorem dX13_tokenAt_76 : decode cX13_tokenAt 76 = .ok (.iconst 2, 1) := by decide +kernel
theorem dX13_tokenAt_77 : decode cX13_tokenAt 77 = .ok (.iadd, 1) := by decide +kernel
theorem dX13_tokenAt_78 : decode cX13_tokenAt 78 = .ok (.istore 7, 2) := by decide +kernel
theorem dX13_tokenAt_80 : decode cX13_tokenAt 80 = .ok (.iload 7, 2) := by decide +kernel
theorem dX13_tokenAt_82 : decode cX13_tokenAt 82 = .ok (.iload 4, 2) := by decide +kernel
theorem dX13_tokenAt_84 : decode cX13_tokenAt 84 = .ok (.if_icmp .ge 36, 3) := by decide +kernel
theorem dX13_tokenAt_87 : decode cX13_tokenAt 87 = .ok (.iload 7, 2) := by decide +kernel
theorem dX13_tokenAt_89 : decode cX13_tokenAt 89 = .ok (.iload_n 2, 1) := by decide +kernel
theorem dX13_tokenAt_90 : decode cX13_tokenAt 90 = .ok (.bipush 11, 2) := by decide +kernel
theorem dX13_tokenAt_92 : decode cX13_tokenAt 92 = .ok (.iadd, 1) := by decide +kernel
theorem dX13_tokenAt_93 : decode cX13_tokenAt 93 = .ok (.if_icmp .ge 27, 3) := by decide +kernel
theorem dX13_tokenAt_96 : decode cX13_tokenAt 96 = .ok (.lload 5, 2) := by decide +kernel
theorem dX13_tokenAt_98 : decode cX13_tokenAt 98 = .ok (.bipush 6, 2) := by decide +kernel
theorem dX13_tokenAt_100 : decode cX13_tokenAt 100 = .ok (.lshl, 1) := by decide +kernel
theorem dX13_tokenAt_101 : decode cX13_tokenAt 101 = .ok (.aload_n 0, 1) := by decide +kernel
theorem dX13_tokenAt_102 : decode cX13_tokenAt 102 = .ok (.iload 7, 2) := by decide +kernel
theorem dX13_tokenAt_104 : decode cX13_tokenAt 104 = .ok (.invokevirtual 91, 3) := by decide +kernel
theorem dX13_tokenAt_107 : decode cX13_tokenAt 107 = .ok (.invokestatic 78, 3) := by decide +kernel
theorem dX13_tokenAt_110 : decode cX13_tokenAt 110 = .ok (.i2l, 1) := by decide +kernel
theorem dX13_tokenAt_111 : decode cX13_tokenAt 111 = .ok (.lor, 1) := by decide +kernel
theorem dX13_tokenAt_112 : decode cX13_tokenAt 112 = .ok (.lstore 5, 2) := by decide +kernel
theorem dX13_tokenAt_114 : decode cX13_tokenAt 114 = .ok (.iinc 7 1, 3) := by decide +kernel
theorem dX13_tokenAt_117 : decode cX13_tokenAt 117 = .ok (.goto (-37), 3) := by decide +kernel
theorem dX13_tokenAt_120 : decode cX13_tokenAt 120 = .ok (.aload_n 0, 1) := by decide +kernel
theorem dX13_tokenAt_121 : decode cX13_tokenAt 121 = .ok (.getfield 97, 3) := by decide +kernel
theorem dX13_tokenAt_124 : decode cX13_tokenAt 124 = .ok (.iload_n 1, 1) := by decide +kernel
theorem dX13_tokenAt_125 : decode cX13_tokenAt 125 = .ok (.lload 5, 2) := by decide +kernel
theorem dX13_tokenAt_127 : decode cX13_tokenAt 127 = .ok (.ldc2_w 5, 3) := by decide +kernel
theorem dX13_tokenAt_130 : decode cX13_tokenAt 130 = .ok (.lor, 1) := by decide +kernel
theorem dX13_tokenAt_131 : decode cX13_tokenAt 131 = .ok (.lastore, 1) := by decide +kernel
theorem dX13_tokenAt_132 : decode cX13_tokenAt 132 = .ok (.iload 4, 2) := by decide +kernel
theorem dX13_tokenAt_134 : decode cX13_tokenAt 134 = .ok (.ireturn, 1) := by decide +kernel
theorem dX13_tokenAt_135 : decode cX13_tokenAt 135 = .ok (.iload_n 3, 1) := by decide +kernel
theorem dX13_tokenAt_136 : decode cX13_tokenAt 136 = .ok (.invokestatic 116, 3) := by decide +kernel
theorem dX13_tokenAt_139 : decode cX13_tokenAt 139 = .ok (.ifCond .eq 101, 3) := by decide +kernel
theorem dX13_tokenAt_142 : decode cX13_tokenAt 142 = .ok (.aload_n 0, 1) := by decide +kernel
theorem dX13_tokenAt_143 : decode cX13_tokenAt 143 = .ok (.iload_n 2, 1) := by decide +kernel
theorem dX13_tokenAt_144 : decode cX13_tokenAt 144 = .ok (.invokevirtual 123, 3) := by decide +kernel
theorem dX13_tokenAt_147 : decode cX13_tokenAt 147 = .ok (.istore 4, 2) := by decide +kernel
theorem dX13_tokenAt_149 : decode cX13_tokenAt 149 = .ok (.lconst 0, 1) := by decide +kernel
theorem dX13_tokenAt_150 : decode cX13_tokenAt 150 = .ok (.lstore 5, 2) := by decide +kernel
theorem dX13_tokenAt_152 : decode cX13_tokenAt 152 = .ok (.iload_n 2, 1) := by decide +kernel
theorem dX13_tokenAt_153 : decode cX13_tokenAt 153 = .ok (.istore 7, 2) := by decide +kernel
theorem dX13_tokenAt_155 : decode cX13_tokenAt 155 = .ok (.iload 7, 2) := by decide +kernel
theorem dX13_tokenAt_157 : decode cX13_tokenAt 157 = .ok (.iload 4, 2) := by decide +kernel
theorem dX13_tokenAt_159 : decode cX13_tokenAt 159 = .ok (.if_icmp .ge 36, 3) := by decide +kernel
theorem dX13_tokenAt_162 : decode cX13_tokenAt 162 = .ok (.iload 7, 2) := by decide +kernel
theorem dX13_tokenAt_164 : decode cX13_tokenAt 164 = .ok (.iload_n 2, 1) := by decide +kernel
theorem dX13_tokenAt_165 : decode cX13_tokenAt 165 = .ok (.bipush 10, 2) := by decide +kernel
theorem dX13_tokenAt_167 : decode cX13_tokenAt 167 = .ok (.iadd, 1) := by decide +kernel
theorem dX13_tokenAt_168 : decode cX13_tokenAt 168 = .ok (.if_icmp .ge 27, 3) := by decide +kernel
theorem dX13_tokenAt_171 : decode cX13_tokenAt 171 = .ok (.lload 5, 2) := by decide +kernel
theorem dX13_tokenAt_173 : decode cX13_tokenAt 173 = .ok (.bipush 6, 2) := by decide +kernel
theorem dX13_tokenAt_175 : decode cX13_tokenAt 175 = .ok (.lshl, 1) := by decide +kernel
theorem dX13_tokenAt_176 : decode cX13_tokenAt 176 = .ok (.aload_n 0, 1) := by decide +kernel
theorem dX13_tokenAt_177 : decode cX13_tokenAt 177 = .ok (.iload 7, 2) := by decide +kernel
theorem dX13_tokenAt_179 : decode cX13_tokenAt 179 = .ok (.invokevirtual 91, 3) := by decide +kernel
theorem dX13_tokenAt_182 : decode cX13_tokenAt 182 = .ok (.invokestatic 78, 3) := by decide +kernel
theorem dX13_tokenAt_185 : decode cX13_tokenAt 185 = .ok (.i2l, 1) := by decide +kernel
theorem dX13_tokenAt_186 : decode cX13_tokenAt 186 = .ok (.lor, 1) := by decide +kernel
theorem dX13_tokenAt_187 : decode cX13_tokenAt 187 = .ok (.lstore 5, 2) := by decide +kernel
theorem dX13_tokenAt_189 : decode cX13_tokenAt 189 = .ok (.iinc 7 1, 3) := by decide +kernel
theorem dX13_tokenAt_192 : decode cX13_tokenAt 192 = .ok (.goto (-37), 3) := by decide +kernel
theorem dX13_tokenAt_195 : decode cX13_tokenAt 195 = .ok (.aload_n 0, 1) := by decide +kernel
theorem dX13_tokenAt_196 : decode cX13_tokenAt 196 = .ok (.getfield 103, 3) := by decide +kernel
theorem dX13_tokenAt_199 : decode cX13_tokenAt 199 = .ok (.iload_n 1, 1) := by decide +kernel
theorem dX13_tokenAt_200 : decode cX13_tokenAt 200 = .ok (.iload 4, 2) := by decide +kernel
theorem dX13_tokenAt_202 : decode cX13_tokenAt 202 = .ok (.iload_n 2, 1) := by decide +kernel
theorem dX13_tokenAt_203 : decode cX13_tokenAt 203 = .ok (.isub, 1) := by decide +kernel
theorem dX13_tokenAt_204 : decode cX13_tokenAt 204 = .ok (.bipush 10, 2) := by decide +kernel
theorem dX13_tokenAt_206 : decode cX13_tokenAt 206 = .ok (.if_icmp .le 8, 3) := by decide +kernel
theorem dX13_tokenAt_209 : decode cX13_tokenAt 209 = .ok (.bipush 6, 2) := by decide +kernel
theorem dX13_tokenAt_211 : decode cX13_tokenAt 211 = .ok (.goto 17, 3) := by decide +kernel
theorem dX13_tokenAt_214 : decode cX13_tokenAt 214 = .ok (.aload_n 0, 1) := by decide +kernel
theorem dX13_tokenAt_215 : decode cX13_tokenAt 215 = .ok (.lload 5, 2) := by decide +kernel
theorem dX13_tokenAt_217 : decode cX13_tokenAt 217 = .ok (.invokevirtual 126, 3) := by decide +kernel
theorem dX13_tokenAt_220 : decode cX13_tokenAt 220 = .ok (.ifCond .eq 7, 3) := by decide +kernel
theorem dX13_tokenAt_223 : decode cX13_tokenAt 223 = .ok (.iconst 3, 1) := by decide +kernel
theorem dX13_tokenAt_224 : decode cX13_tokenAt 224 = .ok (.goto 4, 3) := by decide +kernel
theorem dX13_tokenAt_227 : decode cX13_tokenAt 227 = .ok (.iconst 2, 1) := by decide +kernel
theorem dX13_tokenAt_228 : decode cX13_tokenAt 228 = .ok (.iastore, 1) := by decide +kernel
theorem dX13_tokenAt_229 : decode cX13_tokenAt 229 = .ok (.aload_n 0, 1) := by decide +kernel
theorem dX13_tokenAt_230 : decode cX13_tokenAt 230 = .ok (.getfield 97, 3) := by decide +kernel
theorem dX13_tokenAt_233 : decode cX13_tokenAt 233 = .ok (.iload_n 1, 1) := by decide +kernel
theorem dX13_tokenAt_234 : decode cX13_tokenAt 234 = .ok (.lload 5, 2) := by decide +kernel
theorem dX13_tokenAt_236 : decode cX13_tokenAt 236 = .ok (.lastore, 1) := by decide +kernel
theorem dX13_tokenAt_237 : decode cX13_tokenAt 237 = .ok (.iload 4, 2) := by decide +kernel
theorem dX13_tokenAt_239 : decode cX13_tokenAt 239 = .ok (.ireturn, 1) := by decide +kernel
theorem dX13_tokenAt_240 : decode cX13_tokenAt 240 = .ok (.iload_n 3, 1) := by decide +kernel
theorem dX13_tokenAt_241 : decode cX13_tokenAt 241 = .ok (.bipush 48, 2) := by decide +kernel
theorem dX13_tokenAt_243 : decode cX13_tokenAt 243 = .ok (.if_icmp .lt 106, 3) := by decide +kernel
theorem dX13_tokenAt_246 : decode cX13_tokenAt 246 = .ok (.iload_n 3, 1) := by decide +kernel
theorem dX13_tokenAt_247 : decode cX13_tokenAt 247 = .ok (.bipush 57, 2) := by decide +kernel
theorem dX13_tokenAt_249 : decode cX13_tokenAt 249 = .ok (.if_icmp .gt 100, 3) := by decide +kernel
theorem dX13_tokenAt_252 : decode cX13_tokenAt 252 = .ok (.iload_n 2, 1) := by decide +kernel
theorem dX13_tokenAt_253 : decode cX13_tokenAt 253 = .ok (.istore 4, 2) := by decide +kernel
theorem dX13_tokenAt_255 : decode cX13_tokenAt 255 = .ok (.iconst 0, 1) := by decide +kernel
theorem dX13_tokenAt_256 : decode cX13_tokenAt 256 = .ok (.istore 5, 2) := by decide +kernel
theorem dX13_tokenAt_258 : decode cX13_tokenAt 258 = .ok (.aload_n 0, 1) := by decide +kernel
theorem dX13_tokenAt_259 : decode cX13_tokenAt 259 = .ok (.iload 4, 2) := by decide +kernel
theorem dX13_tokenAt_261 : decode cX13_tokenAt 261 = .ok (.invokevirtual 91, 3) := by decide +kernel
theorem dX13_tokenAt_264 : decode cX13_tokenAt 264 = .ok (.bipush 48, 2) := by decide +kernel
theorem dX13_tokenAt_266 : decode cX13_tokenAt 266 = .ok (.if_icmp .lt 51, 3) := by decide +kernel
theorem dX13_tokenAt_269 : decode cX13_tokenAt 269 = .ok (.aload_n 0, 1) := by decide +kernel
theorem dX13_tokenAt_270 : decode cX13_tokenAt 270 = .ok (.iload 4, 2) := by decide +kernel
theorem dX13_tokenAt_272 : decode cX13_tokenAt 272 = .ok (.invokevirtual 91, 3) := by decide +kernel
theorem dX13_tokenAt_275 : decode cX13_tokenAt 275 = .ok (.bipush 57, 2) := by decide +kernel
theorem dX13_tokenAt_277 : decode cX13_tokenAt 277 = .ok (.if_icmp .gt 40, 3) := by decide +kernel
theorem dX13_tokenAt_280 : decode cX13_tokenAt 280 = .ok (.iload 4, 2) := by decide +kernel
theorem dX13_tokenAt_282 : decode cX13_tokenAt 282 = .ok (.iload_n 2, 1) := by decide +kernel
theorem dX13_tokenAt_283 : decode cX13_tokenAt 283 = .ok (.isub, 1) := by decide +kernel
theorem dX13_tokenAt_284 : decode cX13_tokenAt 284 = .ok (.bipush 9, 2) := by decide +kernel
theorem dX13_tokenAt_286 : decode cX13_tokenAt 286 = .ok (.if_icmp .ge 21, 3) := by decide +kernel
theorem dX13_tokenAt_289 : decode cX13_tokenAt 289 = .ok (.bipush 10, 2) := by decide +kernel
theorem dX13_tokenAt_291 : decode cX13_tokenAt 291 = .ok (.iload 5, 2) := by decide +kernel
theorem dX13_tokenAt_293 : decode cX13_tokenAt 293 = .ok (.imul, 1) := by decide +kernel
theorem dX13_tokenAt_294 : decode cX13_tokenAt 294 = .ok (.aload_n 0, 1) := by decide +kernel
theorem dX13_tokenAt_295 : decode cX13_tokenAt 295 = .ok (.iload 4, 2) := by decide +kernel
theorem dX13_tokenAt_297 : decode cX13_tokenAt 297 = .ok (.invokevirtual 91, 3) := by decide +kernel
theorem dX13_tokenAt_300 : decode cX13_tokenAt 300 = .ok (.iadd, 1) := by decide +kernel
theorem dX13_tokenAt_301 : decode cX13_tokenAt 301 = .ok (.bipush 48, 2) := by decide +kernel
theorem dX13_tokenAt_303 : decode cX13_tokenAt 303 = .ok (.isub, 1) := by decide +kernel
theorem dX13_tokenAt_304 : decode cX13_tokenAt 304 = .ok (.goto 5, 3) := by decide +kernel
theorem dX13_tokenAt_307 : decode cX13_tokenAt 307 = .ok (.iload 5, 2) := by decide +kernel
theorem dX13_tokenAt_309 : decode cX13_tokenAt 309 = .ok (.istore 5, 2) := by decide +kernel
theorem dX13_tokenAt_311 : decode cX13_tokenAt 311 = .ok (.iinc 4 1, 3) := by decide +kernel
theorem dX13_tokenAt_314 : decode cX13_tokenAt 314 = .ok (.goto (-56), 3) := by decide +kernel
theorem dX13_tokenAt_317 : decode cX13_tokenAt 317 = .ok (.aload_n 0, 1) := by decide +kernel
theorem dX13_tokenAt_318 : decode cX13_tokenAt 318 = .ok (.getfield 103, 3) := by decide +kernel
theorem dX13_tokenAt_321 : decode cX13_tokenAt 321 = .ok (.iload_n 1, 1) := by decide +kernel
theorem dX13_tokenAt_322 : decode cX13_tokenAt 322 = .ok (.iload 4, 2) := by decide +kernel
theorem dX13_tokenAt_324 : decode cX13_tokenAt 324 = .ok (.iload_n 2, 1) := by decide +kernel
theorem dX13_tokenAt_325 : decode cX13_tokenAt 325 = .ok (.isub, 1) := by decide +kernel
theorem dX13_tokenAt_326 : decode cX13_tokenAt 326 = .ok (.bipush 9, 2) := by decide +kernel
theorem dX13_tokenAt_328 : decode cX13_tokenAt 328 = .ok (.if_icmp .le 8, 3) := by decide +kernel
theorem dX13_tokenAt_331 : decode cX13_tokenAt 331 = .ok (.bipush 6, 2) := by decide +kernel
theorem dX13_tokenAt_333 : decode cX13_tokenAt 333 = .ok (.goto 4, 3) := by decide +kernel
theorem dX13_tokenAt_336 : decode cX13_tokenAt 336 = .ok (.iconst 4, 1) := by decide +kernel
theorem dX13_tokenAt_337 : decode cX13_tokenAt 337 = .ok (.iastore, 1) := by decide +kernel
theorem dX13_tokenAt_338 : decode cX13_tokenAt 338 = .ok (.aload_n 0, 1) := by decide +kernel
theorem dX13_tokenAt_339 : decode cX13_tokenAt 339 = .ok (.getfield 100, 3) := by decide +kernel
theorem dX13_tokenAt_342 : decode cX13_tokenAt 342 = .ok (.iload_n 1, 1) := by decide +kernel
theorem dX13_tokenAt_343 : decode cX13_tokenAt 343 = .ok (.iload 5, 2) := by decide +kernel
theorem dX13_tokenAt_345 : decode cX13_tokenAt 345 = .ok (.iastore, 1) := by decide +kernel
theorem dX13_tokenAt_346 : decode cX13_tokenAt 346 = .ok (.iload 4, 2) := by decide +kernel
theorem dX13_tokenAt_348 : decode cX13_tokenAt 348 = .ok (.ireturn, 1) := by decide +kernel
theorem dX13_tokenAt_349 : decode cX13_tokenAt 349 = .ok (.iload_n 3, 1) := by decide +kernel
theorem dX13_tokenAt_350 : decode cX13_tokenAt 350 = .ok (.bipush 123, 2) := by decide +kernel
theorem dX13_tokenAt_352 : decode cX13_tokenAt 352 = .ok (.if_icmp .eq 69, 3) := by decide +kernel
theorem dX13_tokenAt_355 : decode cX13_tokenAt 355 = .ok (.iload_n 3, 1) := by decide +kernel
theorem dX13_tokenAt_356 : decode cX13_tokenAt 356 = .ok (.bipush 125, 2) := by decide +kernel
theorem dX13_tokenAt_358 : decode cX13_tokenAt 358 = .ok (.if_icmp .eq 63, 3) := by decide +kernel
theorem dX13_tokenAt_361 : decode cX13_tokenAt 361 = .ok (.iload_n 3, 1) := by decide +kernel
theorem dX13_tokenAt_362 : decode cX13_tokenAt 362 = .ok (.bipush 40, 2) := by decide +kernel
theorem dX13_tokenAt_364 : decode cX13_tokenAt 364 = .ok (.if_icmp .eq 57, 3) := by decide +kernel
theorem dX13_tokenAt_367 : decode cX13_tokenAt 367 = .ok (.iload_n 3, 1) := by decide +kernel
theorem dX13_tokenAt_368 : decode cX13_tokenAt 368 = .ok (.bipush 41, 2) := by decide +kernel
theorem dX13_tokenAt_370 : decode cX13_tokenAt 370 = .ok (.if_icmp .eq 51, 3) := by decide +kernel
theorem dX13_tokenAt_373 : decode cX13_tokenAt 373 = .ok (.iload_n 3, 1) := by decide +kernel
theorem dX13_tokenAt_374 : decode cX13_tokenAt 374 = .ok (.bipush 44, 2) := by decide +kernel
theorem dX13_tokenAt_376 : decode cX13_tokenAt 376 = .ok (.if_icmp .eq 45, 3) := by decide +kernel
theorem dX13_tokenAt_379 : decode cX13_tokenAt 379 = .ok (.iload_n 3, 1) := by decide +kernel
theorem dX13_tokenAt_380 : decode cX13_tokenAt 380 = .ok (.bipush 59, 2) := by decide +kernel
theorem dX13_tokenAt_382 : decode cX13_tokenAt 382 = .ok (.if_icmp .eq 39, 3) := by decide +kernel
theorem dX13_tokenAt_385 : decode cX13_tokenAt 385 = .ok (.iload_n 3, 1) := by decide +kernel
theorem dX13_tokenAt_386 : decode cX13_tokenAt 386 = .ok (.bipush 46, 2) := by decide +kernel
theorem dX13_tokenAt_388 : decode cX13_tokenAt 388 = .ok (.if_icmp .eq 33, 3) := by decide +kernel
theorem dX13_tokenAt_391 : decode cX13_tokenAt 391 = .ok (.iload_n 3, 1) := by decide +kernel
theorem dX13_tokenAt_392 : decode cX13_tokenAt 392 = .ok (.bipush 61, 2) := by decide +kernel
theorem dX13_tokenAt_394 : decode cX13_tokenAt 394 = .ok (.if_icmp .eq 27, 3) := by decide +kernel
theorem dX13_tokenAt_397 : decode cX13_tokenAt 397 = .ok (.iload_n 3, 1) := by decide +kernel
theorem dX13_tokenAt_398 : decode cX13_tokenAt 398 = .ok (.bipush 60, 2) := by decide +kernel
theorem dX13_tokenAt_400 : decode cX13_tokenAt 400 = .ok (.if_icmp .eq 21, 3) := by decide +kernel
theorem dX13_tokenAt_403 : decode cX13_tokenAt 403 = .ok (.iload_n 3, 1) := by decide +kernel
theorem dX13_tokenAt_404 : decode cX13_tokenAt 404 = .ok (.bipush 43, 2) := by decide +kernel
theorem dX13_tokenAt_406 : decode cX13_tokenAt 406 = .ok (.if_icmp .eq 15, 3) := by decide +kernel
theorem dX13_tokenAt_409 : decode cX13_tokenAt 409 = .ok (.iload_n 3, 1) := by decide +kernel
theorem dX13_tokenAt_410 : decode cX13_tokenAt 410 = .ok (.bipush 45, 2) := by decide +kernel
theorem dX13_tokenAt_412 : decode cX13_tokenAt 412 = .ok (.if_icmp .eq 9, 3) := by decide +kernel
theorem dX13_tokenAt_415 : decode cX13_tokenAt 415 = .ok (.iload_n 3, 1) := by decide +kernel
theorem dX13_tokenAt_416 : decode cX13_tokenAt 416 = .ok (.bipush 42, 2) := by decide +kernel
theorem dX13_tokenAt_418 : decode cX13_tokenAt 418 = .ok (.if_icmp .ne 7, 3) := by decide +kernel
theorem dX13_tokenAt_421 : decode cX13_tokenAt 421 = .ok (.iconst 1, 1) := by decide +kernel
theorem dX13_tokenAt_422 : decode cX13_tokenAt 422 = .ok (.goto 4, 3) := by decide +kernel
theorem dX13_tokenAt_425 : decode cX13_tokenAt 425 = .ok (.iconst 0, 1) := by decide +kernel
theorem dX13_tokenAt_426 : decode cX13_tokenAt 426 = .ok (.istore 4, 2) := by decide +kernel
theorem dX13_tokenAt_428 : decode cX13_tokenAt 428 = .ok (.aload_n 0, 1) := by decide +kernel
theorem dX13_tokenAt_429 : decode cX13_tokenAt 429 = .ok (.getfield 103, 3) := by decide +kernel
theorem dX13_tokenAt_432 : decode cX13_tokenAt 432 = .ok (.iload_n 1, 1) := by decide +kernel
theorem dX13_tokenAt_433 : decode cX13_tokenAt 433 = .ok (.iload 4, 2) := by decide +kernel
theorem dX13_tokenAt_435 : decode cX13_tokenAt 435 = .ok (.ifCond .eq 7, 3) := by decide +kernel
theorem dX13_tokenAt_438 : decode cX13_tokenAt 438 = .ok (.iconst 5, 1) := by decide +kernel
theorem dX13_tokenAt_439 : decode cX13_tokenAt 439 = .ok (.goto 5, 3) := by decide +kernel
theorem dX13_tokenAt_442 : decode cX13_tokenAt 442 = .ok (.bipush 6, 2) := by decide +kernel
theorem dX13_tokenAt_444 : decode cX13_tokenAt 444 = .ok (.iastore, 1) := by decide +kernel
theorem dX13_tokenAt_445 : decode cX13_tokenAt 445 = .ok (.iload_n 3, 1) := by decide +kernel
theorem dX13_tokenAt_446 : decode cX13_tokenAt 446 = .ok (.bipush 61, 2) := by decide +kernel
theorem dX13_tokenAt_448 : decode cX13_tokenAt 448 = .ok (.if_icmp .ne 19, 3) := by decide +kernel
theorem dX13_tokenAt_451 : decode cX13_tokenAt 451 = .ok (.aload_n 0, 1) := by decide +kernel
theorem dX13_tokenAt_452 : decode cX13_tokenAt 452 = .ok (.iload_n 2, 1) := by decide +kernel
theorem dX13_tokenAt_453 : decode cX13_tokenAt 453 = .ok (.iconst 1, 1) := by decide +kernel
theorem dX13_tokenAt_454 : decode cX13_tokenAt 454 = .ok (.iadd, 1) := by decide +kernel
theorem dX13_tokenAt_455 : decode cX13_tokenAt 455 = .ok (.invokevirtual 91, 3) := by decide +kernel
theorem dX13_tokenAt_458 : decode cX13_tokenAt 458 = .ok (.bipush 61, 2) := by decide +kernel
theorem dX13_tokenAt_460 : decode cX13_tokenAt 460 = .ok (.if_icmp .ne 7, 3) := by decide +kernel
theorem dX13_tokenAt_463 : decode cX13_tokenAt 463 = .ok (.iconst 1, 1) := by decide +kernel
theorem dX13_tokenAt_464 : decode cX13_tokenAt 464 = .ok (.goto 4, 3) := by decide +kernel
theorem dX13_tokenAt_467 : decode cX13_tokenAt 467 = .ok (.iconst 0, 1) := by decide +kernel
theorem dX13_tokenAt_468 : decode cX13_tokenAt 468 = .ok (.istore 5, 2) := by decide +kernel
theorem dX13_tokenAt_470 : decode cX13_tokenAt 470 = .ok (.aload_n 0, 1) := by decide +kernel
theorem dX13_tokenAt_471 : decode cX13_tokenAt 471 = .ok (.getfield 100, 3) := by decide +kernel
theorem dX13_tokenAt_474 : decode cX13_tokenAt 474 = .ok (.iload_n 1, 1) := by decide +kernel
theorem dX13_tokenAt_475 : decode cX13_tokenAt 475 = .ok (.iload 5, 2) := by decide +kernel
theorem dX13_tokenAt_477 : decode cX13_tokenAt 477 = .ok (.ifCond .eq 9, 3) := by decide +kernel
theorem dX13_tokenAt_480 : decode cX13_tokenAt 480 = .ok (.sipush 256, 3) := by decide +kernel
theorem dX13_tokenAt_483 : decode cX13_tokenAt 483 = .ok (.goto 4, 3) := by decide +kernel
theorem dX13_tokenAt_486 : decode cX13_tokenAt 486 = .ok (.iload_n 3, 1) := by decide +kernel
theorem dX13_tokenAt_487 : decode cX13_tokenAt 487 = .ok (.iastore, 1) := by decide +kernel
theorem dX13_tokenAt_488 : decode cX13_tokenAt 488 = .ok (.iload 5, 2) := by decide +kernel
theorem dX13_tokenAt_490 : decode cX13_tokenAt 490 = .ok (.ifCond .eq 9, 3) := by decide +kernel
theorem dX13_tokenAt_493 : decode cX13_tokenAt 493 = .ok (.iload_n 2, 1) := by decide +kernel
theorem dX13_tokenAt_494 : decode cX13_tokenAt 494 = .ok (.iconst 2, 1) := by decide +kernel
theorem dX13_tokenAt_495 : decode cX13_tokenAt 495 = .ok (.iadd, 1) := by decide +kernel
theorem dX13_tokenAt_496 : decode cX13_tokenAt 496 = .ok (.goto 6, 3) := by decide +kernel
theorem dX13_tokenAt_499 : decode cX13_tokenAt 499 = .ok (.iload_n 2, 1) := by decide +kernel
theorem dX13_tokenAt_500 : decode cX13_tokenAt 500 = .ok (.iconst 1, 1) := by decide +kernel
theorem dX13_tokenAt_501 : decode cX13_tokenAt 501 = .ok (.iadd, 1) := by decide +kernel
theorem dX13_tokenAt_502 : decode cX13_tokenAt 502 = .ok (.ireturn, 1) := by decide +kernel
theorem dX13_fault_0 : decode cX13_fault 0 = .ok (.aload_n 0, 1) := by decide +kernel
theorem dX13_fault_1 : decode cX13_fault 1 = .ok (.getfield 129, 3) := by decide +kernel
theorem dX13_fault_4 : decode cX13_fault 4 = .ok (.ifCond .ne 13, 3) := by decide +kernel
theorem dX13_fault_7 : decode cX13_fault 7 = .ok (.aload_n 0, 1) := by decide +kernel
theorem dX13_fault_8 : decode cX13_fault 8 = .ok (.iload_n 1, 1) := by decide +kernel
theorem dX13_fault_9 : decode cX13_fault 9 = .ok (.putfield 129, 3) := by decide +kernel
theorem dX13_fault_12 : decode cX13_fault 12 = .ok (.aload_n 0, 1) := by decide +kernel
theorem dX13_fault_13 : decode cX13_fault 13 = .ok (.iload_n 2, 1) := by decide +kernel
theorem dX13_fault_14 : decode cX13_fault 14 = .ok (.putfield 132, 3) := by decide +kernel
theorem dX13_fault_17 : decode cX13_fault 17 = .ok (.return_, 1) := by decide +kernel
theorem dX13_kindAt_0 : decode cX13_kindAt 0 = .ok (.aload_n 0, 1) := by decide +kernel
theorem dX13_kindAt_1 : decode cX13_kindAt 1 = .ok (.getfield 103, 3) := by decide +kernel
theorem dX13_kindAt_4 : decode cX13_kindAt 4 = .ok (.aload_n 0, 1) := by decide +kernel
theorem dX13_kindAt_5 : decode cX13_kindAt 5 = .ok (.getfield 84, 3) := by decide +kernel
theorem dX13_kindAt_8 : decode cX13_kindAt 8 = .ok (.sipush 702, 3) := by decide +kernel
theorem dX13_kindAt_11 : decode cX13_kindAt 11 = .ok (.imul, 1) := by decide +kernel
theorem dX13_kindAt_12 : decode cX13_kindAt 12 = .ok (.iload_n 1, 1) := by decide +kernel
theorem dX13_kindAt_13 : decode cX13_kindAt 13 = .ok (.iadd, 1) := by decide +kernel
theorem dX13_kindAt_14 : decode cX13_kindAt 14 = .ok (.iaload, 1) := by decide +kernel
theorem dX13_kindAt_15 : decode cX13_kindAt 15 = .ok (.ireturn, 1) := by decide +kernel
theorem dX13_placeAt_0 : decode cX13_placeAt 0 = .ok (.aload_n 0, 1) := by decide +kernel
theorem dX13_placeAt_1 : decode cX13_placeAt 1 = .ok (.getfield 94, 3) := by decide +kernel
theorem dX13_placeAt_4 : decode cX13_placeAt 4 = .ok (.aload_n 0, 1) := by decide +kernel
theorem dX13_placeAt_5 : decode cX13_placeAt 5 = .ok (.getfield 84, 3) := by decide +kernel
theorem dX13_placeAt_8 : decode cX13_placeAt 8 = .ok (.sipush 702, 3) := by decide +kernel
theorem dX13_placeAt_11 : decode cX13_placeAt 11 = .ok (.imul, 1) := by decide +kernel
theorem dX13_placeAt_12 : decode cX13_placeAt 12 = .ok (.iload_n 1, 1) := by decide +kernel
theorem dX13_placeAt_13 : decode cX13_placeAt 13 = .ok (.iadd, 1) := by decide +kernel
theorem dX13_placeAt_14 : decode cX13_placeAt 14 = .ok (.iaload, 1) := by decide +kernel
theorem dX13_placeAt_15 : decode cX13_placeAt 15 = .ok (.ireturn, 1) := by decide +kernel
theorem dX13_nameAt_0 : decode cX13_nameAt 0 = .ok (.aload_n 0, 1) := by decide +kernel
theorem dX13_nameAt_1 : decode cX13_nameAt 1 = .ok (.getfield 97, 3) := by decide +kernel
theorem dX13_nameAt_4 : decode cX13_nameAt 4 = .ok (.aload_n 0, 1) := by decide +kernel
theorem dX13_nameAt_5 : decode cX13_nameAt 5 = .ok (.getfield 84, 3) := by decide +kernel
theorem dX13_nameAt_8 : decode cX13_nameAt 8 = .ok (.sipush 702, 3) := by decide +kernel
theorem dX13_nameAt_11 : decode cX13_nameAt 11 = .ok (.imul, 1) := by decide +kernel
theorem dX13_nameAt_12 : decode cX13_nameAt 12 = .ok (.iload_n 1, 1) := by decide +kernel
theorem dX13_nameAt_13 : decode cX13_nameAt 13 = .ok (.iadd, 1) := by decide +kernel
theorem dX13_nameAt_14 : decode cX13_nameAt 14 = .ok (.laload, 1) := by decide +kernel
theorem dX13_nameAt_15 : decode cX13_nameAt 15 = .ok (.lreturn, 1) := by decide +kernel
theorem dX13_isSign_0 : decode cX13_isSign 0 = .ok (.aload_n 0, 1) := by decide +kernel
theorem dX13_isSign_1 : decode cX13_isSign 1 = .ok (.aload_n 0, 1) := by decide +kernel
theorem dX13_isSign_2 : decode cX13_isSign 2 = .ok (.getfield 135, 3) := by decide +kernel
theorem dX13_isSign_5 : decode cX13_isSign 5 = .ok (.invokevirtual 138, 3) := by decide +kernel
theorem dX13_isSign_8 : decode cX13_isSign 8 = .ok (.iconst 5, 1) := by decide +kernel
theorem dX13_isSign_9 : decode cX13_isSign 9 = .ok (.if_icmp .ne 29, 3) := by decide +kernel
theorem dX13_isSign_12 : decode cX13_isSign 12 = .ok (.aload_n 0, 1) := by decide +kernel
theorem dX13_isSign_13 : decode cX13_isSign 13 = .ok (.getfield 100, 3) := by decide +kernel
theorem dX13_isSign_16 : decode cX13_isSign 16 = .ok (.aload_n 0, 1) := by decide +kernel
theorem dX13_isSign_17 : decode cX13_isSign 17 = .ok (.getfield 84, 3) := by decide +kernel
theorem dX13_isSign_20 : decode cX13_isSign 20 = .ok (.sipush 702, 3) := by decide +kernel
theorem dX13_isSign_23 : decode cX13_isSign 23 = .ok (.imul, 1) := by decide +kernel
theorem dX13_isSign_24 : decode cX13_isSign 24 = .ok (.aload_n 0, 1) := by decide +kernel
theorem dX13_isSign_25 : decode cX13_isSign 25 = .ok (.getfield 135, 3) := by decide +kernel
theorem dX13_isSign_28 : decode cX13_isSign 28 = .ok (.iadd, 1) := by decide +kernel
theorem dX13_isSign_29 : decode cX13_isSign 29 = .ok (.iaload, 1) := by decide +kernel
theorem dX13_isSign_30 : decode cX13_isSign 30 = .ok (.iload_n 1, 1) := by decide +kernel
theorem dX13_isSign_31 : decode cX13_isSign 31 = .ok (.if_icmp .ne 7, 3) := by decide +kernel
theorem dX13_isSign_34 : decode cX13_isSign 34 = .ok (.iconst 1, 1) := by decide +kernel
theorem dX13_isSign_35 : decode cX13_isSign 35 = .ok (.goto 4, 3) := by decide +kernel
theorem dX13_isSign_38 : decode cX13_isSign 38 = .ok (.iconst 0, 1) := by decide +kernel
theorem dX13_isSign_39 : decode cX13_isSign 39 = .ok (.ireturn, 1) := by decide +kernel
theorem dX13_isSignNext_0 : decode cX13_isSignNext 0 = .ok (.aload_n 0, 1) := by decide +kernel
theorem dX13_isSignNext_1 : decode cX13_isSignNext 1 = .ok (.aload_n 0, 1) := by decide +kernel
theorem dX13_isSignNext_2 : decode cX13_isSignNext 2 = .ok (.getfield 135, 3) := by decide +kernel
theorem dX13_isSignNext_5 : decode cX13_isSignNext 5 = .ok (.invokevirtual 138, 3) := by decide +kernel
theorem dX13_isSignNext_8 : decode cX13_isSignNext 8 = .ok (.ifCond .eq 68, 3) := by decide +kernel
theorem dX13_isSignNext_11 : decode cX13_isSignNext 11 = .ok (.aload_n 0, 1) := by decide +kernel
theorem dX13_isSignNext_12 : decode cX13_isSignNext 12 = .ok (.aload_n 0, 1) := by decide +kernel
theorem dX13_isSignNext_13 : decode cX13_isSignNext 13 = .ok (.getfield 135, 3) := by decide +kernel
theorem dX13_isSignNext_16 : decode cX13_isSignNext 16 = .ok (.invokevirtual 138, 3) := by decide +kernel
theorem dX13_isSignNext_19 : decode cX13_isSignNext 19 = .ok (.bipush 6, 2) := by decide +kernel
theorem dX13_isSignNext_21 : decode cX13_isSignNext 21 = .ok (.if_icmp .eq 55, 3) := by decide +kernel
theorem dX13_isSignNext_24 : decode cX13_isSignNext 24 = .ok (.aload_n 0, 1) := by decide +kernel
theorem dX13_isSignNext_25 : decode cX13_isSignNext 25 = .ok (.getfield 135, 3) := by decide +kernel
theorem dX13_isSignNext_28 : decode cX13_isSignNext 28 = .ok (.sipush 700, 3) := by decide +kernel
theorem dX13_isSignNext_31 : decode cX13_isSignNext 31 = .ok (.if_icmp .ge 45, 3) := by decide +kernel
theorem dX13_isSignNext_34 : decode cX13_isSignNext 34 = .ok (.aload_n 0, 1) := by decide +kernel
theorem dX13_isSignNext_35 : decode cX13_isSignNext 35 = .ok (.aload_n 0, 1) := by decide +kernel
theorem dX13_isSignNext_36 : decode cX13_isSignNext 36 = .ok (.getfield 135, 3) := by decide +kernel
theorem dX13_isSignNext_39 : decode cX13_isSignNext 39 = .ok (.iconst 1, 1) := by decide +kernel
theorem dX13_isSignNext_40 : decode cX13_isSignNext 40 = .ok (.iadd, 1) := by decide +kernel
theorem dX13_isSignNext_41 : decode cX13_isSignNext 41 = .ok (.invokevirtual 138, 3) := by decide +kernel
theorem dX13_isSignNext_44 : decode cX13_isSignNext 44 = .ok (.iconst 5, 1) := by decide +kernel
theorem dX13_isSignNext_45 : decode cX13_isSignNext 45 = .ok (.if_icmp .ne 31, 3) := by decide +kernel
theorem dX13_isSignNext_48 : decode cX13_isSignNext 48 = .ok (.aload_n 0, 1) := by decide +kernel
theorem dX13_isSignNext_49 : decode cX13_isSignNext 49 = .ok (.getfield 100, 3) := by decide +kernel
theorem dX13_isSignNext_52 : decode cX13_isSignNext 52 = .ok (.aload_n 0, 1) := by decide +kernel
theorem dX13_isSignNext_53 : decode cX13_isSignNext 53 = .ok (.getfield 84, 3) := by decide +kernel
theorem dX13_isSignNext_56 : decode cX13_isSignNext 56 = .ok (.sipush 702, 3) := by decide +kernel
theorem dX13_isSignNext_59 : decode cX13_isSignNext 59 = .ok (.imul, 1) := by decide +kernel
theorem dX13_isSignNext_60 : decode cX13_isSignNext 60 = .ok (.aload_n 0, 1) := by decide +kernel
theorem dX13_isSignNext_61 : decode cX13_isSignNext 61 = .ok (.getfield 135, 3) := by decide +kernel
theorem dX13_isSignNext_64 : decode cX13_isSignNext 64 = .ok (.iadd, 1) := by decide +kernel
theorem dX13_isSignNext_65 : decode cX13_isSignNext 65 = .ok (.iconst 1, 1) := by decide +kernel
theorem dX13_isSignNext_66 : decode cX13_isSignNext 66 = .ok (.iadd, 1) := by decide +kernel
theorem dX13_isSignNext_67 : decode cX13_isSignNext 67 = .ok (.iaload, 1) := by decide +kernel
theorem dX13_isSignNext_68 : decode cX13_isSignNext 68 = .ok (.iload_n 1, 1) := by decide +kernel
theorem dX13_isSignNext_69 : decode cX13_isSignNext 69 = .ok (.if_icmp .ne 7, 3) := by decide +kernel
theorem dX13_isSignNext_72 : decode cX13_isSignNext 72 = .ok (.iconst 1, 1) := by decide +kernel
theorem dX13_isSignNext_73 : decode cX13_isSignNext 73 = .ok (.goto 4, 3) := by decide +kernel
theorem dX13_isSignNext_76 : decode cX13_isSignNext 76 = .ok (.iconst 0, 1) := by decide +kernel
theorem dX13_isSignNext_77 : decode cX13_isSignNext 77 = .ok (.ireturn, 1) := by decide +kernel
theorem dX13_isWordAt_0 : decode cX13_isWordAt 0 = .ok (.aload_n 0, 1) := by decide +kernel
theorem dX13_isWordAt_1 : decode cX13_isWordAt 1 = .ok (.aload_n 0, 1) := by decide +kernel
theorem dX13_isWordAt_2 : decode cX13_isWordAt 2 = .ok (.getfield 135, 3) := by decide +kernel
theorem dX13_isWordAt_5 : decode cX13_isWordAt 5 = .ok (.invokevirtual 138, 3) := by decide +kernel
theorem dX13_isWordAt_8 : decode cX13_isWordAt 8 = .ok (.iconst 3, 1) := by decide +kernel
theorem dX13_isWordAt_9 : decode cX13_isWordAt 9 = .ok (.if_icmp .ne 23, 3) := by decide +kernel
theorem dX13_isWordAt_12 : decode cX13_isWordAt 12 = .ok (.aload_n 0, 1) := by decide +kernel
theorem dX13_isWordAt_13 : decode cX13_isWordAt 13 = .ok (.aload_n 0, 1) := by decide +kernel
theorem dX13_isWordAt_14 : decode cX13_isWordAt 14 = .ok (.getfield 135, 3) := by decide +kernel
theorem dX13_isWordAt_17 : decode cX13_isWordAt 17 = .ok (.invokevirtual 141, 3) := by decide +kernel
theorem dX13_isWordAt_20 : decode cX13_isWordAt 20 = .ok (.aload_n 1, 1) := by decide +kernel
theorem dX13_isWordAt_21 : decode cX13_isWordAt 21 = .ok (.invokestatic 145, 3) := by decide +kernel
theorem dX13_isWordAt_24 : decode cX13_isWordAt 24 = .ok (.lcmp, 1) := by decide +kernel
theorem dX13_isWordAt_25 : decode cX13_isWordAt 25 = .ok (.ifCond .ne 7, 3) := by decide +kernel
theorem dX13_isWordAt_28 : decode cX13_isWordAt 28 = .ok (.iconst 1, 1) := by decide +kernel
theorem dX13_isWordAt_29 : decode cX13_isWordAt 29 = .ok (.goto 4, 3) := by decide +kernel
theorem dX13_isWordAt_32 : decode cX13_isWordAt 32 = .ok (.iconst 0, 1) := by decide +kernel
theorem dX13_isWordAt_33 : decode cX13_isWordAt 33 = .ok (.ireturn, 1) := by decide +kernel
theorem dX13_wrong_0 : decode cX13_wrong 0 = .ok (.aload_n 0, 1) := by decide +kernel
theorem dX13_wrong_1 : decode cX13_wrong 1 = .ok (.aload_n 0, 1) := by decide +kernel
theorem dX13_wrong_2 : decode cX13_wrong 2 = .ok (.aload_n 0, 1) := by decide +kernel
theorem dX13_wrong_3 : decode cX13_wrong 3 = .ok (.getfield 135, 3) := by decide +kernel
theorem dX13_wrong_6 : decode cX13_wrong 6 = .ok (.invokevirtual 138, 3) := by decide +kernel
theorem dX13_wrong_9 : decode cX13_wrong 9 = .ok (.bipush 6, 2) := by decide +kernel
theorem dX13_wrong_11 : decode cX13_wrong 11 = .ok (.if_icmp .ne 7, 3) := by decide +kernel
theorem dX13_wrong_14 : decode cX13_wrong 14 = .ok (.iconst 1, 1) := by decide +kernel
theorem dX13_wrong_15 : decode cX13_wrong 15 = .ok (.goto 4, 3) := by decide +kernel
theorem dX13_wrong_18 : decode cX13_wrong 18 = .ok (.iconst 2, 1) := by decide +kernel
theorem dX13_wrong_19 : decode cX13_wrong 19 = .ok (.aload_n 0, 1) := by decide +kernel
theorem dX13_wrong_20 : decode cX13_wrong 20 = .ok (.aload_n 0, 1) := by decide +kernel
theorem dX13_wrong_21 : decode cX13_wrong 21 = .ok (.getfield 135, 3) := by decide +kernel
theorem dX13_wrong_24 : decode cX13_wrong 24 = .ok (.invokevirtual 149, 3) := by decide +kernel
theorem dX13_wrong_27 : decode cX13_wrong 27 = .ok (.invokevirtual 152, 3) := by decide +kernel
theorem dX13_wrong_30 : decode cX13_wrong 30 = .ok (.return_, 1) := by decide +kernel
theorem dX13_step_0 : decode cX13_step 0 = .ok (.aload_n 0, 1) := by decide +kernel
theorem dX13_step_1 : decode cX13_step 1 = .ok (.getfield 135, 3) := by decide +kernel
theorem dX13_step_4 : decode cX13_step 4 = .ok (.sipush 700, 3) := by decide +kernel
theorem dX13_step_7 : decode cX13_step 7 = .ok (.if_icmp .ne 27, 3) := by decide +kernel
theorem dX13_step_10 : decode cX13_step 10 = .ok (.aload_n 0, 1) := by decide +kernel
theorem dX13_step_11 : decode cX13_step 11 = .ok (.aload_n 0, 1) := by decide +kernel
theorem dX13_step_12 : decode cX13_step 12 = .ok (.getfield 135, 3) := by decide +kernel
theorem dX13_step_15 : decode cX13_step 15 = .ok (.invokevirtual 138, 3) := by decide +kernel
theorem dX13_step_18 : decode cX13_step 18 = .ok (.ifCond .eq 16, 3) := by decide +kernel
theorem dX13_step_21 : decode cX13_step 21 = .ok (.aload_n 0, 1) := by decide +kernel
theorem dX13_step_22 : decode cX13_step 22 = .ok (.iconst 3, 1) := by decide +kernel
theorem dX13_step_23 : decode cX13_step 23 = .ok (.aload_n 0, 1) := by decide +kernel
theorem dX13_step_24 : decode cX13_step 24 = .ok (.aload_n 0, 1) := by decide +kernel
theorem dX13_step_25 : decode cX13_step 25 = .ok (.getfield 135, 3) := by decide +kernel
theorem dX13_step_28 : decode cX13_step 28 = .ok (.invokevirtual 149, 3) := by decide +kernel
theorem dX13_step_31 : decode cX13_step 31 = .ok (.invokevirtual 152, 3) := by decide +kernel
theorem dX13_step_34 : decode cX13_step 34 = .ok (.aload_n 0, 1) := by decide +kernel
theorem dX13_step_35 : decode cX13_step 35 = .ok (.getfield 129, 3) := by decide +kernel
theorem dX13_step_38 : decode cX13_step 38 = .ok (.ifCond .ne 13, 3) := by decide +kernel
theorem dX13_step_41 : decode cX13_step 41 = .ok (.aload_n 0, 1) := by decide +kernel
theorem dX13_step_42 : decode cX13_step 42 = .ok (.dup, 1) := by decide +kernel
theorem dX13_step_43 : decode cX13_step 43 = .ok (.getfield 135, 3) := by decide +kernel
theorem dX13_step_46 : decode cX13_step 46 = .ok (.iconst 1, 1) := by decide +kernel
theorem dX13_step_47 : decode cX13_step 47 = .ok (.iadd, 1) := by decide +kernel
theorem dX13_step_48 : decode cX13_step 48 = .ok (.putfield 135, 3) := by decide +kernel
theorem dX13_step_51 : decode cX13_step 51 = .ok (.return_, 1) := by decide +kernel
theorem dX13_wantSign_0 : decode cX13_wantSign 0 = .ok (.aload_n 0, 1) := by decide +kernel
theorem dX13_wantSign_1 : decode cX13_wantSign 1 = .ok (.getfield 129, 3) := by decide +kernel
theorem dX13_wantSign_4 : decode cX13_wantSign 4 = .ok (.ifCond .ne 18, 3) := by decide +kernel
theorem dX13_wantSign_7 : decode cX13_wantSign 7 = .ok (.aload_n 0, 1) := by decide +kernel
theorem dX13_wantSign_8 : decode cX13_wantSign 8 = .ok (.iload_n 1, 1) := by decide +kernel
theorem dX13_wantSign_9 : decode cX13_wantSign 9 = .ok (.invokevirtual 156, 3) := by decide +kernel
theorem dX13_wantSign_12 : decode cX13_wantSign 12 = .ok (.ifCond .eq 10, 3) := by decide +kernel
theorem dX13_wantSign_15 : decode cX13_wantSign 15 = .ok (.aload_n 0, 1) := by decide +kernel
theorem dX13_wantSign_16 : decode cX13_wantSign 16 = .ok (.invokevirtual 159, 3) := by decide +kernel
theorem dX13_wantSign_19 : decode cX13_wantSign 19 = .ok (.goto 14, 3) := by decide +kernel
theorem dX13_wantSign_22 : decode cX13_wantSign 22 = .ok (.aload_n 0, 1) := by decide +kernel
theorem dX13_wantSign_23 : decode cX13_wantSign 23 = .ok (.getfield 129, 3) := by decide +kernel
theorem dX13_wantSign_26 : decode cX13_wantSign 26 = .ok (.ifCond .ne 7, 3) := by decide +kernel
theorem dX13_wantSign_29 : decode cX13_wantSign 29 = .ok (.aload_n 0, 1) := by decide +kernel
theorem dX13_wantSign_30 : decode cX13_wantSign 30 = .ok (.invokevirtual 163, 3) := by decide +kernel
theorem dX13_wantSign_33 : decode cX13_wantSign 33 = .ok (.return_, 1) := by decide +kernel
theorem dX13_wantWord_0 : decode cX13_wantWord 0 = .ok (.aload_n 0, 1) := by decide +kernel
theorem dX13_wantWord_1 : decode cX13_wantWord 1 = .ok (.getfield 129, 3) := by decide +kernel
theorem dX13_wantWord_4 : decode cX13_wantWord 4 = .ok (.ifCond .ne 18, 3) := by decide +kernel
theorem dX13_wantWord_7 : decode cX13_wantWord 7 = .ok (.aload_n 0, 1) := by decide +kernel
theorem dX13_wantWord_8 : decode cX13_wantWord 8 = .ok (.aload_n 1, 1) := by decide +kernel
theorem dX13_wantWord_9 : decode cX13_wantWord 9 = .ok (.invokevirtual 166, 3) := by decide +kernel
theorem dX13_wantWord_12 : decode cX13_wantWord 12 = .ok (.ifCond .eq 10, 3) := by decide +kernel
theorem dX13_wantWord_15 : decode cX13_wantWord 15 = .ok (.aload_n 0, 1) := by decide +kernel
theorem dX13_wantWord_16 : decode cX13_wantWord 16 = .ok (.invokevirtual 159, 3) := by decide +kernel
theorem dX13_wantWord_19 : decode cX13_wantWord 19 = .ok (.goto 14, 3) := by decide +kernel
theorem dX13_wantWord_22 : decode cX13_wantWord 22 = .ok (.aload_n 0, 1) := by decide +kernel
theorem dX13_wantWord_23 : decode cX13_wantWord 23 = .ok (.getfield 129, 3) := by decide +kernel
theorem dX13_wantWord_26 : decode cX13_wantWord 26 = .ok (.ifCond .ne 7, 3) := by decide +kernel
theorem dX13_wantWord_29 : decode cX13_wantWord 29 = .ok (.aload_n 0, 1) := by decide +kernel
theorem dX13_wantWord_30 : decode cX13_wantWord 30 = .ok (.invokevirtual 163, 3) := by decide +kernel
theorem dX13_wantWord_33 : decode cX13_wantWord 33 = .ok (.return_, 1) := by decide +kernel
theorem dX13_takesWord_0 : decode cX13_takesWord 0 = .ok (.aload_n 0, 1) := by decide +kernel
theorem dX13_takesWord_1 : decode cX13_takesWord 1 = .ok (.getfield 129, 3) := by decide +kernel
theorem dX13_takesWord_4 : decode cX13_takesWord 4 = .ok (.ifCond .ne 15, 3) := by decide +kernel
theorem dX13_takesWord_7 : decode cX13_takesWord 7 = .ok (.aload_n 0, 1) := by decide +kernel
theorem dX13_takesWord_8 : decode cX13_takesWord 8 = .ok (.aload_n 1, 1) := by decide +kernel
theorem dX13_takesWord_9 : decode cX13_takesWord 9 = .ok (.invokevirtual 166, 3) := by decide +kernel
theorem dX13_takesWord_12 : decode cX13_takesWord 12 = .ok (.ifCond .eq 7, 3) := by decide +kernel
theorem dX13_takesWord_15 : decode cX13_takesWord 15 = .ok (.iconst 1, 1) := by decide +kernel
theorem dX13_takesWord_16 : decode cX13_takesWord 16 = .ok (.goto 4, 3) := by decide +kernel
theorem dX13_takesWord_19 : decode cX13_takesWord 19 = .ok (.iconst 0, 1) := by decide +kernel
theorem dX13_takesWord_20 : decode cX13_takesWord 20 = .ok (.istore_n 2, 1) := by decide +kernel
theorem dX13_takesWord_21 : decode cX13_takesWord 21 = .ok (.iload_n 2, 1) := by decide +kernel
theorem dX13_takesWord_22 : decode cX13_takesWord 22 = .ok (.ifCond .eq 7, 3) := by decide +kernel
theorem dX13_takesWord_25 : decode cX13_takesWord 25 = .ok (.aload_n 0, 1) := by decide +kernel
theorem dX13_takesWord_26 : decode cX13_takesWord 26 = .ok (.invokevirtual 159, 3) := by decide +kernel
theorem dX13_takesWord_29 : decode cX13_takesWord 29 = .ok (.iload_n 2, 1) := by decide +kernel
theorem dX13_takesWord_30 : decode cX13_takesWord 30 = .ok (.ireturn, 1) := by decide +kernel
theorem dX13_want_0 : decode cX13_want 0 = .ok (.aload_n 0, 1) := by decide +kernel
theorem dX13_want_1 : decode cX13_want 1 = .ok (.getfield 135, 3) := by decide +kernel
theorem dX13_want_4 : decode cX13_want 4 = .ok (.istore_n 3, 1) := by decide +kernel
theorem dX13_want_5 : decode cX13_want 5 = .ok (.aload_n 0, 1) := by decide +kernel
theorem dX13_want_6 : decode cX13_want 6 = .ok (.getfield 129, 3) := by decide +kernel
theorem dX13_want_9 : decode cX13_want 9 = .ok (.ifCond .ne 22, 3) := by decide +kernel
theorem dX13_want_12 : decode cX13_want 12 = .ok (.aload_n 0, 1) := by decide +kernel
theorem dX13_want_13 : decode cX13_want 13 = .ok (.aload_n 0, 1) := by decide +kernel
theorem dX13_want_14 : decode cX13_want 14 = .ok (.getfield 135, 3) := by decide +kernel
theorem dX13_want_17 : decode cX13_want 17 = .ok (.invokevirtual 138, 3) := by decide +kernel
theorem dX13_want_20 : decode cX13_want 20 = .ok (.iload_n 1, 1) := by decide +kernel
theorem dX13_want_21 : decode cX13_want 21 = .ok (.if_icmp .eq 10, 3) := by decide +kernel
theorem dX13_want_24 : decode cX13_want 24 = .ok (.aload_n 0, 1) := by decide +kernel
theorem dX13_want_25 : decode cX13_want 25 = .ok (.invokevirtual 163, 3) := by decide +kernel
theorem dX13_want_28 : decode cX13_want 28 = .ok (.goto 31, 3) := by decide +kernel
theorem dX13_want_31 : decode cX13_want 31 = .ok (.aload_n 0, 1) := by decide +kernel
theorem dX13_want_32 : decode cX13_want 32 = .ok (.getfield 129, 3) := by decide +kernel
theorem dX13_want_35 : decode cX13_want 35 = .ok (.ifCond .ne 24, 3) := by decide +kernel
theorem dX13_want_38 : decode cX13_want 38 = .ok (.iload_n 2, 1) := by decide +kernel
theorem dX13_want_39 : decode cX13_want 39 = .ok (.ifCond .eq 16, 3) := by decide +kernel
theorem dX13_want_42 : decode cX13_want 42 = .ok (.aload_n 0, 1) := by decide +kernel
theorem dX13_want_43 : decode cX13_want 43 = .ok (.iconst 3, 1) := by decide +kernel
theorem dX13_want_44 : decode cX13_want 44 = .ok (.aload_n 0, 1) := by decide +kernel
theorem dX13_want_45 : decode cX13_want 45 = .ok (.aload_n 0, 1) := by decide +kernel
theorem dX13_want_46 : decode cX13_want 46 = .ok (.getfield 135, 3) := by decide +kernel
theorem dX13_want_49 : decode cX13_want 49 = .ok (.invokevirtual 149, 3) := by decide +kernel
theorem dX13_want_52 : decode cX13_want 52 = .ok (.invokevirtual 152, 3) := by decide +kernel
theorem dX13_want_55 : decode cX13_want 55 = .ok (.aload_n 0, 1) := by decide +kernel
theorem dX13_want_56 : decode cX13_want 56 = .ok (.invokevirtual 159, 3) := by decide +kernel
theorem dX13_want_59 : decode cX13_want 59 = .ok (.iload_n 3, 1) := by decide +kernel
theorem dX13_want_60 : decode cX13_want 60 = .ok (.ireturn, 1) := by decide +kernel
theorem dX13_node_0 : decode cX13_node 0 = .ok (.aload_n 0, 1) := by decide +kernel
theorem dX13_node_1 : decode cX13_node 1 = .ok (.getfield 84, 3) := by decide +kernel
theorem dX13_node_4 : decode cX13_node 4 = .ok (.sipush 1700, 3) := by decide +kernel
theorem dX13_node_7 : decode cX13_node 7 = .ok (.imul, 1) := by decide +kernel
theorem dX13_node_8 : decode cX13_node 8 = .ok (.aload_n 0, 1) := by decide +kernel
theorem dX13_node_9 : decode cX13_node 9 = .ok (.getfield 170, 3) := by decide +kernel
theorem dX13_node_12 : decode cX13_node 12 = .ok (.aload_n 0, 1) := by decide +kernel
theorem dX13_node_13 : decode cX13_node 13 = .ok (.getfield 84, 3) := by decide +kernel
theorem dX13_node_16 : decode cX13_node 16 = .ok (.iaload, 1) := by decide +kernel
theorem dX13_node_17 : decode cX13_node 17 = .ok (.iadd, 1) := by decide +kernel
theorem dX13_node_18 : decode cX13_node 18 = .ok (.istore_n 3, 1) := by decide +kernel
theorem dX13_node_19 : decode cX13_node 19 = .ok (.aload_n 0, 1) := by decide +kernel
theorem dX13_node_20 : decode cX13_node 20 = .ok (.getfield 170, 3) := by decide +kernel
theorem dX13_node_23 : decode cX13_node 23 = .ok (.aload_n 0, 1) := by decide +kernel
theorem dX13_node_24 : decode cX13_node 24 = .ok (.getfield 84, 3) := by decide +kernel
theorem dX13_node_27 : decode cX13_node 27 = .ok (.dup2, 1) := by decide +kernel
theorem dX13_node_28 : decode cX13_node 28 = .ok (.iaload, 1) := by decide +kernel
theorem dX13_node_29 : decode cX13_node 29 = .ok (.iconst 1, 1) := by decide +kernel
theorem dX13_node_30 : decode cX13_node 30 = .ok (.iadd, 1) := by decide +kernel
theorem dX13_node_31 : decode cX13_node 31 = .ok (.iastore, 1) := by decide +kernel
theorem dX13_node_32 : decode cX13_node 32 = .ok (.aload_n 0, 1) := by decide +kernel
theorem dX13_node_33 : decode cX13_node 33 = .ok (.getfield 173, 3) := by decide +kernel
theorem dX13_node_36 : decode cX13_node 36 = .ok (.iload_n 3, 1) := by decide +kernel
theorem dX13_node_37 : decode cX13_node 37 = .ok (.iload_n 1, 1) := by decide +kernel
theorem dX13_node_38 : decode cX13_node 38 = .ok (.iastore, 1) := by decide +kernel
theorem dX13_node_39 : decode cX13_node 39 = .ok (.aload_n 0, 1) := by decide +kernel
theorem dX13_node_40 : decode cX13_node 40 = .ok (.getfield 176, 3) := by decide +kernel
theorem dX13_node_43 : decode cX13_node 43 = .ok (.iload_n 3, 1) := by decide +kernel
theorem dX13_node_44 : decode cX13_node 44 = .ok (.iload_n 2, 1) := by decide +kernel
theorem dX13_node_45 : decode cX13_node 45 = .ok (.iastore, 1) := by decide +kernel
theorem dX13_node_46 : decode cX13_node 46 = .ok (.aload_n 0, 1) := by decide +kernel
theorem dX13_node_47 : decode cX13_node 47 = .ok (.getfield 179, 3) := by decide +kernel
theorem dX13_node_50 : decode cX13_node 50 = .ok (.iload_n 3, 1) := by decide +kernel
theorem dX13_node_51 : decode cX13_node 51 = .ok (.iload_n 2, 1) := by decide +kernel
theorem dX13_node_52 : decode cX13_node 52 = .ok (.iastore, 1) := by decide +kernel
theorem dX13_node_53 : decode cX13_node 53 = .ok (.aload_n 0, 1) := by decide +kernel
theorem dX13_node_54 : decode cX13_node 54 = .ok (.getfield 182, 3) := by decide +kernel
theorem dX13_node_57 : decode cX13_node 57 = .ok (.iload_n 3, 1) := by decide +kernel
theorem dX13_node_58 : decode cX13_node 58 = .ok (.iload_n 2, 1) := by decide +kernel
theorem dX13_node_59 : decode cX13_node 59 = .ok (.iastore, 1) := by decide +kernel
theorem dX13_node_60 : decode cX13_node 60 = .ok (.aload_n 0, 1) := by decide +kernel
theorem dX13_node_61 : decode cX13_node 61 = .ok (.getfield 185, 3) := by decide +kernel
theorem dX13_node_64 : decode cX13_node 64 = .ok (.iload_n 3, 1) := by decide +kernel
theorem dX13_node_65 : decode cX13_node 65 = .ok (.lconst 0, 1) := by decide +kernel
theorem dX13_node_66 : decode cX13_node 66 = .ok (.lastore, 1) := by decide +kernel
theorem dX13_node_67 : decode cX13_node 67 = .ok (.aload_n 0, 1) := by decide +kernel
theorem dX13_node_68 : decode cX13_node 68 = .ok (.getfield 188, 3) := by decide +kernel
theorem dX13_node_71 : decode cX13_node 71 = .ok (.iload_n 3, 1) := by decide +kernel
theorem dX13_node_72 : decode cX13_node 72 = .ok (.lconst 0, 1) := by decide +kernel
theorem dX13_node_73 : decode cX13_node 73 = .ok (.lastore, 1) := by decide +kernel
theorem dX13_node_74 : decode cX13_node 74 = .ok (.aload_n 0, 1) := by decide +kernel
theorem dX13_node_75 : decode cX13_node 75 = .ok (.getfield 191, 3) := by decide +kernel
theorem dX13_node_78 : decode cX13_node 78 = .ok (.iload_n 3, 1) := by decide +kernel
theorem dX13_node_79 : decode cX13_node 79 = .ok (.lconst 0, 1) := by decide +kernel
theorem dX13_node_80 : decode cX13_node 80 = .ok (.lastore, 1) := by decide +kernel
theorem dX13_node_81 : decode cX13_node 81 = .ok (.aload_n 0, 1) := by decide +kernel
theorem dX13_node_82 : decode cX13_node 82 = .ok (.getfield 194, 3) := by decide +kernel
theorem dX13_node_85 : decode cX13_node 85 = .ok (.iload_n 3, 1) := by decide +kernel
theorem dX13_node_86 : decode cX13_node 86 = .ok (.bipush (-2), 2) := by decide +kernel
theorem dX13_node_88 : decode cX13_node 88 = .ok (.iastore, 1) := by decide +kernel
theorem dX13_node_89 : decode cX13_node 89 = .ok (.aload_n 0, 1) := by decide +kernel
theorem dX13_node_90 : decode cX13_node 90 = .ok (.getfield 197, 3) := by decide +kernel
theorem dX13_node_93 : decode cX13_node 93 = .ok (.iload_n 3, 1) := by decide +kernel
theorem dX13_node_94 : decode cX13_node 94 = .ok (.bipush (-2), 2) := by decide +kernel
theorem dX13_node_96 : decode cX13_node 96 = .ok (.iastore, 1) := by decide +kernel
theorem dX13_node_97 : decode cX13_node 97 = .ok (.aload_n 0, 1) := by decide +kernel
theorem dX13_node_98 : decode cX13_node 98 = .ok (.getfield 200, 3) := by decide +kernel
theorem dX13_node_101 : decode cX13_node 101 = .ok (.iload_n 3, 1) := by decide +kernel
theorem dX13_node_102 : decode cX13_node 102 = .ok (.bipush (-2), 2) := by decide +kernel
theorem dX13_node_104 : decode cX13_node 104 = .ok (.iastore, 1) := by decide +kernel
theorem dX13_node_105 : decode cX13_node 105 = .ok (.aload_n 0, 1) := by decide +kernel
theorem dX13_node_106 : decode cX13_node 106 = .ok (.getfield 203, 3) := by decide +kernel
theorem dX13_node_109 : decode cX13_node 109 = .ok (.iload_n 3, 1) := by decide +kernel
theorem dX13_node_110 : decode cX13_node 110 = .ok (.bipush (-2), 2) := by decide +kernel
theorem dX13_node_112 : decode cX13_node 112 = .ok (.iastore, 1) := by decide +kernel
theorem dX13_node_113 : decode cX13_node 113 = .ok (.aload_n 0, 1) := by decide +kernel
theorem dX13_node_114 : decode cX13_node 114 = .ok (.getfield 206, 3) := by decide +kernel
theorem dX13_node_117 : decode cX13_node 117 = .ok (.iload_n 3, 1) := by decide +kernel
theorem dX13_node_118 : decode cX13_node 118 = .ok (.iconst 0, 1) := by decide +kernel
theorem dX13_node_119 : decode cX13_node 119 = .ok (.iastore, 1) := by decide +kernel
theorem dX13_node_120 : decode cX13_node 120 = .ok (.aload_n 0, 1) := by decide +kernel
theorem dX13_node_121 : decode cX13_node 121 = .ok (.getfield 209, 3) := by decide +kernel
theorem dX13_node_124 : decode cX13_node 124 = .ok (.iload_n 3, 1) := by decide +kernel
theorem dX13_node_125 : decode cX13_node 125 = .ok (.bipush (-2), 2) := by decide +kernel
theorem dX13_node_127 : decode cX13_node 127 = .ok (.iastore, 1) := by decide +kernel
theorem dX13_node_128 : decode cX13_node 128 = .ok (.aload_n 0, 1) := by decide +kernel
theorem dX13_node_129 : decode cX13_node 129 = .ok (.getfield 212, 3) := by decide +kernel
theorem dX13_node_132 : decode cX13_node 132 = .ok (.iload_n 3, 1) := by decide +kernel
theorem dX13_node_133 : decode cX13_node 133 = .ok (.lconst 0, 1) := by decide +kernel
theorem dX13_node_134 : decode cX13_node 134 = .ok (.lastore, 1) := by decide +kernel
theorem dX13_node_135 : decode cX13_node 135 = .ok (.aload_n 0, 1) := by decide +kernel
theorem dX13_node_136 : decode cX13_node 136 = .ok (.getfield 215, 3) := by decide +kernel
theorem dX13_node_139 : decode cX13_node 139 = .ok (.iload_n 3, 1) := by decide +kernel
theorem dX13_node_140 : decode cX13_node 140 = .ok (.lconst 0, 1) := by decide +kernel
theorem dX13_node_141 : decode cX13_node 141 = .ok (.lastore, 1) := by decide +kernel
theorem dX13_node_142 : decode cX13_node 142 = .ok (.aload_n 0, 1) := by decide +kernel
theorem dX13_node_143 : decode cX13_node 143 = .ok (.getfield 218, 3) := by decide +kernel
theorem dX13_node_146 : decode cX13_node 146 = .ok (.iload_n 3, 1) := by decide +kernel
theorem dX13_node_147 : decode cX13_node 147 = .ok (.iconst 0, 1) := by decide +kernel
theorem dX13_node_148 : decode cX13_node 148 = .ok (.iastore, 1) := by decide +kernel
theorem dX13_node_149 : decode cX13_node 149 = .ok (.aload_n 0, 1) := by decide +kernel
theorem dX13_node_150 : decode cX13_node 150 = .ok (.getfield 221, 3) := by decide +kernel
theorem dX13_node_153 : decode cX13_node 153 = .ok (.iload_n 3, 1) := by decide +kernel
theorem dX13_node_154 : decode cX13_node 154 = .ok (.bipush (-2), 2) := by decide +kernel
theorem dX13_node_156 : decode cX13_node 156 = .ok (.iastore, 1) := by decide +kernel
theorem dX13_node_157 : decode cX13_node 157 = .ok (.aload_n 0, 1) := by decide +kernel
theorem dX13_node_158 : decode cX13_node 158 = .ok (.getfield 224, 3) := by decide +kernel
theorem dX13_node_161 : decode cX13_node 161 = .ok (.iload_n 3, 1) := by decide +kernel
theorem dX13_node_162 : decode cX13_node 162 = .ok (.bipush (-2), 2) := by decide +kernel
theorem dX13_node_164 : decode cX13_node 164 = .ok (.iastore, 1) := by decide +kernel
theorem dX13_node_165 : decode cX13_node 165 = .ok (.iload_n 3, 1) := by decide +kernel
theorem dX13_node_166 : decode cX13_node 166 = .ok (.ireturn, 1) := by decide +kernel
theorem dX13_parse_0 : decode cX13_parse 0 = .ok (.aload_n 0, 1) := by decide +kernel
theorem dX13_parse_1 : decode cX13_parse 1 = .ok (.iconst 0, 1) := by decide +kernel
theorem dX13_parse_2 : decode cX13_parse 2 = .ok (.putfield 135, 3) := by decide +kernel
theorem dX13_parse_5 : decode cX13_parse 5 = .ok (.aload_n 0, 1) := by decide +kernel
theorem dX13_parse_6 : decode cX13_parse 6 = .ok (.iconst 0, 1) := by decide +kernel
theorem dX13_parse_7 : decode cX13_parse 7 = .ok (.putfield 227, 3) := by decide +kernel
theorem dX13_parse_10 : decode cX13_parse 10 = .ok (.aload_n 0, 1) := by decide +kernel
theorem dX13_parse_11 : decode cX13_parse 11 = .ok (.getfield 230, 3) := by decide +kernel
theorem dX13_parse_14 : decode cX13_parse 14 = .ok (.aload_n 0, 1) := by decide +kernel
theorem dX13_parse_15 : decode cX13_parse 15 = .ok (.getfield 84, 3) := by decide +kernel
theorem dX13_parse_18 : decode cX13_parse 18 = .ok (.iconst 0, 1) := by decide +kernel
theorem dX13_parse_19 : decode cX13_parse 19 = .ok (.iastore, 1) := by decide +kernel
theorem dX13_parse_20 : decode cX13_parse 20 = .ok (.aload_n 0, 1) := by decide +kernel
theorem dX13_parse_21 : decode cX13_parse 21 = .ok (.getfield 170, 3) := by decide +kernel
theorem dX13_parse_24 : decode cX13_parse 24 = .ok (.aload_n 0, 1) := by decide +kernel
theorem dX13_parse_25 : decode cX13_parse 25 = .ok (.getfield 84, 3) := by decide +kernel
theorem dX13_parse_28 : decode cX13_parse 28 = .ok (.iconst 0, 1) := by decide +kernel
theorem dX13_parse_29 : decode cX13_parse 29 = .ok (.iastore, 1) := by decide +kernel
theorem dX13_parse_30 : decode cX13_parse 30 = .ok (.aload_n 0, 1) := by decide +kernel
theorem dX13_parse_31 : decode cX13_parse 31 = .ok (.getfield 129, 3) := by decide +kernel
theorem dX13_parse_34 : decode cX13_parse 34 = .ok (.ifCond .ne 21, 3) := by decide +kernel
theorem dX13_parse_37 : decode cX13_parse 37 = .ok (.aload_n 0, 1) := by decide +kernel
theorem dX13_parse_38 : decode cX13_parse 38 = .ok (.aload_n 0, 1) := by decide +kernel
theorem dX13_parse_39 : decode cX13_parse 39 = .ok (.getfield 135, 3) := by decide +kernel
theorem dX13_parse_42 : decode cX13_parse 42 = .ok (.invokevirtual 138, 3) := by decide +kernel
theorem dX13_parse_45 : decode cX13_parse 45 = .ok (.ifCond .eq 10, 3) := by decide +kernel
theorem dX13_parse_48 : decode cX13_parse 48 = .ok (.aload_n 0, 1) := by decide +kernel
theorem dX13_parse_49 : decode cX13_parse 49 = .ok (.invokevirtual 233, 3) := by decide +kernel
theorem dX13_parse_52 : decode cX13_parse 52 = .ok (.goto (-22), 3) := by decide +kernel
theorem dX13_parse_55 : decode cX13_parse 55 = .ok (.return_, 1) := by decide +kernel
theorem dX13_klass_0 : decode cX13_klass 0 = .ok (.aload_n 0, 1) := by decide +kernel
theorem dX13_klass_1 : decode cX13_klass 1 = .ok (.ldc 236, 2) := by decide +kernel
theorem dX13_klass_3 : decode cX13_klass 3 = .ok (.invokevirtual 238, 3) := by decide +kernel
theorem dX13_klass_6 : decode cX13_klass 6 = .ok (.istore_n 1, 1) := by decide +kernel
theorem dX13_klass_7 : decode cX13_klass 7 = .ok (.aload_n 0, 1) := by decide +kernel
theorem dX13_klass_8 : decode cX13_klass 8 = .ok (.ldc 241, 2) := by decide +kernel
theorem dX13_klass_10 : decode cX13_klass 10 = .ok (.invokevirtual 238, 3) := by decide +kernel
theorem dX13_klass_13 : decode cX13_klass 13 = .ok (.ifCond .eq 7, 3) := by decide +kernel
theorem dX13_klass_16 : decode cX13_klass 16 = .ok (.iconst 1, 1) := by decide +kernel
theorem dX13_klass_17 : decode cX13_klass 17 = .ok (.goto 17, 3) := by decide +kernel
theorem dX13_klass_20 : decode cX13_klass 20 = .ok (.aload_n 0, 1) := by decide +kernel
theorem dX13_klass_21 : decode cX13_klass 21 = .ok (.ldc 243, 2) := by decide +kernel
theorem dX13_klass_23 : decode cX13_klass 23 = .ok (.invokevirtual 238, 3) := by decide +kernel
theorem dX13_klass_26 : decode cX13_klass 26 = .ok (.ifCond .eq 7, 3) := by decide +kernel
theorem dX13_klass_29 : decode cX13_klass 29 = .ok (.iconst 2, 1) := by decide +kernel
theorem dX13_klass_30 : decode cX13_klass 30 = .ok (.goto 4, 3) := by decide +kernel
theorem dX13_klass_33 : decode cX13_klass 33 = .ok (.iconst 0, 1) := by decide +kernel
theorem dX13_klass_34 : decode cX13_klass 34 = .ok (.istore_n 2, 1) := by decide +kernel
theorem dX13_klass_35 : decode cX13_klass 35 = .ok (.aload_n 0, 1) := by decide +kernel
theorem dX13_klass_36 : decode cX13_klass 36 = .ok (.getfield 129, 3) := by decide +kernel
theorem dX13_klass_39 : decode cX13_klass 39 = .ok (.ifCond .ne 25, 3) := by decide +kernel
theorem dX13_klass_42 : decode cX13_klass 42 = .ok (.iload_n 2, 1) := by decide +kernel
theorem dX13_klass_43 : decode cX13_klass 43 = .ok (.ifCond .ne 21, 3) := by decide +kernel
theorem dX13_klass_46 : decode cX13_klass 46 = .ok (.aload_n 0, 1) := by decide +kernel
theorem dX13_klass_47 : decode cX13_klass 47 = .ok (.ldc 245, 2) := by decide +kernel
theorem dX13_klass_49 : decode cX13_klass 49 = .ok (.invokevirtual 166, 3) := by decide +kernel
theorem dX13_klass_52 : decode cX13_klass 52 = .ok (.ifCond .eq 12, 3) := by decide +kernel
theorem dX13_klass_55 : decode cX13_klass 55 = .ok (.aload_n 0, 1) := by decide +kernel
theorem dX13_klass_56 : decode cX13_klass 56 = .ok (.invokevirtual 159, 3) := by decide +kernel
theorem dX13_klass_59 : decode cX13_klass 59 = .ok (.iconst 3, 1) := by decide +kernel
theorem dX13_klass_60 : decode cX13_klass 60 = .ok (.istore_n 2, 1) := by decide +kernel
theorem dX13_klass_61 : decode cX13_klass 61 = .ok (.goto 9, 3) := by decide +kernel
theorem dX13_klass_64 : decode cX13_klass 64 = .ok (.aload_n 0, 1) := by decide +kernel
theorem dX13_klass_65 : decode cX13_klass 65 = .ok (.ldc 247, 2) := by decide +kernel
theorem dX13_klass_67 : decode cX13_klass 67 = .ok (.invokevirtual 249, 3) := by decide +kernel
theorem dX13_klass_70 : decode cX13_klass 70 = .ok (.aload_n 0, 1) := by decide +kernel
theorem dX13_klass_71 : decode cX13_klass 71 = .ok (.iconst 1, 1) := by decide +kernel
theorem dX13_klass_72 : decode cX13_klass 72 = .ok (.aload_n 0, 1) := by decide +kernel
theorem dX13_klass_73 : decode cX13_klass 73 = .ok (.getfield 230, 3) := by decide +kernel
theorem dX13_klass_76 : decode cX13_klass 76 = .ok (.aload_n 0, 1) := by decide +kernel
theorem dX13_klass_77 : decode cX13_klass 77 = .ok (.getfield 84, 3) := by decide +kernel
theorem dX13_klass_80 : decode cX13_klass 80 = .ok (.iaload, 1) := by decide +kernel
theorem dX13_klass_81 : decode cX13_klass 81 = .ok (.bipush 12, 2) := by decide +kernel
theorem dX13_klass_83 : decode cX13_klass 83 = .ok (.if_icmp .ne 7, 3) := by decide +kernel
theorem dX13_klass_86 : decode cX13_klass 86 = .ok (.iconst 1, 1) := by decide +kernel
theorem dX13_klass_87 : decode cX13_klass 87 = .ok (.goto 4, 3) := by decide +kernel
theorem dX13_klass_90 : decode cX13_klass 90 = .ok (.iconst 0, 1) := by decide +kernel
theorem dX13_klass_91 : decode cX13_klass 91 = .ok (.invokevirtual 252, 3) := by decide +kernel
theorem dX13_klass_94 : decode cX13_klass 94 = .ok (.istore_n 3, 1) := by decide +kernel
theorem dX13_klass_95 : decode cX13_klass 95 = .ok (.aload_n 0, 1) := by decide +kernel
theorem dX13_klass_96 : decode cX13_klass 96 = .ok (.getfield 129, 3) := by decide +kernel
theorem dX13_klass_99 : decode cX13_klass 99 = .ok (.ifCond .eq 4, 3) := by decide +kernel
theorem dX13_klass_102 : decode cX13_klass 102 = .ok (.return_, 1) := by decide +kernel
theorem dX13_klass_103 : decode cX13_klass 103 = .ok (.aload_n 0, 1) := by decide +kernel
theorem dX13_klass_104 : decode cX13_klass 104 = .ok (.getfield 84, 3) := by decide +kernel
theorem dX13_klass_107 : decode cX13_klass 107 = .ok (.bipush 12, 2) := by decide +kernel
theorem dX13_klass_109 : decode cX13_klass 109 = .ok (.imul, 1) := by decide +kernel
theorem dX13_klass_110 : decode cX13_klass 110 = .ok (.aload_n 0, 1) := by decide +kernel
theorem dX13_klass_111 : decode cX13_klass 111 = .ok (.getfield 230, 3) := by decide +kernel
theorem dX13_klass_114 : decode cX13_klass 114 = .ok (.aload_n 0, 1) := by decide +kernel
theorem dX13_klass_115 : decode cX13_klass 115 = .ok (.getfield 84, 3) := by decide +kernel
theorem dX13_klass_118 : decode cX13_klass 118 = .ok (.iaload, 1) := by decide +kernel
theorem dX13_klass_119 : decode cX13_klass 119 = .ok (.iadd, 1) := by decide +kernel
theorem dX13_klass_120 : decode cX13_klass 120 = .ok (.istore 4, 2) := by decide +kernel
theorem dX13_klass_122 : decode cX13_klass 122 = .ok (.aload_n 0, 1) := by decide +kernel
theorem dX13_klass_123 : decode cX13_klass 123 = .ok (.getfield 230, 3) := by decide +kernel
theorem dX13_klass_126 : decode cX13_klass 126 = .ok (.aload_n 0, 1) := by decide +kernel
theorem dX13_klass_127 : decode cX13_klass 127 = .ok (.getfield 84, 3) := by decide +kernel
theorem dX13_klass_130 : decode cX13_klass 130 = .ok (.dup2, 1) := by decide +kernel
theorem dX13_klass_131 : decode cX13_klass 131 = .ok (.iaload, 1) := by decide +kernel
theorem dX13_klass_132 : decode cX13_klass 132 = .ok (.iconst 1, 1) := by decide +kernel
theorem dX13_klass_133 : decode cX13_klass 133 = .ok (.iadd, 1) := by decide +kernel
theorem dX13_klass_134 : decode cX13_klass 134 = .ok (.iastore, 1) := by decide +kernel
theorem dX13_klass_135 : decode cX13_klass 135 = .ok (.aload_n 0, 1) := by decide +kernel
theorem dX13_klass_136 : decode cX13_klass 136 = .ok (.getfield 256, 3) := by decide +kernel
theorem dX13_klass_139 : decode cX13_klass 139 = .ok (.iload 4, 2) := by decide +kernel
theorem dX13_klass_141 : decode cX13_klass 141 = .ok (.aload_n 0, 1) := by decide +kernel
theorem dX13_klass_142 : decode cX13_klass 142 = .ok (.iload_n 3, 1) := by decide +kernel
theorem dX13_klass_143 : decode cX13_klass 143 = .ok (.invokevirtual 141, 3) := by decide +kernel
theorem dX13_klass_146 : decode cX13_klass 146 = .ok (.lastore, 1) := by decide +kernel
theorem dX13_klass_147 : decode cX13_klass 147 = .ok (.aload_n 0, 1) := by decide +kernel
theorem dX13_klass_148 : decode cX13_klass 148 = .ok (.getfield 259, 3) := by decide +kernel
theorem dX13_klass_151 : decode cX13_klass 151 = .ok (.iload 4, 2) := by decide +kernel
theorem dX13_klass_153 : decode cX13_klass 153 = .ok (.aload_n 0, 1) := by decide +kernel
theorem dX13_klass_154 : decode cX13_klass 154 = .ok (.iload_n 3, 1) := by decide +kernel
theorem dX13_klass_155 : decode cX13_klass 155 = .ok (.invokevirtual 149, 3) := by decide +kernel
theorem dX13_klass_158 : decode cX13_klass 158 = .ok (.iastore, 1) := by decide +kernel
theorem dX13_klass_159 : decode cX13_klass 159 = .ok (.aload_n 0, 1) := by decide +kernel
theorem dX13_klass_160 : decode cX13_klass 160 = .ok (.getfield 262, 3) := by decide +kernel
theorem dX13_klass_163 : decode cX13_klass 163 = .ok (.iload 4, 2) := by decide +kernel
theorem dX13_klass_165 : decode cX13_klass 165 = .ok (.iload_n 1, 1) := by decide +kernel
theorem dX13_klass_166 : decode cX13_klass 166 = .ok (.bastore, 1) := by decide +kernel
theorem dX13_klass_167 : decode cX13_klass 167 = .ok (.aload_n 0, 1) := by decide +kernel
theorem dX13_klass_168 : decode cX13_klass 168 = .ok (.getfield 266, 3) := by decide +kernel
theorem dX13_klass_171 : decode cX13_klass 171 = .ok (.iload 4, 2) := by decide +kernel
theorem dX13_klass_173 : decode cX13_klass 173 = .ok (.iload_n 2, 1) := by decide +kernel
theorem dX13_klass_174 : decode cX13_klass 174 = .ok (.iastore, 1) := by decide +kernel
theorem dX13_klass_175 : decode cX13_klass 175 = .ok (.aload_n 0, 1) := by decide +kernel
theorem dX13_klass_176 : decode cX13_klass 176 = .ok (.getfield 269, 3) := by decide +kernel
theorem dX13_klass_179 : decode cX13_klass 179 = .ok (.iload 4, 2) := by decide +kernel
theorem dX13_klass_181 : decode cX13_klass 181 = .ok (.lconst 0, 1) := by decide +kernel
theorem dX13_klass_182 : decode cX13_klass 182 = .ok (.lastore, 1) := by decide +kernel
theorem dX13_klass_183 : decode cX13_klass 183 = .ok (.aload_n 0, 1) := by decide +kernel
theorem dX13_klass_184 : decode cX13_klass 184 = .ok (.getfield 272, 3) := by decide +kernel
theorem dX13_klass_187 : decode cX13_klass 187 = .ok (.iload 4, 2) := by decide +kernel
theorem dX13_klass_189 : decode cX13_klass 189 = .ok (.lconst 0, 1) := by decide +kernel
theorem dX13_klass_190 : decode cX13_klass 190 = .ok (.lastore, 1) := by decide +kernel
theorem dX13_klass_191 : decode cX13_klass 191 = .ok (.aload_n 0, 1) := by decide +kernel
theorem dX13_klass_192 : decode cX13_klass 192 = .ok (.getfield 275, 3) := by decide +kernel
theorem dX13_klass_195 : decode cX13_klass 195 = .ok (.iload 4, 2) := by decide +kernel
theorem dX13_klass_197 : decode cX13_klass 197 = .ok (.iconst 0, 1) := by decide +kernel
theorem dX13_klass_198 : decode cX13_klass 198 = .ok (.iastore, 1) := by decide +kernel
theorem dX13_klass_199 : decode cX13_klass 199 = .ok (.aload_n 0, 1) := by decide +kernel
theorem dX13_klass_200 : decode cX13_klass 200 = .ok (.ldc_w 278, 3) := by decide +kernel
theorem dX13_klass_203 : decode cX13_klass 203 = .ok (.invokevirtual 238, 3) := by decide +kernel
theorem dX13_klass_206 : decode cX13_klass 206 = .ok (.ifCond .eq 34, 3) := by decide +kernel
theorem dX13_klass_209 : decode cX13_klass 209 = .ok (.aload_n 0, 1) := by decide +kernel
theorem dX13_klass_210 : decode cX13_klass 210 = .ok (.iconst 1, 1) := by decide +kernel
theorem dX13_klass_211 : decode cX13_klass 211 = .ok (.iconst 0, 1) := by decide +kernel
theorem dX13_klass_212 : decode cX13_klass 212 = .ok (.invokevirtual 252, 3) := by decide +kernel
theorem dX13_klass_215 : decode cX13_klass 215 = .ok (.istore_n 3, 1) := by decide +kernel
theorem dX13_klass_216 : decode cX13_klass 216 = .ok (.aload_n 0, 1) := by decide +kernel
theorem dX13_klass_217 : decode cX13_klass 217 = .ok (.getfield 269, 3) := by decide +kernel
theorem dX13_klass_220 : decode cX13_klass 220 = .ok (.iload 4, 2) := by decide +kernel
theorem dX13_klass_222 : decode cX13_klass 222 = .ok (.aload_n 0, 1) := by decide +kernel
theorem dX13_klass_223 : decode cX13_klass 223 = .ok (.iload_n 3, 1) := by decide +kernel
theorem dX13_klass_224 : decode cX13_klass 224 = .ok (.invokevirtual 141, 3) := by decide +kernel
theorem dX13_klass_227 : decode cX13_klass 227 = .ok (.lastore, 1) := by decide +kernel
theorem dX13_klass_228 : decode cX13_klass 228 = .ok (.aload_n 0, 1) := by decide +kernel
theorem dX13_klass_229 : decode cX13_klass 229 = .ok (.getfield 280, 3) := by decide +kernel
theorem dX13_klass_232 : decode cX13_klass 232 = .ok (.iload 4, 2) := by decide +kernel
theorem dX13_klass_234 : decode cX13_klass 234 = .ok (.aload_n 0, 1) := by decide +kernel
theorem dX13_klass_235 : decode cX13_klass 235 = .ok (.iload_n 3, 1) := by decide +kernel
theorem dX13_klass_236 : decode cX13_klass 236 = .ok (.invokevirtual 149, 3) := by decide +kernel
theorem dX13_klass_239 : decode cX13_klass 239 = .ok (.iastore, 1) := by decide +kernel
theorem dX13_klass_240 : decode cX13_klass 240 = .ok (.aload_n 0, 1) := by decide +kernel
theorem dX13_klass_241 : decode cX13_klass 241 = .ok (.getfield 283, 3) := by decide +kernel
theorem dX13_klass_244 : decode cX13_klass 244 = .ok (.iload 4, 2) := by decide +kernel
theorem dX13_klass_246 : decode cX13_klass 246 = .ok (.aload_n 0, 1) := by decide +kernel
theorem dX13_klass_247 : decode cX13_klass 247 = .ok (.ldc_w 286, 3) := by decide +kernel
theorem dX13_klass_250 : decode cX13_klass 250 = .ok (.invokevirtual 238, 3) := by decide +kernel
theorem dX13_klass_253 : decode cX13_klass 253 = .ok (.ifCond .eq 23, 3) := by decide +kernel
theorem dX13_klass_256 : decode cX13_klass 256 = .ok (.aload_n 0, 1) := by decide +kernel
theorem dX13_klass_257 : decode cX13_klass 257 = .ok (.aload_n 0, 1) := by decide +kernel
theorem dX13_klass_258 : decode cX13_klass 258 = .ok (.getfield 288, 3) := by decide +kernel
theorem dX13_klass_261 : decode cX13_klass 261 = .ok (.aload_n 0, 1) := by decide +kernel
theorem dX13_klass_262 : decode cX13_klass 262 = .ok (.getfield 291, 3) := by decide +kernel
theorem dX13_klass_265 : decode cX13_klass 265 = .ok (.iconst 4, 1) := by decide +kernel
theorem dX13_klass_266 : decode cX13_klass 266 = .ok (.iload 4, 2) := by decide +kernel
theorem dX13_klass_268 : decode cX13_klass 268 = .ok (.imul, 1) := by decide +kernel
theorem dX13_klass_269 : decode cX13_klass 269 = .ok (.iconst 4, 1) := by decide +kernel
theorem dX13_klass_270 : decode cX13_klass 270 = .ok (.invokevirtual 294, 3) := by decide +kernel
theorem dX13_klass_273 : decode cX13_klass 273 = .ok (.goto 4, 3) := by decide +kernel
theorem dX13_klass_276 : decode cX13_klass 276 = .ok (.iconst 0, 1) := by decide +kernel
theorem dX13_klass_277 : decode cX13_klass 277 = .ok (.iastore, 1) := by decide +kernel
theorem dX13_klass_278 : decode cX13_klass 278 = .ok (.aload_n 0, 1) := by decide +kernel
theorem dX13_klass_279 : decode cX13_klass 279 = .ok (.ldc_w 298, 3) := by decide +kernel
theorem dX13_klass_282 : decode cX13_klass 282 = .ok (.invokevirtual 238, 3) := by decide +kernel
theorem dX13_klass_285 : decode cX13_klass 285 = .ok (.ifCond .eq 34, 3) := by decide +kernel
theorem dX13_klass_288 : decode cX13_klass 288 = .ok (.aload_n 0, 1) := by decide +kernel
theorem dX13_klass_289 : decode cX13_klass 289 = .ok (.iconst 1, 1) := by decide +kernel
theorem dX13_klass_290 : decode cX13_klass 290 = .ok (.iconst 0, 1) := by decide +kernel
theorem dX13_klass_291 : decode cX13_klass 291 = .ok (.invokevirtual 252, 3) := by decide +kernel
theorem dX13_klass_294 : decode cX13_klass 294 = .ok (.istore_n 3, 1) := by decide +kernel
theorem dX13_klass_295 : decode cX13_klass 295 = .ok (.aload_n 0, 1) := by decide +kernel
