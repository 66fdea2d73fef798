theorem dX12_buildOf_25 : decode cX12_buildOf 25 = .ok (.if_icmp .ne 25, 3) := by decide +kernel
theorem dX12_buildOf_28 : decode cX12_buildOf 28 = .ok (.aload_n 0, 1) := by decide +kernel
theorem dX12_buildOf_29 : decode cX12_buildOf 29 = .ok (.getfield 18, 3) := by decide +kernel
theorem dX12_buildOf_32 : decode cX12_buildOf 32 = .ok (.iload 4, 2) := by decide +kernel
theorem dX12_buildOf_34 : decode cX12_buildOf 34 = .ok (.aaload, 1) := by decide +kernel
theorem dX12_buildOf_35 : decode cX12_buildOf 35 = .ok (.getfield 156, 3) := by decide +kernel
theorem dX12_buildOf_38 : decode cX12_buildOf 38 = .ok (.iload_n 2, 1) := by decide +kernel
theorem dX12_buildOf_39 : decode cX12_buildOf 39 = .ok (.if_icmp .ne 11, 3) := by decide +kernel
theorem dX12_buildOf_42 : decode cX12_buildOf 42 = .ok (.aload_n 0, 1) := by decide +kernel
theorem dX12_buildOf_43 : decode cX12_buildOf 43 = .ok (.getfield 18, 3) := by decide +kernel
theorem dX12_buildOf_46 : decode cX12_buildOf 46 = .ok (.iload 4, 2) := by decide +kernel
theorem dX12_buildOf_48 : decode cX12_buildOf 48 = .ok (.aaload, 1) := by decide +kernel
theorem dX12_buildOf_49 : decode cX12_buildOf 49 = .ok (.areturn, 1) := by decide +kernel
theorem dX12_buildOf_50 : decode cX12_buildOf 50 = .ok (.iinc 4 1, 3) := by decide +kernel
theorem dX12_buildOf_53 : decode cX12_buildOf 53 = .ok (.goto (-45), 3) := by decide +kernel
theorem dX12_buildOf_56 : decode cX12_buildOf 56 = .ok (.aconst_null, 1) := by decide +kernel
theorem dX12_buildOf_57 : decode cX12_buildOf 57 = .ok (.areturn, 1) := by decide +kernel
theorem dX12_unused_0 : decode cX12_unused 0 = .ok (.aload_n 0, 1) := by decide +kernel
theorem dX12_unused_1 : decode cX12_unused 1 = .ok (.getfield 18, 3) := by decide +kernel
theorem dX12_unused_4 : decode cX12_unused 4 = .ok (.aload_n 0, 1) := by decide +kernel
theorem dX12_unused_5 : decode cX12_unused 5 = .ok (.invokevirtual 149, 3) := by decide +kernel
theorem dX12_unused_8 : decode cX12_unused 8 = .ok (.bipush 16, 2) := by decide +kernel
theorem dX12_unused_10 : decode cX12_unused 10 = .ok (.invokestatic 159, 3) := by decide +kernel
theorem dX12_unused_13 : decode cX12_unused 13 = .ok (.aaload, 1) := by decide +kernel
theorem dX12_unused_14 : decode cX12_unused 14 = .ok (.areturn, 1) := by decide +kernel
theorem dX12_rowOf_0 : decode cX12_rowOf 0 = .ok (.aload_n 0, 1) := by decide +kernel
theorem dX12_rowOf_1 : decode cX12_rowOf 1 = .ok (.iload_n 1, 1) := by decide +kernel
theorem dX12_rowOf_2 : decode cX12_rowOf 2 = .ok (.iload_n 2, 1) := by decide +kernel
theorem dX12_rowOf_3 : decode cX12_rowOf 3 = .ok (.invokevirtual 139, 3) := by decide +kernel
theorem dX12_rowOf_6 : decode cX12_rowOf 6 = .ok (.astore 4, 2) := by decide +kernel
theorem dX12_rowOf_8 : decode cX12_rowOf 8 = .ok (.aload 4, 2) := by decide +kernel
theorem dX12_rowOf_10 : decode cX12_rowOf 10 = .ok (.ifnull 16, 3) := by decide +kernel
theorem dX12_rowOf_13 : decode cX12_rowOf 13 = .ok (.iload_n 3, 1) := by decide +kernel
theorem dX12_rowOf_14 : decode cX12_rowOf 14 = .ok (.ifCond .lt 12, 3) := by decide +kernel
theorem dX12_rowOf_17 : decode cX12_rowOf 17 = .ok (.iload_n 3, 1) := by decide +kernel
theorem dX12_rowOf_18 : decode cX12_rowOf 18 = .ok (.aload 4, 2) := by decide +kernel
theorem dX12_rowOf_20 : decode cX12_rowOf 20 = .ok (.getfield 165, 3) := by decide +kernel
theorem dX12_rowOf_23 : decode cX12_rowOf 23 = .ok (.if_icmp .lt 7, 3) := by decide +kernel
theorem dX12_rowOf_26 : decode cX12_rowOf 26 = .ok (.aconst_null, 1) := by decide +kernel
theorem dX12_rowOf_27 : decode cX12_rowOf 27 = .ok (.goto 10, 3) := by decide +kernel
theorem dX12_rowOf_30 : decode cX12_rowOf 30 = .ok (.aload 4, 2) := by decide +kernel
theorem dX12_rowOf_32 : decode cX12_rowOf 32 = .ok (.getfield 168, 3) := by decide +kernel
theorem dX12_rowOf_35 : decode cX12_rowOf 35 = .ok (.iload_n 3, 1) := by decide +kernel
theorem dX12_rowOf_36 : decode cX12_rowOf 36 = .ok (.aaload, 1) := by decide +kernel
theorem dX12_rowOf_37 : decode cX12_rowOf 37 = .ok (.areturn, 1) := by decide +kernel
theorem dX12_allBuilt_0 : decode cX12_allBuilt 0 = .ok (.iconst 0, 1) := by decide +kernel
theorem dX12_allBuilt_1 : decode cX12_allBuilt 1 = .ok (.istore_n 1, 1) := by decide +kernel
theorem dX12_allBuilt_2 : decode cX12_allBuilt 2 = .ok (.iconst 0, 1) := by decide +kernel
theorem dX12_allBuilt_3 : decode cX12_allBuilt 3 = .ok (.istore_n 2, 1) := by decide +kernel
theorem dX12_allBuilt_4 : decode cX12_allBuilt 4 = .ok (.iload_n 2, 1) := by decide +kernel
theorem dX12_allBuilt_5 : decode cX12_allBuilt 5 = .ok (.iconst 5, 1) := by decide +kernel
theorem dX12_allBuilt_6 : decode cX12_allBuilt 6 = .ok (.if_icmp .ge 18, 3) := by decide +kernel
theorem dX12_allBuilt_9 : decode cX12_allBuilt 9 = .ok (.iload_n 1, 1) := by decide +kernel
theorem dX12_allBuilt_10 : decode cX12_allBuilt 10 = .ok (.aload_n 0, 1) := by decide +kernel
theorem dX12_allBuilt_11 : decode cX12_allBuilt 11 = .ok (.getfield 22, 3) := by decide +kernel
theorem dX12_allBuilt_14 : decode cX12_allBuilt 14 = .ok (.iload_n 2, 1) := by decide +kernel
theorem dX12_allBuilt_15 : decode cX12_allBuilt 15 = .ok (.iaload, 1) := by decide +kernel
theorem dX12_allBuilt_16 : decode cX12_allBuilt 16 = .ok (.iadd, 1) := by decide +kernel
theorem dX12_allBuilt_17 : decode cX12_allBuilt 17 = .ok (.istore_n 1, 1) := by decide +kernel
theorem dX12_allBuilt_18 : decode cX12_allBuilt 18 = .ok (.iinc 2 1, 3) := by decide +kernel
theorem dX12_allBuilt_21 : decode cX12_allBuilt 21 = .ok (.goto (-17), 3) := by decide +kernel
theorem dX12_allBuilt_24 : decode cX12_allBuilt 24 = .ok (.iload_n 1, 1) := by decide +kernel
theorem dX12_allBuilt_25 : decode cX12_allBuilt 25 = .ok (.ireturn, 1) := by decide +kernel
theorem dX12_isFull_0 : decode cX12_isFull 0 = .ok (.aload_n 0, 1) := by decide +kernel
theorem dX12_isFull_1 : decode cX12_isFull 1 = .ok (.getfield 22, 3) := by decide +kernel
theorem dX12_isFull_4 : decode cX12_isFull 4 = .ok (.iload_n 1, 1) := by decide +kernel
theorem dX12_isFull_5 : decode cX12_isFull 5 = .ok (.iaload, 1) := by decide +kernel
theorem dX12_isFull_6 : decode cX12_isFull 6 = .ok (.bipush 8, 2) := by decide +kernel
theorem dX12_isFull_8 : decode cX12_isFull 8 = .ok (.if_icmp .ge 12, 3) := by decide +kernel
theorem dX12_isFull_11 : decode cX12_isFull 11 = .ok (.aload_n 0, 1) := by decide +kernel
theorem dX12_isFull_12 : decode cX12_isFull 12 = .ok (.invokevirtual 149, 3) := by decide +kernel
theorem dX12_isFull_15 : decode cX12_isFull 15 = .ok (.bipush 16, 2) := by decide +kernel
theorem dX12_isFull_17 : decode cX12_isFull 17 = .ok (.if_icmp .lt 7, 3) := by decide +kernel
theorem dX12_isFull_20 : decode cX12_isFull 20 = .ok (.iconst 1, 1) := by decide +kernel
theorem dX12_isFull_21 : decode cX12_isFull 21 = .ok (.goto 4, 3) := by decide +kernel
theorem dX12_isFull_24 : decode cX12_isFull 24 = .ok (.iconst 0, 1) := by decide +kernel
theorem dX12_isFull_25 : decode cX12_isFull 25 = .ok (.ireturn, 1) := by decide +kernel
theorem dX12_gather_0 : decode cX12_gather 0 = .ok (.aload_n 1, 1) := by decide +kernel
theorem dX12_gather_1 : decode cX12_gather 1 = .ok (.invokevirtual 172, 3) := by decide +kernel
theorem dX12_gather_4 : decode cX12_gather 4 = .ok (.iconst 0, 1) := by decide +kernel
theorem dX12_gather_5 : decode cX12_gather 5 = .ok (.istore_n 3, 1) := by decide +kernel
theorem dX12_gather_6 : decode cX12_gather 6 = .ok (.iload_n 3, 1) := by decide +kernel
theorem dX12_gather_7 : decode cX12_gather 7 = .ok (.iconst 5, 1) := by decide +kernel
theorem dX12_gather_8 : decode cX12_gather 8 = .ok (.if_icmp .ge 21, 3) := by decide +kernel
theorem dX12_gather_11 : decode cX12_gather 11 = .ok (.aload_n 1, 1) := by decide +kernel
theorem dX12_gather_12 : decode cX12_gather 12 = .ok (.aload_n 0, 1) := by decide +kernel
theorem dX12_gather_13 : decode cX12_gather 13 = .ok (.iload_n 3, 1) := by decide +kernel
theorem dX12_gather_14 : decode cX12_gather 14 = .ok (.aload_n 2, 1) := by decide +kernel
theorem dX12_gather_15 : decode cX12_gather 15 = .ok (.iload_n 3, 1) := by decide +kernel
theorem dX12_gather_16 : decode cX12_gather 16 = .ok (.iaload, 1) := by decide +kernel
theorem dX12_gather_17 : decode cX12_gather 17 = .ok (.invokevirtual 139, 3) := by decide +kernel
theorem dX12_gather_20 : decode cX12_gather 20 = .ok (.invokevirtual 174, 3) := by decide +kernel
theorem dX12_gather_23 : decode cX12_gather 23 = .ok (.iinc 3 1, 3) := by decide +kernel
theorem dX12_gather_26 : decode cX12_gather 26 = .ok (.goto (-20), 3) := by decide +kernel
theorem dX12_gather_29 : decode cX12_gather 29 = .ok (.aload_n 1, 1) := by decide +kernel
theorem dX12_gather_30 : decode cX12_gather 30 = .ok (.invokevirtual 178, 3) := by decide +kernel
theorem dX12_gather_33 : decode cX12_gather 33 = .ok (.return_, 1) := by decide +kernel
theorem dX12_make_0 : decode cX12_make 0 = .ok (.iload_n 1, 1) := by decide +kernel
theorem dX12_make_1 : decode cX12_make 1 = .ok (.invokestatic 181, 3) := by decide +kernel
theorem dX12_make_4 : decode cX12_make 4 = .ok (.ifCond .ne 5, 3) := by decide +kernel
theorem dX12_make_7 : decode cX12_make 7 = .ok (.iconst (-1), 1) := by decide +kernel
theorem dX12_make_8 : decode cX12_make 8 = .ok (.ireturn, 1) := by decide +kernel
theorem dX12_make_9 : decode cX12_make 9 = .ok (.aload_n 0, 1) := by decide +kernel
theorem dX12_make_10 : decode cX12_make 10 = .ok (.iload_n 1, 1) := by decide +kernel
theorem dX12_make_11 : decode cX12_make 11 = .ok (.invokevirtual 185, 3) := by decide +kernel
theorem dX12_make_14 : decode cX12_make 14 = .ok (.ifCond .eq 6, 3) := by decide +kernel
theorem dX12_make_17 : decode cX12_make 17 = .ok (.bipush (-3), 2) := by decide +kernel
theorem dX12_make_19 : decode cX12_make 19 = .ok (.ireturn, 1) := by decide +kernel
theorem dX12_make_20 : decode cX12_make 20 = .ok (.aload_n 0, 1) := by decide +kernel
theorem dX12_make_21 : decode cX12_make 21 = .ok (.getfield 120, 3) := by decide +kernel
theorem dX12_make_24 : decode cX12_make 24 = .ok (.istore_n 2, 1) := by decide +kernel
theorem dX12_make_25 : decode cX12_make 25 = .ok (.aload_n 0, 1) := by decide +kernel
theorem dX12_make_26 : decode cX12_make 26 = .ok (.iconst 0, 1) := by decide +kernel
theorem dX12_make_27 : decode cX12_make 27 = .ok (.putfield 120, 3) := by decide +kernel
theorem dX12_make_30 : decode cX12_make 30 = .ok (.aload_n 0, 1) := by decide +kernel
theorem dX12_make_31 : decode cX12_make 31 = .ok (.invokevirtual 126, 3) := by decide +kernel
theorem dX12_make_34 : decode cX12_make 34 = .ok (.astore_n 3, 1) := by decide +kernel
theorem dX12_make_35 : decode cX12_make 35 = .ok (.aload_n 0, 1) := by decide +kernel
theorem dX12_make_36 : decode cX12_make 36 = .ok (.getfield 35, 3) := by decide +kernel
theorem dX12_make_39 : decode cX12_make 39 = .ok (.aload_n 3, 1) := by decide +kernel
theorem dX12_make_40 : decode cX12_make 40 = .ok (.aload_n 0, 1) := by decide +kernel
theorem dX12_make_41 : decode cX12_make 41 = .ok (.getfield 9, 3) := by decide +kernel
theorem dX12_make_44 : decode cX12_make 44 = .ok (.iload_n 2, 1) := by decide +kernel
theorem dX12_make_45 : decode cX12_make 45 = .ok (.invokevirtual 188, 3) := by decide +kernel
theorem dX12_make_48 : decode cX12_make 48 = .ok (.ifCond .ne 22, 3) := by decide +kernel
theorem dX12_make_51 : decode cX12_make 51 = .ok (.aload_n 0, 1) := by decide +kernel
theorem dX12_make_52 : decode cX12_make 52 = .ok (.aload_n 0, 1) := by decide +kernel
theorem dX12_make_53 : decode cX12_make 53 = .ok (.getfield 35, 3) := by decide +kernel
theorem dX12_make_56 : decode cX12_make 56 = .ok (.getfield 192, 3) := by decide +kernel
theorem dX12_make_59 : decode cX12_make 59 = .ok (.aload_n 0, 1) := by decide +kernel
theorem dX12_make_60 : decode cX12_make 60 = .ok (.getfield 35, 3) := by decide +kernel
theorem dX12_make_63 : decode cX12_make 63 = .ok (.getfield 195, 3) := by decide +kernel
theorem dX12_make_66 : decode cX12_make 66 = .ok (.invokevirtual 198, 3) := by decide +kernel
theorem dX12_make_69 : decode cX12_make 69 = .ok (.ireturn, 1) := by decide +kernel
theorem dX12_make_70 : decode cX12_make 70 = .ok (.aload_n 0, 1) := by decide +kernel
theorem dX12_make_71 : decode cX12_make 71 = .ok (.getfield 71, 3) := by decide +kernel
theorem dX12_make_74 : decode cX12_make 74 = .ok (.invokevirtual 172, 3) := by decide +kernel
theorem dX12_make_77 : decode cX12_make 77 = .ok (.aload_n 0, 1) := by decide +kernel
theorem dX12_make_78 : decode cX12_make 78 = .ok (.getfield 71, 3) := by decide +kernel
theorem dX12_make_81 : decode cX12_make 81 = .ok (.aload_n 3, 1) := by decide +kernel
theorem dX12_make_82 : decode cX12_make 82 = .ok (.invokevirtual 174, 3) := by decide +kernel
theorem dX12_make_85 : decode cX12_make 85 = .ok (.iconst 0, 1) := by decide +kernel
theorem dX12_make_86 : decode cX12_make 86 = .ok (.istore 4, 2) := by decide +kernel
theorem dX12_make_88 : decode cX12_make 88 = .ok (.iload 4, 2) := by decide +kernel
theorem dX12_make_90 : decode cX12_make 90 = .ok (.iconst 5, 1) := by decide +kernel
theorem dX12_make_91 : decode cX12_make 91 = .ok (.if_icmp .ge 39, 3) := by decide +kernel
theorem dX12_make_94 : decode cX12_make 94 = .ok (.aload_n 0, 1) := by decide +kernel
theorem dX12_make_95 : decode cX12_make 95 = .ok (.getfield 71, 3) := by decide +kernel
theorem dX12_make_98 : decode cX12_make 98 = .ok (.iload 4, 2) := by decide +kernel
theorem dX12_make_100 : decode cX12_make 100 = .ok (.iload_n 1, 1) := by decide +kernel
theorem dX12_make_101 : decode cX12_make 101 = .ok (.if_icmp .ne 7, 3) := by decide +kernel
theorem dX12_make_104 : decode cX12_make 104 = .ok (.aconst_null, 1) := by decide +kernel
theorem dX12_make_105 : decode cX12_make 105 = .ok (.goto 16, 3) := by decide +kernel
theorem dX12_make_108 : decode cX12_make 108 = .ok (.aload_n 0, 1) := by decide +kernel
theorem dX12_make_109 : decode cX12_make 109 = .ok (.iload 4, 2) := by decide +kernel
theorem dX12_make_111 : decode cX12_make 111 = .ok (.aload_n 0, 1) := by decide +kernel
theorem dX12_make_112 : decode cX12_make 112 = .ok (.getfield 26, 3) := by decide +kernel
theorem dX12_make_115 : decode cX12_make 115 = .ok (.iload 4, 2) := by decide +kernel
theorem dX12_make_117 : decode cX12_make 117 = .ok (.iaload, 1) := by decide +kernel
theorem dX12_make_118 : decode cX12_make 118 = .ok (.invokevirtual 139, 3) := by decide +kernel
theorem dX12_make_121 : decode cX12_make 121 = .ok (.invokevirtual 174, 3) := by decide +kernel
theorem dX12_make_124 : decode cX12_make 124 = .ok (.iinc 4 1, 3) := by decide +kernel
theorem dX12_make_127 : decode cX12_make 127 = .ok (.goto (-39), 3) := by decide +kernel
theorem dX12_make_130 : decode cX12_make 130 = .ok (.aload_n 0, 1) := by decide +kernel
theorem dX12_make_131 : decode cX12_make 131 = .ok (.getfield 71, 3) := by decide +kernel
theorem dX12_make_134 : decode cX12_make 134 = .ok (.invokevirtual 178, 3) := by decide +kernel
theorem dX12_make_137 : decode cX12_make 137 = .ok (.aload_n 0, 1) := by decide +kernel
theorem dX12_make_138 : decode cX12_make 138 = .ok (.getfield 42, 3) := by decide +kernel
theorem dX12_make_141 : decode cX12_make 141 = .ok (.aload_n 0, 1) := by decide +kernel
theorem dX12_make_142 : decode cX12_make 142 = .ok (.getfield 71, 3) := by decide +kernel
theorem dX12_make_145 : decode cX12_make 145 = .ok (.aload_n 3, 1) := by decide +kernel
theorem dX12_make_146 : decode cX12_make 146 = .ok (.invokevirtual 201, 3) := by decide +kernel
theorem dX12_make_149 : decode cX12_make 149 = .ok (.ifCond .ne 22, 3) := by decide +kernel
theorem dX12_make_152 : decode cX12_make 152 = .ok (.aload_n 0, 1) := by decide +kernel
theorem dX12_make_153 : decode cX12_make 153 = .ok (.aload_n 0, 1) := by decide +kernel
theorem dX12_make_154 : decode cX12_make 154 = .ok (.getfield 42, 3) := by decide +kernel
theorem dX12_make_157 : decode cX12_make 157 = .ok (.getfield 204, 3) := by decide +kernel
theorem dX12_make_160 : decode cX12_make 160 = .ok (.aload_n 0, 1) := by decide +kernel
theorem dX12_make_161 : decode cX12_make 161 = .ok (.getfield 42, 3) := by decide +kernel
theorem dX12_make_164 : decode cX12_make 164 = .ok (.getfield 205, 3) := by decide +kernel
theorem dX12_make_167 : decode cX12_make 167 = .ok (.invokevirtual 198, 3) := by decide +kernel
theorem dX12_make_170 : decode cX12_make 170 = .ok (.ireturn, 1) := by decide +kernel
theorem dX12_make_171 : decode cX12_make 171 = .ok (.aload_n 0, 1) := by decide +kernel
theorem dX12_make_172 : decode cX12_make 172 = .ok (.getfield 49, 3) := by decide +kernel
theorem dX12_make_175 : decode cX12_make 175 = .ok (.aload_n 0, 1) := by decide +kernel
theorem dX12_make_176 : decode cX12_make 176 = .ok (.getfield 71, 3) := by decide +kernel
theorem dX12_make_179 : decode cX12_make 179 = .ok (.aload_n 3, 1) := by decide +kernel
theorem dX12_make_180 : decode cX12_make 180 = .ok (.aload_n 0, 1) := by decide +kernel
theorem dX12_make_181 : decode cX12_make 181 = .ok (.getfield 35, 3) := by decide +kernel
theorem dX12_make_184 : decode cX12_make 184 = .ok (.invokevirtual 206, 3) := by decide +kernel
theorem dX12_make_187 : decode cX12_make 187 = .ok (.ifCond .ne 22, 3) := by decide +kernel
theorem dX12_make_190 : decode cX12_make 190 = .ok (.aload_n 0, 1) := by decide +kernel
theorem dX12_make_191 : decode cX12_make 191 = .ok (.aload_n 0, 1) := by decide +kernel
theorem dX12_make_192 : decode cX12_make 192 = .ok (.getfield 49, 3) := by decide +kernel
theorem dX12_make_195 : decode cX12_make 195 = .ok (.getfield 209, 3) := by decide +kernel
theorem dX12_make_198 : decode cX12_make 198 = .ok (.aload_n 0, 1) := by decide +kernel
theorem dX12_make_199 : decode cX12_make 199 = .ok (.getfield 49, 3) := by decide +kernel
theorem dX12_make_202 : decode cX12_make 202 = .ok (.getfield 210, 3) := by decide +kernel
theorem dX12_make_205 : decode cX12_make 205 = .ok (.invokevirtual 198, 3) := by decide +kernel
theorem dX12_make_208 : decode cX12_make 208 = .ok (.ireturn, 1) := by decide +kernel
theorem dX12_make_209 : decode cX12_make 209 = .ok (.aload_n 0, 1) := by decide +kernel
theorem dX12_make_210 : decode cX12_make 210 = .ok (.getfield 56, 3) := by decide +kernel
theorem dX12_make_213 : decode cX12_make 213 = .ok (.aload_n 0, 1) := by decide +kernel
theorem dX12_make_214 : decode cX12_make 214 = .ok (.getfield 71, 3) := by decide +kernel
theorem dX12_make_217 : decode cX12_make 217 = .ok (.aload_n 3, 1) := by decide +kernel
theorem dX12_make_218 : decode cX12_make 218 = .ok (.invokevirtual 211, 3) := by decide +kernel
theorem dX12_make_221 : decode cX12_make 221 = .ok (.aload_n 0, 1) := by decide +kernel
theorem dX12_make_222 : decode cX12_make 222 = .ok (.getfield 35, 3) := by decide +kernel
theorem dX12_make_225 : decode cX12_make 225 = .ok (.invokevirtual 215, 3) := by decide +kernel
theorem dX12_make_228 : decode cX12_make 228 = .ok (.aload_n 0, 1) := by decide +kernel
theorem dX12_make_229 : decode cX12_make 229 = .ok (.bipush (-2), 2) := by decide +kernel
theorem dX12_make_231 : decode cX12_make 231 = .ok (.putfield 60, 3) := by decide +kernel
theorem dX12_make_234 : decode cX12_make 234 = .ok (.aload_n 0, 1) := by decide +kernel
theorem dX12_make_235 : decode cX12_make 235 = .ok (.aload_n 3, 1) := by decide +kernel
theorem dX12_make_236 : decode cX12_make 236 = .ok (.iload_n 1, 1) := by decide +kernel
theorem dX12_make_237 : decode cX12_make 237 = .ok (.invokevirtual 218, 3) := by decide +kernel
theorem dX12_make_240 : decode cX12_make 240 = .ok (.ireturn, 1) := by decide +kernel
theorem dX12_faulted_0 : decode cX12_faulted 0 = .ok (.aload_n 0, 1) := by decide +kernel
theorem dX12_faulted_1 : decode cX12_faulted 1 = .ok (.aload_n 0, 1) := by decide +kernel
theorem dX12_faulted_2 : decode cX12_faulted 2 = .ok (.getfield 35, 3) := by decide +kernel
theorem dX12_faulted_5 : decode cX12_faulted 5 = .ok (.getfield 221, 3) := by decide +kernel
theorem dX12_faulted_8 : decode cX12_faulted 8 = .ok (.iload_n 2, 1) := by decide +kernel
theorem dX12_faulted_9 : decode cX12_faulted 9 = .ok (.iaload, 1) := by decide +kernel
theorem dX12_faulted_10 : decode cX12_faulted 10 = .ok (.putfield 60, 3) := by decide +kernel
theorem dX12_faulted_13 : decode cX12_faulted 13 = .ok (.bipush (-10), 2) := by decide +kernel
theorem dX12_faulted_15 : decode cX12_faulted 15 = .ok (.iload_n 1, 1) := by decide +kernel
theorem dX12_faulted_16 : decode cX12_faulted 16 = .ok (.isub, 1) := by decide +kernel
theorem dX12_faulted_17 : decode cX12_faulted 17 = .ok (.ireturn, 1) := by decide +kernel
theorem dX12_keep_0 : decode cX12_keep 0 = .ok (.aload_n 1, 1) := by decide +kernel
theorem dX12_keep_1 : decode cX12_keep 1 = .ok (.iload_n 2, 1) := by decide +kernel
theorem dX12_keep_2 : decode cX12_keep 2 = .ok (.putfield 153, 3) := by decide +kernel
theorem dX12_keep_5 : decode cX12_keep 5 = .ok (.aload_n 1, 1) := by decide +kernel
theorem dX12_keep_6 : decode cX12_keep 6 = .ok (.aload_n 0, 1) := by decide +kernel
theorem dX12_keep_7 : decode cX12_keep 7 = .ok (.getfield 22, 3) := by decide +kernel
theorem dX12_keep_10 : decode cX12_keep 10 = .ok (.iload_n 2, 1) := by decide +kernel
theorem dX12_keep_11 : decode cX12_keep 11 = .ok (.iaload, 1) := by decide +kernel
theorem dX12_keep_12 : decode cX12_keep 12 = .ok (.putfield 156, 3) := by decide +kernel
theorem dX12_keep_15 : decode cX12_keep 15 = .ok (.aload_n 0, 1) := by decide +kernel
theorem dX12_keep_16 : decode cX12_keep 16 = .ok (.getfield 22, 3) := by decide +kernel
theorem dX12_keep_19 : decode cX12_keep 19 = .ok (.iload_n 2, 1) := by decide +kernel
theorem dX12_keep_20 : decode cX12_keep 20 = .ok (.dup2, 1) := by decide +kernel
theorem dX12_keep_21 : decode cX12_keep 21 = .ok (.iaload, 1) := by decide +kernel
theorem dX12_keep_22 : decode cX12_keep 22 = .ok (.iconst 1, 1) := by decide +kernel
theorem dX12_keep_23 : decode cX12_keep 23 = .ok (.iadd, 1) := by decide +kernel
theorem dX12_keep_24 : decode cX12_keep 24 = .ok (.iastore, 1) := by decide +kernel
theorem dX12_keep_25 : decode cX12_keep 25 = .ok (.aload_n 1, 1) := by decide +kernel
theorem dX12_keep_26 : decode cX12_keep 26 = .ok (.getfield 156, 3) := by decide +kernel
theorem dX12_keep_29 : decode cX12_keep 29 = .ok (.ireturn, 1) := by decide +kernel
theorem dX12_place_0 : decode cX12_place 0 = .ok (.aload_n 0, 1) := by decide +kernel
theorem dX12_place_1 : decode cX12_place 1 = .ok (.getfield 60, 3) := by decide +kernel
theorem dX12_place_4 : decode cX12_place 4 = .ok (.ireturn, 1) := by decide +kernel
theorem dX12_builds_0 : decode cX12_builds 0 = .ok (.iload_n 1, 1) := by decide +kernel
theorem dX12_builds_1 : decode cX12_builds 1 = .ok (.invokestatic 181, 3) := by decide +kernel
theorem dX12_builds_4 : decode cX12_builds 4 = .ok (.ifCond .eq 12, 3) := by decide +kernel
theorem dX12_builds_7 : decode cX12_builds 7 = .ok (.aload_n 0, 1) := by decide +kernel
theorem dX12_builds_8 : decode cX12_builds 8 = .ok (.getfield 22, 3) := by decide +kernel
theorem dX12_builds_11 : decode cX12_builds 11 = .ok (.iload_n 1, 1) := by decide +kernel
theorem dX12_builds_12 : decode cX12_builds 12 = .ok (.iaload, 1) := by decide +kernel
theorem dX12_builds_13 : decode cX12_builds 13 = .ok (.goto 4, 3) := by decide +kernel
theorem dX12_builds_16 : decode cX12_builds 16 = .ok (.iconst (-1), 1) := by decide +kernel
theorem dX12_builds_17 : decode cX12_builds 17 = .ok (.ireturn, 1) := by decide +kernel
theorem dX12_pick_0 : decode cX12_pick 0 = .ok (.iload_n 1, 1) := by decide +kernel
theorem dX12_pick_1 : decode cX12_pick 1 = .ok (.invokestatic 181, 3) := by decide +kernel
theorem dX12_pick_4 : decode cX12_pick 4 = .ok (.ifCond .eq 18, 3) := by decide +kernel
theorem dX12_pick_7 : decode cX12_pick 7 = .ok (.iload_n 2, 1) := by decide +kernel
theorem dX12_pick_8 : decode cX12_pick 8 = .ok (.bipush (-2), 2) := by decide +kernel
theorem dX12_pick_10 : decode cX12_pick 10 = .ok (.if_icmp .eq 14, 3) := by decide +kernel
theorem dX12_pick_13 : decode cX12_pick 13 = .ok (.aload_n 0, 1) := by decide +kernel
theorem dX12_pick_14 : decode cX12_pick 14 = .ok (.iload_n 1, 1) := by decide +kernel
theorem dX12_pick_15 : decode cX12_pick 15 = .ok (.iload_n 2, 1) := by decide +kernel
theorem dX12_pick_16 : decode cX12_pick 16 = .ok (.invokevirtual 139, 3) := by decide +kernel
theorem dX12_pick_19 : decode cX12_pick 19 = .ok (.ifnonnull 5, 3) := by decide +kernel
theorem dX12_pick_22 : decode cX12_pick 22 = .ok (.iconst (-1), 1) := by decide +kernel
theorem dX12_pick_23 : decode cX12_pick 23 = .ok (.ireturn, 1) := by decide +kernel
theorem dX12_pick_24 : decode cX12_pick 24 = .ok (.aload_n 0, 1) := by decide +kernel
theorem dX12_pick_25 : decode cX12_pick 25 = .ok (.getfield 26, 3) := by decide +kernel
theorem dX12_pick_28 : decode cX12_pick 28 = .ok (.iload_n 1, 1) := by decide +kernel
theorem dX12_pick_29 : decode cX12_pick 29 = .ok (.iaload, 1) := by decide +kernel
theorem dX12_pick_30 : decode cX12_pick 30 = .ok (.istore_n 3, 1) := by decide +kernel
theorem dX12_pick_31 : decode cX12_pick 31 = .ok (.aload_n 0, 1) := by decide +kernel
theorem dX12_pick_32 : decode cX12_pick 32 = .ok (.getfield 26, 3) := by decide +kernel
theorem dX12_pick_35 : decode cX12_pick 35 = .ok (.iload_n 1, 1) := by decide +kernel
theorem dX12_pick_36 : decode cX12_pick 36 = .ok (.iload_n 2, 1) := by decide +kernel
theorem dX12_pick_37 : decode cX12_pick 37 = .ok (.iastore, 1) := by decide +kernel
theorem dX12_pick_38 : decode cX12_pick 38 = .ok (.aload_n 0, 1) := by decide +kernel
theorem dX12_pick_39 : decode cX12_pick 39 = .ok (.invokevirtual 224, 3) := by decide +kernel
theorem dX12_pick_42 : decode cX12_pick 42 = .ok (.iload_n 3, 1) := by decide +kernel
theorem dX12_pick_43 : decode cX12_pick 43 = .ok (.ireturn, 1) := by decide +kernel
theorem dX12_renewWorld_0 : decode cX12_renewWorld 0 = .ok (.aload_n 0, 1) := by decide +kernel
theorem dX12_renewWorld_1 : decode cX12_renewWorld 1 = .ok (.aload_n 0, 1) := by decide +kernel
theorem dX12_renewWorld_2 : decode cX12_renewWorld 2 = .ok (.getfield 67, 3) := by decide +kernel
theorem dX12_renewWorld_5 : decode cX12_renewWorld 5 = .ok (.aload_n 0, 1) := by decide +kernel
theorem dX12_renewWorld_6 : decode cX12_renewWorld 6 = .ok (.getfield 26, 3) := by decide +kernel
theorem dX12_renewWorld_9 : decode cX12_renewWorld 9 = .ok (.invokevirtual 112, 3) := by decide +kernel
theorem dX12_renewWorld_12 : decode cX12_renewWorld 12 = .ok (.aload_n 0, 1) := by decide +kernel
theorem dX12_renewWorld_13 : decode cX12_renewWorld 13 = .ok (.getfield 99, 3) := by decide +kernel
theorem dX12_renewWorld_16 : decode cX12_renewWorld 16 = .ok (.aload_n 0, 1) := by decide +kernel
theorem dX12_renewWorld_17 : decode cX12_renewWorld 17 = .ok (.getfield 67, 3) := by decide +kernel
theorem dX12_renewWorld_20 : decode cX12_renewWorld 20 = .ok (.invokevirtual 116, 3) := by decide +kernel
theorem dX12_renewWorld_23 : decode cX12_renewWorld 23 = .ok (.aload_n 0, 1) := by decide +kernel
theorem dX12_renewWorld_24 : decode cX12_renewWorld 24 = .ok (.iconst 0, 1) := by decide +kernel
theorem dX12_renewWorld_25 : decode cX12_renewWorld 25 = .ok (.putfield 227, 3) := by decide +kernel
theorem dX12_renewWorld_28 : decode cX12_renewWorld 28 = .ok (.return_, 1) := by decide +kernel
theorem dX12_picked_0 : decode cX12_picked 0 = .ok (.iload_n 1, 1) := by decide +kernel
theorem dX12_picked_1 : decode cX12_picked 1 = .ok (.invokestatic 181, 3) := by decide +kernel
theorem dX12_picked_4 : decode cX12_picked 4 = .ok (.ifCond .eq 12, 3) := by decide +kernel
theorem dX12_picked_7 : decode cX12_picked 7 = .ok (.aload_n 0, 1) := by decide +kernel
theorem dX12_picked_8 : decode cX12_picked 8 = .ok (.getfield 26, 3) := by decide +kernel
theorem dX12_picked_11 : decode cX12_picked 11 = .ok (.iload_n 1, 1) := by decide +kernel
theorem dX12_picked_12 : decode cX12_picked 12 = .ok (.iaload, 1) := by decide +kernel
theorem dX12_picked_13 : decode cX12_picked 13 = .ok (.goto 4, 3) := by decide +kernel
theorem dX12_picked_16 : decode cX12_picked 16 = .ok (.iconst (-1), 1) := by decide +kernel
theorem dX12_picked_17 : decode cX12_picked 17 = .ok (.ireturn, 1) := by decide +kernel
theorem dX12_classes_0 : decode cX12_classes 0 = .ok (.aload_n 0, 1) := by decide +kernel
theorem dX12_classes_1 : decode cX12_classes 1 = .ok (.iload_n 1, 1) := by decide +kernel
theorem dX12_classes_2 : decode cX12_classes 2 = .ok (.iload_n 2, 1) := by decide +kernel
theorem dX12_classes_3 : decode cX12_classes 3 = .ok (.invokevirtual 139, 3) := by decide +kernel
theorem dX12_classes_6 : decode cX12_classes 6 = .ok (.astore_n 3, 1) := by decide +kernel
theorem dX12_classes_7 : decode cX12_classes 7 = .ok (.aload_n 3, 1) := by decide +kernel
theorem dX12_classes_8 : decode cX12_classes 8 = .ok (.ifnonnull 7, 3) := by decide +kernel
theorem dX12_classes_11 : decode cX12_classes 11 = .ok (.iconst (-1), 1) := by decide +kernel
theorem dX12_classes_12 : decode cX12_classes 12 = .ok (.goto 7, 3) := by decide +kernel
theorem dX12_classes_15 : decode cX12_classes 15 = .ok (.aload_n 3, 1) := by decide +kernel
theorem dX12_classes_16 : decode cX12_classes 16 = .ok (.getfield 165, 3) := by decide +kernel
theorem dX12_classes_19 : decode cX12_classes 19 = .ok (.ireturn, 1) := by decide +kernel
theorem dX12_members_0 : decode cX12_members 0 = .ok (.aload_n 0, 1) := by decide +kernel
theorem dX12_members_1 : decode cX12_members 1 = .ok (.iload_n 1, 1) := by decide +kernel
theorem dX12_members_2 : decode cX12_members 2 = .ok (.iload_n 2, 1) := by decide +kernel
theorem dX12_members_3 : decode cX12_members 3 = .ok (.iload_n 3, 1) := by decide +kernel
theorem dX12_members_4 : decode cX12_members 4 = .ok (.invokevirtual 230, 3) := by decide +kernel
theorem dX12_members_7 : decode cX12_members 7 = .ok (.astore 4, 2) := by decide +kernel
theorem dX12_members_9 : decode cX12_members 9 = .ok (.aload 4, 2) := by decide +kernel
theorem dX12_members_11 : decode cX12_members 11 = .ok (.ifnonnull 7, 3) := by decide +kernel
theorem dX12_members_14 : decode cX12_members 14 = .ok (.iconst (-1), 1) := by decide +kernel
theorem dX12_members_15 : decode cX12_members 15 = .ok (.goto 8, 3) := by decide +kernel
theorem dX12_members_18 : decode cX12_members 18 = .ok (.aload 4, 2) := by decide +kernel
theorem dX12_members_20 : decode cX12_members 20 = .ok (.getfield 234, 3) := by decide +kernel
theorem dX12_members_23 : decode cX12_members 23 = .ok (.ireturn, 1) := by decide +kernel
theorem dX12_shape_0 : decode cX12_shape 0 = .ok (.aload_n 0, 1) := by decide +kernel
theorem dX12_shape_1 : decode cX12_shape 1 = .ok (.iload_n 1, 1) := by decide +kernel
theorem dX12_shape_2 : decode cX12_shape 2 = .ok (.iload_n 2, 1) := by decide +kernel
theorem dX12_shape_3 : decode cX12_shape 3 = .ok (.iload_n 3, 1) := by decide +kernel
theorem dX12_shape_4 : decode cX12_shape 4 = .ok (.invokevirtual 230, 3) := by decide +kernel
theorem dX12_shape_7 : decode cX12_shape 7 = .ok (.astore 5, 2) := by decide +kernel
theorem dX12_shape_9 : decode cX12_shape 9 = .ok (.aload 5, 2) := by decide +kernel
theorem dX12_shape_11 : decode cX12_shape 11 = .ok (.ifnull 25, 3) := by decide +kernel
theorem dX12_shape_14 : decode cX12_shape 14 = .ok (.iload 4, 2) := by decide +kernel
theorem dX12_shape_16 : decode cX12_shape 16 = .ok (.bipush (-2), 2) := by decide +kernel
theorem dX12_shape_18 : decode cX12_shape 18 = .ok (.if_icmp .eq 20, 3) := by decide +kernel
theorem dX12_shape_21 : decode cX12_shape 21 = .ok (.iload 4, 2) := by decide +kernel
theorem dX12_shape_23 : decode cX12_shape 23 = .ok (.ifCond .lt 13, 3) := by decide +kernel
theorem dX12_shape_26 : decode cX12_shape 26 = .ok (.iload 4, 2) := by decide +kernel
theorem dX12_shape_28 : decode cX12_shape 28 = .ok (.aload 5, 2) := by decide +kernel
theorem dX12_shape_30 : decode cX12_shape 30 = .ok (.getfield 234, 3) := by decide +kernel
theorem dX12_shape_33 : decode cX12_shape 33 = .ok (.if_icmp .lt 5, 3) := by decide +kernel
theorem dX12_shape_36 : decode cX12_shape 36 = .ok (.iconst (-1), 1) := by decide +kernel
theorem dX12_shape_37 : decode cX12_shape 37 = .ok (.ireturn, 1) := by decide +kernel
theorem dX12_shape_38 : decode cX12_shape 38 = .ok (.aload_n 0, 1) := by decide +kernel
theorem dX12_shape_39 : decode cX12_shape 39 = .ok (.iconst 0, 1) := by decide +kernel
theorem dX12_shape_40 : decode cX12_shape 40 = .ok (.putfield 146, 3) := by decide +kernel
theorem dX12_shape_43 : decode cX12_shape 43 = .ok (.iload 4, 2) := by decide +kernel
theorem dX12_shape_45 : decode cX12_shape 45 = .ok (.bipush (-2), 2) := by decide +kernel
theorem dX12_shape_47 : decode cX12_shape 47 = .ok (.if_icmp .ne 12, 3) := by decide +kernel
theorem dX12_shape_50 : decode cX12_shape 50 = .ok (.aload_n 0, 1) := by decide +kernel
theorem dX12_shape_51 : decode cX12_shape 51 = .ok (.aload 5, 2) := by decide +kernel
theorem dX12_shape_53 : decode cX12_shape 53 = .ok (.invokevirtual 239, 3) := by decide +kernel
theorem dX12_shape_56 : decode cX12_shape 56 = .ok (.goto 15, 3) := by decide +kernel
theorem dX12_shape_59 : decode cX12_shape 59 = .ok (.aload_n 0, 1) := by decide +kernel
theorem dX12_shape_60 : decode cX12_shape 60 = .ok (.aload 5, 2) := by decide +kernel
theorem dX12_shape_62 : decode cX12_shape 62 = .ok (.getfield 243, 3) := by decide +kernel
theorem dX12_shape_65 : decode cX12_shape 65 = .ok (.iload 4, 2) := by decide +kernel
theorem dX12_shape_67 : decode cX12_shape 67 = .ok (.aaload, 1) := by decide +kernel
theorem dX12_shape_68 : decode cX12_shape 68 = .ok (.invokevirtual 247, 3) := by decide +kernel
theorem dX12_shape_71 : decode cX12_shape 71 = .ok (.aload_n 0, 1) := by decide +kernel
theorem dX12_shape_72 : decode cX12_shape 72 = .ok (.getfield 146, 3) := by decide +kernel
theorem dX12_shape_75 : decode cX12_shape 75 = .ok (.ireturn, 1) := by decide +kernel
theorem dX12_tellHead_0 : decode cX12_tellHead 0 = .ok (.aload_n 0, 1) := by decide +kernel
theorem dX12_tellHead_1 : decode cX12_tellHead 1 = .ok (.aload_n 1, 1) := by decide +kernel
theorem dX12_tellHead_2 : decode cX12_tellHead 2 = .ok (.getfield 251, 3) := by decide +kernel
theorem dX12_tellHead_5 : decode cX12_tellHead 5 = .ok (.ifCond .eq 8, 3) := by decide +kernel
theorem dX12_tellHead_8 : decode cX12_tellHead 8 = .ok (.ldc 255, 2) := by decide +kernel
theorem dX12_tellHead_10 : decode cX12_tellHead 10 = .ok (.goto 6, 3) := by decide +kernel
theorem dX12_tellHead_13 : decode cX12_tellHead 13 = .ok (.ldc_w 257, 3) := by decide +kernel
theorem dX12_tellHead_16 : decode cX12_tellHead 16 = .ok (.invokevirtual 259, 3) := by decide +kernel
theorem dX12_tellHead_19 : decode cX12_tellHead 19 = .ok (.aload_n 0, 1) := by decide +kernel
theorem dX12_tellHead_20 : decode cX12_tellHead 20 = .ok (.aload_n 1, 1) := by decide +kernel
theorem dX12_tellHead_21 : decode cX12_tellHead 21 = .ok (.getfield 263, 3) := by decide +kernel
theorem dX12_tellHead_24 : decode cX12_tellHead 24 = .ok (.ifCond .eq 9, 3) := by decide +kernel
theorem dX12_tellHead_27 : decode cX12_tellHead 27 = .ok (.ldc_w 266, 3) := by decide +kernel
theorem dX12_tellHead_30 : decode cX12_tellHead 30 = .ok (.goto 19, 3) := by decide +kernel
theorem dX12_tellHead_33 : decode cX12_tellHead 33 = .ok (.aload_n 1, 1) := by decide +kernel
theorem dX12_tellHead_34 : decode cX12_tellHead 34 = .ok (.getfield 268, 3) := by decide +kernel
theorem dX12_tellHead_37 : decode cX12_tellHead 37 = .ok (.ifCond .eq 9, 3) := by decide +kernel
theorem dX12_tellHead_40 : decode cX12_tellHead 40 = .ok (.ldc_w 271, 3) := by decide +kernel
theorem dX12_tellHead_43 : decode cX12_tellHead 43 = .ok (.goto 6, 3) := by decide +kernel
theorem dX12_tellHead_46 : decode cX12_tellHead 46 = .ok (.ldc_w 257, 3) := by decide +kernel
theorem dX12_tellHead_49 : decode cX12_tellHead 49 = .ok (.invokevirtual 259, 3) := by decide +kernel
theorem dX12_tellHead_52 : decode cX12_tellHead 52 = .ok (.aload_n 0, 1) := by decide +kernel
theorem dX12_tellHead_53 : decode cX12_tellHead 53 = .ok (.aload_n 1, 1) := by decide +kernel
theorem dX12_tellHead_54 : decode cX12_tellHead 54 = .ok (.getfield 273, 3) := by decide +kernel
theorem dX12_tellHead_57 : decode cX12_tellHead 57 = .ok (.ifCond .eq 9, 3) := by decide +kernel
theorem dX12_tellHead_60 : decode cX12_tellHead 60 = .ok (.ldc_w 276, 3) := by decide +kernel
theorem dX12_tellHead_63 : decode cX12_tellHead 63 = .ok (.goto 6, 3) := by decide +kernel
theorem dX12_tellHead_66 : decode cX12_tellHead 66 = .ok (.ldc_w 278, 3) := by decide +kernel
theorem dX12_tellHead_69 : decode cX12_tellHead 69 = .ok (.invokevirtual 259, 3) := by decide +kernel
theorem dX12_tellHead_72 : decode cX12_tellHead 72 = .ok (.aload_n 0, 1) := by decide +kernel
theorem dX12_tellHead_73 : decode cX12_tellHead 73 = .ok (.aload_n 1, 1) := by decide +kernel
theorem dX12_tellHead_74 : decode cX12_tellHead 74 = .ok (.getfield 280, 3) := by decide +kernel
theorem dX12_tellHead_77 : decode cX12_tellHead 77 = .ok (.invokevirtual 284, 3) := by decide +kernel
theorem dX12_tellHead_80 : decode cX12_tellHead 80 = .ok (.aload_n 1, 1) := by decide +kernel
theorem dX12_tellHead_81 : decode cX12_tellHead 81 = .ok (.getfield 288, 3) := by decide +kernel
theorem dX12_tellHead_84 : decode cX12_tellHead 84 = .ok (.ifCond .eq 18, 3) := by decide +kernel
theorem dX12_tellHead_87 : decode cX12_tellHead 87 = .ok (.aload_n 0, 1) := by decide +kernel
theorem dX12_tellHead_88 : decode cX12_tellHead 88 = .ok (.ldc_w 291, 3) := by decide +kernel
theorem dX12_tellHead_91 : decode cX12_tellHead 91 = .ok (.invokevirtual 259, 3) := by decide +kernel
theorem dX12_tellHead_94 : decode cX12_tellHead 94 = .ok (.aload_n 0, 1) := by decide +kernel
theorem dX12_tellHead_95 : decode cX12_tellHead 95 = .ok (.aload_n 1, 1) := by decide +kernel
theorem dX12_tellHead_96 : decode cX12_tellHead 96 = .ok (.getfield 293, 3) := by decide +kernel
theorem dX12_tellHead_99 : decode cX12_tellHead 99 = .ok (.invokevirtual 284, 3) := by decide +kernel
theorem dX12_tellHead_102 : decode cX12_tellHead 102 = .ok (.aload_n 0, 1) := by decide +kernel
theorem dX12_tellHead_103 : decode cX12_tellHead 103 = .ok (.aload_n 1, 1) := by decide +kernel
theorem dX12_tellHead_104 : decode cX12_tellHead 104 = .ok (.iconst 0, 1) := by decide +kernel
theorem dX12_tellHead_105 : decode cX12_tellHead 105 = .ok (.ldc_w 296, 3) := by decide +kernel
theorem dX12_tellHead_108 : decode cX12_tellHead 108 = .ok (.invokevirtual 298, 3) := by decide +kernel
theorem dX12_tellHead_111 : decode cX12_tellHead 111 = .ok (.aload_n 1, 1) := by decide +kernel
theorem dX12_tellHead_112 : decode cX12_tellHead 112 = .ok (.getfield 302, 3) := by decide +kernel
theorem dX12_tellHead_115 : decode cX12_tellHead 115 = .ok (.ldc2_w 305, 3) := by decide +kernel
theorem dX12_tellHead_118 : decode cX12_tellHead 118 = .ok (.lcmp, 1) := by decide +kernel
theorem dX12_tellHead_119 : decode cX12_tellHead 119 = .ok (.ifCond .eq 18, 3) := by decide +kernel
theorem dX12_tellHead_122 : decode cX12_tellHead 122 = .ok (.aload_n 0, 1) := by decide +kernel
theorem dX12_tellHead_123 : decode cX12_tellHead 123 = .ok (.ldc_w 307, 3) := by decide +kernel
theorem dX12_tellHead_126 : decode cX12_tellHead 126 = .ok (.invokevirtual 259, 3) := by decide +kernel
theorem dX12_tellHead_129 : decode cX12_tellHead 129 = .ok (.aload_n 0, 1) := by decide +kernel
theorem dX12_tellHead_130 : decode cX12_tellHead 130 = .ok (.aload_n 1, 1) := by decide +kernel
theorem dX12_tellHead_131 : decode cX12_tellHead 131 = .ok (.getfield 302, 3) := by decide +kernel
theorem dX12_tellHead_134 : decode cX12_tellHead 134 = .ok (.invokevirtual 284, 3) := by decide +kernel
theorem dX12_tellHead_137 : decode cX12_tellHead 137 = .ok (.aload_n 0, 1) := by decide +kernel
theorem dX12_tellHead_138 : decode cX12_tellHead 138 = .ok (.aload_n 1, 1) := by decide +kernel
theorem dX12_tellHead_139 : decode cX12_tellHead 139 = .ok (.iconst 1, 1) := by decide +kernel
theorem dX12_tellHead_140 : decode cX12_tellHead 140 = .ok (.ldc_w 309, 3) := by decide +kernel
theorem dX12_tellHead_143 : decode cX12_tellHead 143 = .ok (.invokevirtual 298, 3) := by decide +kernel
theorem dX12_tellHead_146 : decode cX12_tellHead 146 = .ok (.aload_n 0, 1) := by decide +kernel
theorem dX12_tellHead_147 : decode cX12_tellHead 147 = .ok (.aload_n 1, 1) := by decide +kernel
theorem dX12_tellHead_148 : decode cX12_tellHead 148 = .ok (.iconst 2, 1) := by decide +kernel
theorem dX12_tellHead_149 : decode cX12_tellHead 149 = .ok (.ldc_w 311, 3) := by decide +kernel
theorem dX12_tellHead_152 : decode cX12_tellHead 152 = .ok (.invokevirtual 298, 3) := by decide +kernel
theorem dX12_tellHead_155 : decode cX12_tellHead 155 = .ok (.return_, 1) := by decide +kernel
theorem dX12_tellList_0 : decode cX12_tellList 0 = .ok (.iconst 0, 1) := by decide +kernel
theorem dX12_tellList_1 : decode cX12_tellList 1 = .ok (.istore 4, 2) := by decide +kernel
theorem dX12_tellList_3 : decode cX12_tellList 3 = .ok (.iload 4, 2) := by decide +kernel
theorem dX12_tellList_5 : decode cX12_tellList 5 = .ok (.aload_n 1, 1) := by decide +kernel
theorem dX12_tellList_6 : decode cX12_tellList 6 = .ok (.getfield 313, 3) := by decide +kernel
theorem dX12_tellList_9 : decode cX12_tellList 9 = .ok (.iload_n 2, 1) := by decide +kernel
theorem dX12_tellList_10 : decode cX12_tellList 10 = .ok (.iaload, 1) := by decide +kernel
theorem dX12_tellList_11 : decode cX12_tellList 11 = .ok (.if_icmp .ge 36, 3) := by decide +kernel
theorem dX12_tellList_14 : decode cX12_tellList 14 = .ok (.aload_n 0, 1) := by decide +kernel
theorem dX12_tellList_15 : decode cX12_tellList 15 = .ok (.iload 4, 2) := by decide +kernel
theorem dX12_tellList_17 : decode cX12_tellList 17 = .ok (.ifCond .ne 7, 3) := by decide +kernel
theorem dX12_tellList_20 : decode cX12_tellList 20 = .ok (.aload_n 3, 1) := by decide +kernel
theorem dX12_tellList_21 : decode cX12_tellList 21 = .ok (.goto 6, 3) := by decide +kernel
theorem dX12_tellList_24 : decode cX12_tellList 24 = .ok (.ldc_w 316, 3) := by decide +kernel
theorem dX12_tellList_27 : decode cX12_tellList 27 = .ok (.invokevirtual 259, 3) := by decide +kernel
theorem dX12_tellList_30 : decode cX12_tellList 30 = .ok (.aload_n 0, 1) := by decide +kernel
theorem dX12_tellList_31 : decode cX12_tellList 31 = .ok (.aload_n 1, 1) := by decide +kernel
theorem dX12_tellList_32 : decode cX12_tellList 32 = .ok (.iload_n 2, 1) := by decide +kernel
theorem dX12_tellList_33 : decode cX12_tellList 33 = .ok (.iload 4, 2) := by decide +kernel
theorem dX12_tellList_35 : decode cX12_tellList 35 = .ok (.invokevirtual 318, 3) := by decide +kernel
theorem dX12_tellList_38 : decode cX12_tellList 38 = .ok (.invokevirtual 284, 3) := by decide +kernel
theorem dX12_tellList_41 : decode cX12_tellList 41 = .ok (.iinc 4 1, 3) := by decide +kernel
theorem dX12_tellList_44 : decode cX12_tellList 44 = .ok (.goto (-41), 3) := by decide +kernel
theorem dX12_tellList_47 : decode cX12_tellList 47 = .ok (.return_, 1) := by decide +kernel
theorem dX12_tellMember_0 : decode cX12_tellMember 0 = .ok (.aload_n 0, 1) := by decide +kernel
theorem dX12_tellMember_1 : decode cX12_tellMember 1 = .ok (.aload_n 1, 1) := by decide +kernel
theorem dX12_tellMember_2 : decode cX12_tellMember 2 = .ok (.getfield 322, 3) := by decide +kernel
theorem dX12_tellMember_5 : decode cX12_tellMember 5 = .ok (.ifCond .eq 9, 3) := by decide +kernel
theorem dX12_tellMember_8 : decode cX12_tellMember 8 = .ok (.ldc_w 327, 3) := by decide +kernel
theorem dX12_tellMember_11 : decode cX12_tellMember 11 = .ok (.goto 6, 3) := by decide +kernel
theorem dX12_tellMember_14 : decode cX12_tellMember 14 = .ok (.ldc_w 257, 3) := by decide +kernel
theorem dX12_tellMember_17 : decode cX12_tellMember 17 = .ok (.invokevirtual 259, 3) := by decide +kernel
theorem dX12_tellMember_20 : decode cX12_tellMember 20 = .ok (.aload_n 0, 1) := by decide +kernel
theorem dX12_tellMember_21 : decode cX12_tellMember 21 = .ok (.aload_n 1, 1) := by decide +kernel
theorem dX12_tellMember_22 : decode cX12_tellMember 22 = .ok (.getfield 329, 3) := by decide +kernel
theorem dX12_tellMember_25 : decode cX12_tellMember 25 = .ok (.iconst 3, 1) := by decide +kernel
theorem dX12_tellMember_26 : decode cX12_tellMember 26 = .ok (.if_icmp .ne 8, 3) := by decide +kernel
theorem dX12_tellMember_29 : decode cX12_tellMember 29 = .ok (.ldc 255, 2) := by decide +kernel
theorem dX12_tellMember_31 : decode cX12_tellMember 31 = .ok (.goto 33, 3) := by decide +kernel
theorem dX12_tellMember_34 : decode cX12_tellMember 34 = .ok (.aload_n 1, 1) := by decide +kernel
theorem dX12_tellMember_35 : decode cX12_tellMember 35 = .ok (.getfield 329, 3) := by decide +kernel
theorem dX12_tellMember_38 : decode cX12_tellMember 38 = .ok (.iconst 2, 1) := by decide +kernel
theorem dX12_tellMember_39 : decode cX12_tellMember 39 = .ok (.if_icmp .ne 9, 3) := by decide +kernel
theorem dX12_tellMember_42 : decode cX12_tellMember 42 = .ok (.ldc_w 332, 3) := by decide +kernel
theorem dX12_tellMember_45 : decode cX12_tellMember 45 = .ok (.goto 19, 3) := by decide +kernel
theorem dX12_tellMember_48 : decode cX12_tellMember 48 = .ok (.aload_n 1, 1) := by decide +kernel
theorem dX12_tellMember_49 : decode cX12_tellMember 49 = .ok (.getfield 329, 3) := by decide +kernel
theorem dX12_tellMember_52 : decode cX12_tellMember 52 = .ok (.ifCond .ne 9, 3) := by decide +kernel
theorem dX12_tellMember_55 : decode cX12_tellMember 55 = .ok (.ldc_w 334, 3) := by decide +kernel
theorem dX12_tellMember_58 : decode cX12_tellMember 58 = .ok (.goto 6, 3) := by decide +kernel
theorem dX12_tellMember_61 : decode cX12_tellMember 61 = .ok (.ldc_w 257, 3) := by decide +kernel
theorem dX12_tellMember_64 : decode cX12_tellMember 64 = .ok (.invokevirtual 259, 3) := by decide +kernel
theorem dX12_tellMember_67 : decode cX12_tellMember 67 = .ok (.aload_n 0, 1) := by decide +kernel
theorem dX12_tellMember_68 : decode cX12_tellMember 68 = .ok (.aload_n 1, 1) := by decide +kernel
theorem dX12_tellMember_69 : decode cX12_tellMember 69 = .ok (.getfield 336, 3) := by decide +kernel
theorem dX12_tellMember_72 : decode cX12_tellMember 72 = .ok (.ifCond .eq 9, 3) := by decide +kernel
theorem dX12_tellMember_75 : decode cX12_tellMember 75 = .ok (.ldc_w 339, 3) := by decide +kernel
theorem dX12_tellMember_78 : decode cX12_tellMember 78 = .ok (.goto 6, 3) := by decide +kernel
theorem dX12_tellMember_81 : decode cX12_tellMember 81 = .ok (.ldc_w 257, 3) := by decide +kernel
theorem dX12_tellMember_84 : decode cX12_tellMember 84 = .ok (.invokevirtual 259, 3) := by decide +kernel
theorem dX12_tellMember_87 : decode cX12_tellMember 87 = .ok (.aload_n 0, 1) := by decide +kernel
theorem dX12_tellMember_88 : decode cX12_tellMember 88 = .ok (.aload_n 1, 1) := by decide +kernel
theorem dX12_tellMember_89 : decode cX12_tellMember 89 = .ok (.getfield 341, 3) := by decide +kernel
theorem dX12_tellMember_92 : decode cX12_tellMember 92 = .ok (.ifCond .eq 9, 3) := by decide +kernel
theorem dX12_tellMember_95 : decode cX12_tellMember 95 = .ok (.ldc_w 266, 3) := by decide +kernel
theorem dX12_tellMember_98 : decode cX12_tellMember 98 = .ok (.goto 19, 3) := by decide +kernel
theorem dX12_tellMember_101 : decode cX12_tellMember 101 = .ok (.aload_n 1, 1) := by decide +kernel
theorem dX12_tellMember_102 : decode cX12_tellMember 102 = .ok (.getfield 342, 3) := by decide +kernel
theorem dX12_tellMember_105 : decode cX12_tellMember 105 = .ok (.ifCond .eq 9, 3) := by decide +kernel
theorem dX12_tellMember_108 : decode cX12_tellMember 108 = .ok (.ldc_w 271, 3) := by decide +kernel
theorem dX12_tellMember_111 : decode cX12_tellMember 111 = .ok (.goto 6, 3) := by decide +kernel
theorem dX12_tellMember_114 : decode cX12_tellMember 114 = .ok (.ldc_w 257, 3) := by decide +kernel
theorem dX12_tellMember_117 : decode cX12_tellMember 117 = .ok (.invokevirtual 259, 3) := by decide +kernel
theorem dX12_tellMember_120 : decode cX12_tellMember 120 = .ok (.aload_n 1, 1) := by decide +kernel
theorem dX12_tellMember_121 : decode cX12_tellMember 121 = .ok (.getfield 343, 3) := by decide +kernel
theorem dX12_tellMember_124 : decode cX12_tellMember 124 = .ok (.iconst 2, 1) := by decide +kernel
theorem dX12_tellMember_125 : decode cX12_tellMember 125 = .ok (.if_icmp .ne 16, 3) := by decide +kernel
theorem dX12_tellMember_128 : decode cX12_tellMember 128 = .ok (.aload_n 0, 1) := by decide +kernel
theorem dX12_tellMember_129 : decode cX12_tellMember 129 = .ok (.ldc_w 346, 3) := by decide +kernel
theorem dX12_tellMember_132 : decode cX12_tellMember 132 = .ok (.invokevirtual 259, 3) := by decide +kernel
theorem dX12_tellMember_135 : decode cX12_tellMember 135 = .ok (.aload_n 0, 1) := by decide +kernel
theorem dX12_tellMember_136 : decode cX12_tellMember 136 = .ok (.aload_n 1, 1) := by decide +kernel
theorem dX12_tellMember_137 : decode cX12_tellMember 137 = .ok (.invokevirtual 348, 3) := by decide +kernel
theorem dX12_tellMember_140 : decode cX12_tellMember 140 = .ok (.return_, 1) := by decide +kernel
theorem dX12_tellMember_141 : decode cX12_tellMember 141 = .ok (.aload_n 0, 1) := by decide +kernel
theorem dX12_tellMember_142 : decode cX12_tellMember 142 = .ok (.aload_n 1, 1) := by decide +kernel
theorem dX12_tellMember_143 : decode cX12_tellMember 143 = .ok (.getfield 351, 3) := by decide +kernel
theorem dX12_tellMember_146 : decode cX12_tellMember 146 = .ok (.invokevirtual 284, 3) := by decide +kernel
theorem dX12_tellMember_149 : decode cX12_tellMember 149 = .ok (.aload_n 0, 1) := by decide +kernel
theorem dX12_tellMember_150 : decode cX12_tellMember 150 = .ok (.ldc_w 354, 3) := by decide +kernel
theorem dX12_tellMember_153 : decode cX12_tellMember 153 = .ok (.invokevirtual 259, 3) := by decide +kernel
theorem dX12_tellMember_156 : decode cX12_tellMember 156 = .ok (.aload_n 0, 1) := by decide +kernel
theorem dX12_tellMember_157 : decode cX12_tellMember 157 = .ok (.aload_n 1, 1) := by decide +kernel
theorem dX12_tellMember_158 : decode cX12_tellMember 158 = .ok (.getfield 356, 3) := by decide +kernel
theorem dX12_tellMember_161 : decode cX12_tellMember 161 = .ok (.invokevirtual 357, 3) := by decide +kernel
theorem dX12_tellMember_164 : decode cX12_tellMember 164 = .ok (.aload_n 1, 1) := by decide +kernel
theorem dX12_tellMember_165 : decode cX12_tellMember 165 = .ok (.getfield 343, 3) := by decide +kernel
theorem dX12_tellMember_168 : decode cX12_tellMember 168 = .ok (.iconst 1, 1) := by decide +kernel
theorem dX12_tellMember_169 : decode cX12_tellMember 169 = .ok (.if_icmp .ne 11, 3) := by decide +kernel
theorem dX12_tellMember_172 : decode cX12_tellMember 172 = .ok (.aload_n 0, 1) := by decide +kernel
theorem dX12_tellMember_173 : decode cX12_tellMember 173 = .ok (.aload_n 1, 1) := by decide +kernel
theorem dX12_tellMember_174 : decode cX12_tellMember 174 = .ok (.invokevirtual 348, 3) := by decide +kernel
theorem dX12_tellMember_177 : decode cX12_tellMember 177 = .ok (.goto 26, 3) := by decide +kernel
theorem dX12_tellMember_180 : decode cX12_tellMember 180 = .ok (.aload_n 1, 1) := by decide +kernel
theorem dX12_tellMember_181 : decode cX12_tellMember 181 = .ok (.getfield 360, 3) := by decide +kernel
theorem dX12_tellMember_184 : decode cX12_tellMember 184 = .ok (.ifCond .eq 19, 3) := by decide +kernel
theorem dX12_tellMember_187 : decode cX12_tellMember 187 = .ok (.aload_n 0, 1) := by decide +kernel
theorem dX12_tellMember_188 : decode cX12_tellMember 188 = .ok (.ldc_w 363, 3) := by decide +kernel
theorem dX12_tellMember_191 : decode cX12_tellMember 191 = .ok (.invokevirtual 259, 3) := by decide +kernel
theorem dX12_tellMember_194 : decode cX12_tellMember 194 = .ok (.aload_n 0, 1) := by decide +kernel
theorem dX12_tellMember_195 : decode cX12_tellMember 195 = .ok (.aload_n 1, 1) := by decide +kernel
theorem dX12_tellMember_196 : decode cX12_tellMember 196 = .ok (.getfield 365, 3) := by decide +kernel
theorem dX12_tellMember_199 : decode cX12_tellMember 199 = .ok (.i2l, 1) := by decide +kernel
theorem dX12_tellMember_200 : decode cX12_tellMember 200 = .ok (.invokevirtual 368, 3) := by decide +kernel
theorem dX12_tellMember_203 : decode cX12_tellMember 203 = .ok (.return_, 1) := by decide +kernel
theorem dX12_tellByte_0 : decode cX12_tellByte 0 = .ok (.aload_n 0, 1) := by decide +kernel
theorem dX12_tellByte_1 : decode cX12_tellByte 1 = .ok (.getfield 146, 3) := by decide +kernel
theorem dX12_tellByte_4 : decode cX12_tellByte 4 = .ok (.sipush 600, 3) := by decide +kernel
theorem dX12_tellByte_7 : decode cX12_tellByte 7 = .ok (.if_icmp .ge 24, 3) := by decide +kernel
theorem dX12_tellByte_10 : decode cX12_tellByte 10 = .ok (.aload_n 0, 1) := by decide +kernel
theorem dX12_tellByte_11 : decode cX12_tellByte 11 = .ok (.getfield 13, 3) := by decide +kernel
theorem dX12_tellByte_14 : decode cX12_tellByte 14 = .ok (.aload_n 0, 1) := by decide +kernel
theorem dX12_tellByte_15 : decode cX12_tellByte 15 = .ok (.getfield 146, 3) := by decide +kernel
theorem dX12_tellByte_18 : decode cX12_tellByte 18 = .ok (.iload_n 1, 1) := by decide +kernel
theorem dX12_tellByte_19 : decode cX12_tellByte 19 = .ok (.i2b, 1) := by decide +kernel
theorem dX12_tellByte_20 : decode cX12_tellByte 20 = .ok (.bastore, 1) := by decide +kernel
theorem dX12_tellByte_21 : decode cX12_tellByte 21 = .ok (.aload_n 0, 1) := by decide +kernel
theorem dX12_tellByte_22 : decode cX12_tellByte 22 = .ok (.dup, 1) := by decide +kernel
theorem dX12_tellByte_23 : decode cX12_tellByte 23 = .ok (.getfield 146, 3) := by decide +kernel
theorem dX12_tellByte_26 : decode cX12_tellByte 26 = .ok (.iconst 1, 1) := by decide +kernel
theorem dX12_tellByte_27 : decode cX12_tellByte 27 = .ok (.iadd, 1) := by decide +kernel
theorem dX12_tellByte_28 : decode cX12_tellByte 28 = .ok (.putfield 146, 3) := by decide +kernel
theorem dX12_tellByte_31 : decode cX12_tellByte 31 = .ok (.return_, 1) := by decide +kernel
theorem dX12_tellText_0 : decode cX12_tellText 0 = .ok (.iconst 0, 1) := by decide +kernel
theorem dX12_tellText_1 : decode cX12_tellText 1 = .ok (.istore_n 2, 1) := by decide +kernel
theorem dX12_tellText_2 : decode cX12_tellText 2 = .ok (.iload_n 2, 1) := by decide +kernel
theorem dX12_tellText_3 : decode cX12_tellText 3 = .ok (.aload_n 1, 1) := by decide +kernel
theorem dX12_tellText_4 : decode cX12_tellText 4 = .ok (.invokevirtual 371, 3) := by decide +kernel
theorem dX12_tellText_7 : decode cX12_tellText 7 = .ok (.if_icmp .ge 18, 3) := by decide +kernel
theorem dX12_tellText_10 : decode cX12_tellText 10 = .ok (.aload_n 0, 1) := by decide +kernel
theorem dX12_tellText_11 : decode cX12_tellText 11 = .ok (.aload_n 1, 1) := by decide +kernel
theorem dX12_tellText_12 : decode cX12_tellText 12 = .ok (.iload_n 2, 1) := by decide +kernel
theorem dX12_tellText_13 : decode cX12_tellText 13 = .ok (.invokevirtual 375, 3) := by decide +kernel
theorem dX12_tellText_16 : decode cX12_tellText 16 = .ok (.invokevirtual 379, 3) := by decide +kernel
theorem dX12_tellText_19 : decode cX12_tellText 19 = .ok (.iinc 2 1, 3) := by decide +kernel
theorem dX12_tellText_22 : decode cX12_tellText 22 = .ok (.goto (-20), 3) := by decide +kernel
theorem dX12_tellText_25 : decode cX12_tellText 25 = .ok (.return_, 1) := by decide +kernel
theorem dX12_tellNumber_0 : decode cX12_tellNumber 0 = .ok (.lload_n 1, 1) := by decide +kernel
theorem dX12_tellNumber_1 : decode cX12_tellNumber 1 = .ok (.lconst 0, 1) := by decide +kernel
theorem dX12_tellNumber_2 : decode cX12_tellNumber 2 = .ok (.lcmp, 1) := by decide +kernel
theorem dX12_tellNumber_3 : decode cX12_tellNumber 3 = .ok (.ifCond .ge 8, 3) := by decide +kernel
theorem dX12_tellNumber_6 : decode cX12_tellNumber 6 = .ok (.lload_n 1, 1) := by decide +kernel
theorem dX12_tellNumber_7 : decode cX12_tellNumber 7 = .ok (.lneg, 1) := by decide +kernel
theorem dX12_tellNumber_8 : decode cX12_tellNumber 8 = .ok (.goto 4, 3) := by decide +kernel
theorem dX12_tellNumber_11 : decode cX12_tellNumber 11 = .ok (.lload_n 1, 1) := by decide +kernel
theorem dX12_tellNumber_12 : decode cX12_tellNumber 12 = .ok (.lstore_n 3, 1) := by decide +kernel
theorem dX12_tellNumber_13 : decode cX12_tellNumber 13 = .ok (.lconst 1, 1) := by decide +kernel
theorem dX12_tellNumber_14 : decode cX12_tellNumber 14 = .ok (.lstore 5, 2) := by decide +kernel
theorem dX12_tellNumber_16 : decode cX12_tellNumber 16 = .ok (.iconst 0, 1) := by decide +kernel
theorem dX12_tellNumber_17 : decode cX12_tellNumber 17 = .ok (.istore 7, 2) := by decide +kernel
theorem dX12_tellNumber_19 : decode cX12_tellNumber 19 = .ok (.iload 7, 2) := by decide +kernel
theorem dX12_tellNumber_21 : decode cX12_tellNumber 21 = .ok (.bipush 18, 2) := by decide +kernel
theorem dX12_tellNumber_23 : decode cX12_tellNumber 23 = .ok (.if_icmp .ge 28, 3) := by decide +kernel
theorem dX12_tellNumber_26 : decode cX12_tellNumber 26 = .ok (.lload 5, 2) := by decide +kernel
theorem dX12_tellNumber_28 : decode cX12_tellNumber 28 = .ok (.lload_n 3, 1) := by decide +kernel
theorem dX12_tellNumber_29 : decode cX12_tellNumber 29 = .ok (.ldc2_w 382, 3) := by decide +kernel
theorem dX12_tellNumber_32 : decode cX12_tellNumber 32 = .ok (.ldiv, 1) := by decide +kernel
theorem dX12_tellNumber_33 : decode cX12_tellNumber 33 = .ok (.lcmp, 1) := by decide +kernel
theorem dX12_tellNumber_34 : decode cX12_tellNumber 34 = .ok (.ifCond .gt 17, 3) := by decide +kernel
theorem dX12_tellNumber_37 : decode cX12_tellNumber 37 = .ok (.lload 5, 2) := by decide +kernel
theorem dX12_tellNumber_39 : decode cX12_tellNumber 39 = .ok (.ldc2_w 382, 3) := by decide +kernel
theorem dX12_tellNumber_42 : decode cX12_tellNumber 42 = .ok (.lmul, 1) := by decide +kernel
theorem dX12_tellNumber_43 : decode cX12_tellNumber 43 = .ok (.lstore 5, 2) := by decide +kernel
theorem dX12_tellNumber_45 : decode cX12_tellNumber 45 = .ok (.iinc 7 1, 3) := by decide +kernel
theorem dX12_tellNumber_48 : decode cX12_tellNumber 48 = .ok (.goto (-29), 3) := by decide +kernel
theorem dX12_tellNumber_51 : decode cX12_tellNumber 51 = .ok (.lload_n 1, 1) := by decide +kernel
theorem dX12_tellNumber_52 : decode cX12_tellNumber 52 = .ok (.lconst 0, 1) := by decide +kernel
theorem dX12_tellNumber_53 : decode cX12_tellNumber 53 = .ok (.lcmp, 1) := by decide +kernel
theorem dX12_tellNumber_54 : decode cX12_tellNumber 54 = .ok (.ifCond .ge 9, 3) := by decide +kernel
theorem dX12_tellNumber_57 : decode cX12_tellNumber 57 = .ok (.aload_n 0, 1) := by decide +kernel
theorem dX12_tellNumber_58 : decode cX12_tellNumber 58 = .ok (.bipush 45, 2) := by decide +kernel
theorem dX12_tellNumber_60 : decode cX12_tellNumber 60 = .ok (.invokevirtual 379, 3) := by decide +kernel
theorem dX12_tellNumber_63 : decode cX12_tellNumber 63 = .ok (.iconst 0, 1) := by decide +kernel
theorem dX12_tellNumber_64 : decode cX12_tellNumber 64 = .ok (.istore 7, 2) := by decide +kernel
theorem dX12_tellNumber_66 : decode cX12_tellNumber 66 = .ok (.iload 7, 2) := by decide +kernel
theorem dX12_tellNumber_68 : decode cX12_tellNumber 68 = .ok (.bipush 19, 2) := by decide +kernel
theorem dX12_tellNumber_70 : decode cX12_tellNumber 70 = .ok (.if_icmp .ge 40, 3) := by decide +kernel
theorem dX12_tellNumber_73 : decode cX12_tellNumber 73 = .ok (.lload 5, 2) := by decide +kernel
theorem dX12_tellNumber_75 : decode cX12_tellNumber 75 = .ok (.lconst 0, 1) := by decide +kernel
theorem dX12_tellNumber_76 : decode cX12_tellNumber 76 = .ok (.lcmp, 1) := by decide +kernel
theorem dX12_tellNumber_77 : decode cX12_tellNumber 77 = .ok (.ifCond .le 33, 3) := by decide +kernel
theorem dX12_tellNumber_80 : decode cX12_tellNumber 80 = .ok (.aload_n 0, 1) := by decide +kernel
theorem dX12_tellNumber_81 : decode cX12_tellNumber 81 = .ok (.bipush 48, 2) := by decide +kernel
theorem dX12_tellNumber_83 : decode cX12_tellNumber 83 = .ok (.lload_n 3, 1) := by decide +kernel
theorem dX12_tellNumber_84 : decode cX12_tellNumber 84 = .ok (.lload 5, 2) := by decide +kernel
theorem dX12_tellNumber_86 : decode cX12_tellNumber 86 = .ok (.ldiv, 1) := by decide +kernel
theorem dX12_tellNumber_87 : decode cX12_tellNumber 87 = .ok (.ldc2_w 382, 3) := by decide +kernel
theorem dX12_tellNumber_90 : decode cX12_tellNumber 90 = .ok (.lrem, 1) := by decide +kernel
theorem dX12_tellNumber_91 : decode cX12_tellNumber 91 = .ok (.l2i, 1) := by decide +kernel
theorem dX12_tellNumber_92 : decode cX12_tellNumber 92 = .ok (.iadd, 1) := by decide +kernel
theorem dX12_tellNumber_93 : decode cX12_tellNumber 93 = .ok (.invokevirtual 379, 3) := by decide +kernel
theorem dX12_tellNumber_96 : decode cX12_tellNumber 96 = .ok (.lload 5, 2) := by decide +kernel
theorem dX12_tellNumber_98 : decode cX12_tellNumber 98 = .ok (.ldc2_w 382, 3) := by decide +kernel
theorem dX12_tellNumber_101 : decode cX12_tellNumber 101 = .ok (.ldiv, 1) := by decide +kernel
theorem dX12_tellNumber_102 : decode cX12_tellNumber 102 = .ok (.lstore 5, 2) := by decide +kernel
theorem dX12_tellNumber_104 : decode cX12_tellNumber 104 = .ok (.iinc 7 1, 3) := by decide +kernel
theorem dX12_tellNumber_107 : decode cX12_tellNumber 107 = .ok (.goto (-41), 3) := by decide +kernel
theorem dX12_tellNumber_110 : decode cX12_tellNumber 110 = .ok (.return_, 1) := by decide +kernel
theorem dX12_tellType_0 : decode cX12_tellType 0 = .ok (.lload_n 1, 1) := by decide +kernel
theorem dX12_tellType_1 : decode cX12_tellType 1 = .ok (.ldc2_w 384, 3) := by decide +kernel
theorem dX12_tellType_4 : decode cX12_tellType 4 = .ok (.lcmp, 1) := by decide +kernel
theorem dX12_tellType_5 : decode cX12_tellType 5 = .ok (.ifCond .eq 11, 3) := by decide +kernel
theorem dX12_tellType_8 : decode cX12_tellType 8 = .ok (.lload_n 1, 1) := by decide +kernel
theorem dX12_tellType_9 : decode cX12_tellType 9 = .ok (.ldc2_w 386, 3) := by decide +kernel
theorem dX12_tellType_12 : decode cX12_tellType 12 = .ok (.lcmp, 1) := by decide +kernel
theorem dX12_tellType_13 : decode cX12_tellType 13 = .ok (.ifCond .ne 25, 3) := by decide +kernel
theorem dX12_tellType_16 : decode cX12_tellType 16 = .ok (.aload_n 0, 1) := by decide +kernel
theorem dX12_tellType_17 : decode cX12_tellType 17 = .ok (.lload_n 1, 1) := by decide +kernel
theorem dX12_tellType_18 : decode cX12_tellType 18 = .ok (.ldc2_w 384, 3) := by decide +kernel
theorem dX12_tellType_21 : decode cX12_tellType 21 = .ok (.lcmp, 1) := by decide +kernel
theorem dX12_tellType_22 : decode cX12_tellType 22 = .ok (.ifCond .ne 9, 3) := by decide +kernel
theorem dX12_tellType_25 : decode cX12_tellType 25 = .ok (.ldc_w 388, 3) := by decide +kernel
theorem dX12_tellType_28 : decode cX12_tellType 28 = .ok (.goto 6, 3) := by decide +kernel
theorem dX12_tellType_31 : decode cX12_tellType 31 = .ok (.ldc_w 390, 3) := by decide +kernel
theorem dX12_tellType_34 : decode cX12_tellType 34 = .ok (.invokevirtual 259, 3) := by decide +kernel
theorem dX12_tellType_37 : decode cX12_tellType 37 = .ok (.return_, 1) := by decide +kernel
theorem dX12_tellType_38 : decode cX12_tellType 38 = .ok (.aload_n 0, 1) := by decide +kernel
theorem dX12_tellType_39 : decode cX12_tellType 39 = .ok (.bipush 97, 2) := by decide +kernel
theorem dX12_tellType_41 : decode cX12_tellType 41 = .ok (.lload_n 1, 1) := by decide +kernel
theorem dX12_tellType_42 : decode cX12_tellType 42 = .ok (.bipush 59, 2) := by decide +kernel
theorem dX12_tellType_44 : decode cX12_tellType 44 = .ok (.lushr, 1) := by decide +kernel
theorem dX12_tellType_45 : decode cX12_tellType 45 = .ok (.l2i, 1) := by decide +kernel
theorem dX12_tellType_46 : decode cX12_tellType 46 = .ok (.iadd, 1) := by decide +kernel
theorem dX12_tellType_47 : decode cX12_tellType 47 = .ok (.invokevirtual 379, 3) := by decide +kernel
theorem dX12_tellType_50 : decode cX12_tellType 50 = .ok (.aload_n 0, 1) := by decide +kernel
theorem dX12_tellType_51 : decode cX12_tellType 51 = .ok (.bipush 46, 2) := by decide +kernel
theorem dX12_tellType_53 : decode cX12_tellType 53 = .ok (.invokevirtual 379, 3) := by decide +kernel
theorem dX12_tellType_56 : decode cX12_tellType 56 = .ok (.aload_n 0, 1) := by decide +kernel
theorem dX12_tellType_57 : decode cX12_tellType 57 = .ok (.bipush 65, 2) := by decide +kernel
theorem dX12_tellType_59 : decode cX12_tellType 59 = .ok (.lload_n 1, 1) := by decide +kernel
theorem dX12_tellType_60 : decode cX12_tellType 60 = .ok (.bipush 54, 2) := by decide +kernel
theorem dX12_tellType_62 : decode cX12_tellType 62 = .ok (.lushr, 1) := by decide +kernel
theorem dX12_tellType_63 : decode cX12_tellType 63 = .ok (.ldc2_w 392, 3) := by decide +kernel
theorem dX12_tellType_66 : decode cX12_tellType 66 = .ok (.land, 1) := by decide +kernel
theorem dX12_tellType_67 : decode cX12_tellType 67 = .ok (.l2i, 1) := by decide +kernel
theorem dX12_tellType_68 : decode cX12_tellType 68 = .ok (.iadd, 1) := by decide +kernel
theorem dX12_tellType_69 : decode cX12_tellType 69 = .ok (.invokevirtual 379, 3) := by decide +kernel
theorem dX12_tellType_72 : decode cX12_tellType 72 = .ok (.aload_n 0, 1) := by decide +kernel
theorem dX12_tellType_73 : decode cX12_tellType 73 = .ok (.lload_n 1, 1) := by decide +kernel
theorem dX12_tellType_74 : decode cX12_tellType 74 = .ok (.invokevirtual 394, 3) := by decide +kernel
theorem dX12_tellType_77 : decode cX12_tellType 77 = .ok (.return_, 1) := by decide +kernel
theorem dX12_tellName_0 : decode cX12_tellName 0 = .ok (.aload_n 0, 1) := by decide +kernel
theorem dX12_tellName_1 : decode cX12_tellName 1 = .ok (.bipush 97, 2) := by decide +kernel
theorem dX12_tellName_3 : decode cX12_tellName 3 = .ok (.lload_n 1, 1) := by decide +kernel
theorem dX12_tellName_4 : decode cX12_tellName 4 = .ok (.bipush 54, 2) := by decide +kernel
theorem dX12_tellName_6 : decode cX12_tellName 6 = .ok (.lushr, 1) := by decide +kernel
theorem dX12_tellName_7 : decode cX12_tellName 7 = .ok (.ldc2_w 392, 3) := by decide +kernel
theorem dX12_tellName_10 : decode cX12_tellName 10 = .ok (.land, 1) := by decide +kernel
theorem dX12_tellName_11 : decode cX12_tellName 11 = .ok (.l2i, 1) := by decide +kernel
theorem dX12_tellName_12 : decode cX12_tellName 12 = .ok (.iadd, 1) := by decide +kernel
theorem dX12_tellName_13 : decode cX12_tellName 13 = .ok (.invokevirtual 379, 3) := by decide +kernel
theorem dX12_tellName_16 : decode cX12_tellName 16 = .ok (.aload_n 0, 1) := by decide +kernel
theorem dX12_tellName_17 : decode cX12_tellName 17 = .ok (.lload_n 1, 1) := by decide +kernel
theorem dX12_tellName_18 : decode cX12_tellName 18 = .ok (.invokevirtual 394, 3) := by decide +kernel
theorem dX12_tellName_21 : decode cX12_tellName 21 = .ok (.return_, 1) := by decide +kernel
theorem dX12_tellLetters_0 : decode cX12_tellLetters 0 = .ok (.bipush 48, 2) := by decide +kernel
theorem dX12_tellLetters_2 : decode cX12_tellLetters 2 = .ok (.istore_n 3, 1) := by decide +kernel
theorem dX12_tellLetters_3 : decode cX12_tellLetters 3 = .ok (.iload_n 3, 1) := by decide +kernel
theorem dX12_tellLetters_4 : decode cX12_tellLetters 4 = .ok (.ifCond .lt 71, 3) := by decide +kernel
theorem dX12_tellLetters_7 : decode cX12_tellLetters 7 = .ok (.lload_n 1, 1) := by decide +kernel
theorem dX12_tellLetters_8 : decode cX12_tellLetters 8 = .ok (.iload_n 3, 1) := by decide +kernel
theorem dX12_tellLetters_9 : decode cX12_tellLetters 9 = .ok (.lushr, 1) := by decide +kernel
theorem dX12_tellLetters_10 : decode cX12_tellLetters 10 = .ok (.ldc2_w 397, 3) := by decide +kernel
theorem dX12_tellLetters_13 : decode cX12_tellLetters 13 = .ok (.land, 1) := by decide +kernel
theorem dX12_tellLetters_14 : decode cX12_tellLetters 14 = .ok (.l2i, 1) := by decide +kernel
theorem dX12_tellLetters_15 : decode cX12_tellLetters 15 = .ok (.istore 4, 2) := by decide +kernel
theorem dX12_tellLetters_17 : decode cX12_tellLetters 17 = .ok (.iload 4, 2) := by decide +kernel
theorem dX12_tellLetters_19 : decode cX12_tellLetters 19 = .ok (.ifCond .le 50, 3) := by decide +kernel
theorem dX12_tellLetters_22 : decode cX12_tellLetters 22 = .ok (.aload_n 0, 1) := by decide +kernel
theorem dX12_tellLetters_23 : decode cX12_tellLetters 23 = .ok (.iload 4, 2) := by decide +kernel
theorem dX12_tellLetters_25 : decode cX12_tellLetters 25 = .ok (.bipush 26, 2) := by decide +kernel
theorem dX12_tellLetters_27 : decode cX12_tellLetters 27 = .ok (.if_icmp .gt 13, 3) := by decide +kernel
theorem dX12_tellLetters_30 : decode cX12_tellLetters 30 = .ok (.bipush 97, 2) := by decide +kernel
theorem dX12_tellLetters_32 : decode cX12_tellLetters 32 = .ok (.iload 4, 2) := by decide +kernel
theorem dX12_tellLetters_34 : decode cX12_tellLetters 34 = .ok (.iadd, 1) := by decide +kernel
theorem dX12_tellLetters_35 : decode cX12_tellLetters 35 = .ok (.iconst 1, 1) := by decide +kernel
theorem dX12_tellLetters_36 : decode cX12_tellLetters 36 = .ok (.isub, 1) := by decide +kernel
theorem dX12_tellLetters_37 : decode cX12_tellLetters 37 = .ok (.goto 29, 3) := by decide +kernel
theorem dX12_tellLetters_40 : decode cX12_tellLetters 40 = .ok (.iload 4, 2) := by decide +kernel
theorem dX12_tellLetters_42 : decode cX12_tellLetters 42 = .ok (.bipush 52, 2) := by decide +kernel
theorem dX12_tellLetters_44 : decode cX12_tellLetters 44 = .ok (.if_icmp .gt 14, 3) := by decide +kernel
theorem dX12_tellLetters_47 : decode cX12_tellLetters 47 = .ok (.bipush 65, 2) := by decide +kernel
theorem dX12_tellLetters_49 : decode cX12_tellLetters 49 = .ok (.iload 4, 2) := by decide +kernel
theorem dX12_tellLetters_51 : decode cX12_tellLetters 51 = .ok (.iadd, 1) := by decide +kernel
theorem dX12_tellLetters_52 : decode cX12_tellLetters 52 = .ok (.bipush 27, 2) := by decide +kernel
theorem dX12_tellLetters_54 : decode cX12_tellLetters 54 = .ok (.isub, 1) := by decide +kernel
theorem dX12_tellLetters_55 : decode cX12_tellLetters 55 = .ok (.goto 11, 3) := by decide +kernel
theorem dX12_tellLetters_58 : decode cX12_tellLetters 58 = .ok (.bipush 48, 2) := by decide +kernel
theorem dX12_tellLetters_60 : decode cX12_tellLetters 60 = .ok (.iload 4, 2) := by decide +kernel
theorem dX12_tellLetters_62 : decode cX12_tellLetters 62 = .ok (.iadd, 1) := by decide +kernel
theorem dX12_tellLetters_63 : decode cX12_tellLetters 63 = .ok (.bipush 53, 2) := by decide +kernel
theorem dX12_tellLetters_65 : decode cX12_tellLetters 65 = .ok (.isub, 1) := by decide +kernel
theorem dX12_tellLetters_66 : decode cX12_tellLetters 66 = .ok (.invokevirtual 379, 3) := by decide +kernel
theorem dX12_tellLetters_69 : decode cX12_tellLetters 69 = .ok (.iinc 3 (-6), 3) := by decide +kernel
theorem dX12_tellLetters_72 : decode cX12_tellLetters 72 = .ok (.goto (-69), 3) := by decide +kernel
theorem dX12_tellLetters_75 : decode cX12_tellLetters 75 = .ok (.return_, 1) := by decide +kernel
theorem dX12_tellParams_0 : decode cX12_tellParams 0 = .ok (.aload_n 0, 1) := by decide +kernel
theorem dX12_tellParams_1 : decode cX12_tellParams 1 = .ok (.ldc_w 399, 3) := by decide +kernel
theorem dX12_tellParams_4 : decode cX12_tellParams 4 = .ok (.invokevirtual 259, 3) := by decide +kernel
theorem dX12_tellParams_7 : decode cX12_tellParams 7 = .ok (.iconst 0, 1) := by decide +kernel
theorem dX12_tellParams_8 : decode cX12_tellParams 8 = .ok (.istore_n 2, 1) := by decide +kernel
theorem dX12_tellParams_9 : decode cX12_tellParams 9 = .ok (.iload_n 2, 1) := by decide +kernel
theorem dX12_tellParams_10 : decode cX12_tellParams 10 = .ok (.aload_n 1, 1) := by decide +kernel
theorem dX12_tellParams_11 : decode cX12_tellParams 11 = .ok (.getfield 401, 3) := by decide +kernel
theorem dX12_tellParams_14 : decode cX12_tellParams 14 = .ok (.if_icmp .ge 36, 3) := by decide +kernel
theorem dX12_tellParams_17 : decode cX12_tellParams 17 = .ok (.aload_n 0, 1) := by decide +kernel
theorem dX12_tellParams_18 : decode cX12_tellParams 18 = .ok (.iload_n 2, 1) := by decide +kernel
theorem dX12_tellParams_19 : decode cX12_tellParams 19 = .ok (.ifCond .ne 9, 3) := by decide +kernel
theorem dX12_tellParams_22 : decode cX12_tellParams 22 = .ok (.ldc_w 257, 3) := by decide +kernel
theorem dX12_tellParams_25 : decode cX12_tellParams 25 = .ok (.goto 6, 3) := by decide +kernel
theorem dX12_tellParams_28 : decode cX12_tellParams 28 = .ok (.ldc_w 316, 3) := by decide +kernel
theorem dX12_tellParams_31 : decode cX12_tellParams 31 = .ok (.invokevirtual 259, 3) := by decide +kernel
theorem dX12_tellParams_34 : decode cX12_tellParams 34 = .ok (.aload_n 0, 1) := by decide +kernel
theorem dX12_tellParams_35 : decode cX12_tellParams 35 = .ok (.aload_n 1, 1) := by decide +kernel
theorem dX12_tellParams_36 : decode cX12_tellParams 36 = .ok (.getfield 404, 3) := by decide +kernel
theorem dX12_tellParams_39 : decode cX12_tellParams 39 = .ok (.iload_n 2, 1) := by decide +kernel
theorem dX12_tellParams_40 : decode cX12_tellParams 40 = .ok (.laload, 1) := by decide +kernel
theorem dX12_tellParams_41 : decode cX12_tellParams 41 = .ok (.invokevirtual 284, 3) := by decide +kernel
theorem dX12_tellParams_44 : decode cX12_tellParams 44 = .ok (.iinc 2 1, 3) := by decide +kernel
theorem dX12_tellParams_47 : decode cX12_tellParams 47 = .ok (.goto (-38), 3) := by decide +kernel
theorem dX12_tellParams_50 : decode cX12_tellParams 50 = .ok (.aload_n 0, 1) := by decide +kernel
theorem dX12_tellParams_51 : decode cX12_tellParams 51 = .ok (.ldc_w 408, 3) := by decide +kernel
theorem dX12_tellParams_54 : decode cX12_tellParams 54 = .ok (.invokevirtual 259, 3) := by decide +kernel
theorem dX12_tellParams_57 : decode cX12_tellParams 57 = .ok (.return_, 1) := by decide +kernel
theorem dX12_tellUsed_0 : decode cX12_tellUsed 0 = .ok (.aload_n 0, 1) := by decide +kernel
theorem dX12_tellUsed_1 : decode cX12_tellUsed 1 = .ok (.lload_n 1, 1) := by decide +kernel
theorem dX12_tellUsed_2 : decode cX12_tellUsed 2 = .ok (.invokevirtual 284, 3) := by decide +kernel
theorem dX12_tellUsed_5 : decode cX12_tellUsed 5 = .ok (.aload_n 0, 1) := by decide +kernel
theorem dX12_tellUsed_6 : decode cX12_tellUsed 6 = .ok (.ldc_w 410, 3) := by decide +kernel
theorem dX12_tellUsed_9 : decode cX12_tellUsed 9 = .ok (.invokevirtual 259, 3) := by decide +kernel
theorem dX12_tellUsed_12 : decode cX12_tellUsed 12 = .ok (.aload_n 3, 1) := by decide +kernel
theorem dX12_tellUsed_13 : decode cX12_tellUsed 13 = .ok (.getfield 343, 3) := by decide +kernel
theorem dX12_tellUsed_16 : decode cX12_tellUsed 16 = .ok (.iconst 2, 1) := by decide +kernel
theorem dX12_tellUsed_17 : decode cX12_tellUsed 17 = .ok (.if_icmp .ne 16, 3) := by decide +kernel
theorem dX12_tellUsed_20 : decode cX12_tellUsed 20 = .ok (.aload_n 0, 1) := by decide +kernel
theorem dX12_tellUsed_21 : decode cX12_tellUsed 21 = .ok (.ldc_w 346, 3) := by decide +kernel
theorem dX12_tellUsed_24 : decode cX12_tellUsed 24 = .ok (.invokevirtual 259, 3) := by decide +kernel
theorem dX12_tellUsed_27 : decode cX12_tellUsed 27 = .ok (.aload_n 0, 1) := by decide +kernel
theorem dX12_tellUsed_28 : decode cX12_tellUsed 28 = .ok (.aload_n 3, 1) := by decide +kernel
theorem dX12_tellUsed_29 : decode cX12_tellUsed 29 = .ok (.invokevirtual 348, 3) := by decide +kernel
theorem dX12_tellUsed_32 : decode cX12_tellUsed 32 = .ok (.return_, 1) := by decide +kernel
theorem dX12_tellUsed_33 : decode cX12_tellUsed 33 = .ok (.aload_n 0, 1) := by decide +kernel
theorem dX12_tellUsed_34 : decode cX12_tellUsed 34 = .ok (.aload_n 3, 1) := by decide +kernel
theorem dX12_tellUsed_35 : decode cX12_tellUsed 35 = .ok (.getfield 356, 3) := by decide +kernel
theorem dX12_tellUsed_38 : decode cX12_tellUsed 38 = .ok (.invokevirtual 357, 3) := by decide +kernel
theorem dX12_tellUsed_41 : decode cX12_tellUsed 41 = .ok (.aload_n 3, 1) := by decide +kernel
theorem dX12_tellUsed_42 : decode cX12_tellUsed 42 = .ok (.getfield 343, 3) := by decide +kernel
theorem dX12_tellUsed_45 : decode cX12_tellUsed 45 = .ok (.iconst 1, 1) := by decide +kernel
theorem dX12_tellUsed_46 : decode cX12_tellUsed 46 = .ok (.if_icmp .ne 11, 3) := by decide +kernel
theorem dX12_tellUsed_49 : decode cX12_tellUsed 49 = .ok (.aload_n 0, 1) := by decide +kernel
theorem dX12_tellUsed_50 : decode cX12_tellUsed 50 = .ok (.aload_n 3, 1) := by decide +kernel
theorem dX12_tellUsed_51 : decode cX12_tellUsed 51 = .ok (.invokevirtual 348, 3) := by decide +kernel
theorem dX12_tellUsed_54 : decode cX12_tellUsed 54 = .ok (.goto 10, 3) := by decide +kernel
theorem dX12_tellUsed_57 : decode cX12_tellUsed 57 = .ok (.aload_n 0, 1) := by decide +kernel
theorem dX12_tellUsed_58 : decode cX12_tellUsed 58 = .ok (.ldc_w 412, 3) := by decide +kernel
theorem dX12_tellUsed_61 : decode cX12_tellUsed 61 = .ok (.invokevirtual 259, 3) := by decide +kernel
theorem dX12_tellUsed_64 : decode cX12_tellUsed 64 = .ok (.aload_n 0, 1) := by decide +kernel
theorem dX12_tellUsed_65 : decode cX12_tellUsed 65 = .ok (.aload_n 3, 1) := by decide +kernel
theorem dX12_tellUsed_66 : decode cX12_tellUsed 66 = .ok (.getfield 351, 3) := by decide +kernel
theorem dX12_tellUsed_69 : decode cX12_tellUsed 69 = .ok (.invokevirtual 284, 3) := by decide +kernel
theorem dX12_tellUsed_72 : decode cX12_tellUsed 72 = .ok (.return_, 1) := by decide +kernel
theorem dX12_uses_0 : decode cX12_uses 0 = .ok (.aload_n 0, 1) := by decide +kernel
theorem dX12_uses_1 : decode cX12_uses 1 = .ok (.iload_n 1, 1) := by decide +kernel
theorem dX12_uses_2 : decode cX12_uses 2 = .ok (.iload_n 2, 1) := by decide +kernel
theorem dX12_uses_3 : decode cX12_uses 3 = .ok (.invokevirtual 139, 3) := by decide +kernel
theorem dX12_uses_6 : decode cX12_uses 6 = .ok (.astore_n 3, 1) := by decide +kernel
theorem dX12_uses_7 : decode cX12_uses 7 = .ok (.aload_n 3, 1) := by decide +kernel
theorem dX12_uses_8 : decode cX12_uses 8 = .ok (.ifnonnull 7, 3) := by decide +kernel
theorem dX12_uses_11 : decode cX12_uses 11 = .ok (.iconst (-1), 1) := by decide +kernel
theorem dX12_uses_12 : decode cX12_uses 12 = .ok (.goto 7, 3) := by decide +kernel
theorem dX12_uses_15 : decode cX12_uses 15 = .ok (.aload_n 3, 1) := by decide +kernel
theorem dX12_uses_16 : decode cX12_uses 16 = .ok (.getfield 414, 3) := by decide +kernel
theorem dX12_uses_19 : decode cX12_uses 19 = .ok (.ireturn, 1) := by decide +kernel
theorem dX12_hasUse_0 : decode cX12_hasUse 0 = .ok (.aload_n 0, 1) := by decide +kernel
theorem dX12_hasUse_1 : decode cX12_hasUse 1 = .ok (.ifnull 19, 3) := by decide +kernel
theorem dX12_hasUse_4 : decode cX12_hasUse 4 = .ok (.iload_n 1, 1) := by decide +kernel
theorem dX12_hasUse_5 : decode cX12_hasUse 5 = .ok (.ifCond .lt 15, 3) := by decide +kernel
theorem dX12_hasUse_8 : decode cX12_hasUse 8 = .ok (.iload_n 1, 1) := by decide +kernel
theorem dX12_hasUse_9 : decode cX12_hasUse 9 = .ok (.aload_n 0, 1) := by decide +kernel
theorem dX12_hasUse_10 : decode cX12_hasUse 10 = .ok (.getfield 414, 3) := by decide +kernel
theorem dX12_hasUse_13 : decode cX12_hasUse 13 = .ok (.if_icmp .ge 7, 3) := by decide +kernel
theorem dX12_hasUse_16 : decode cX12_hasUse 16 = .ok (.iconst 1, 1) := by decide +kernel
theorem dX12_hasUse_17 : decode cX12_hasUse 17 = .ok (.goto 4, 3) := by decide +kernel
theorem dX12_hasUse_20 : decode cX12_hasUse 20 = .ok (.iconst 0, 1) := by decide +kernel
theorem dX12_hasUse_21 : decode cX12_hasUse 21 = .ok (.ireturn, 1) := by decide +kernel
theorem dX12_use_0 : decode cX12_use 0 = .ok (.aload_n 0, 1) := by decide +kernel
theorem dX12_use_1 : decode cX12_use 1 = .ok (.iload_n 1, 1) := by decide +kernel
theorem dX12_use_2 : decode cX12_use 2 = .ok (.iload_n 2, 1) := by decide +kernel
theorem dX12_use_3 : decode cX12_use 3 = .ok (.invokevirtual 139, 3) := by decide +kernel
theorem dX12_use_6 : decode cX12_use 6 = .ok (.astore 5, 2) := by decide +kernel
theorem dX12_use_8 : decode cX12_use 8 = .ok (.aload 5, 2) := by decide +kernel
theorem dX12_use_10 : decode cX12_use 10 = .ok (.iload_n 3, 1) := by decide +kernel
theorem dX12_use_11 : decode cX12_use 11 = .ok (.invokestatic 417, 3) := by decide +kernel
theorem dX12_use_14 : decode cX12_use 14 = .ok (.ifCond .eq 14, 3) := by decide +kernel
theorem dX12_use_17 : decode cX12_use 17 = .ok (.iload 4, 2) := by decide +kernel
theorem dX12_use_19 : decode cX12_use 19 = .ok (.ifCond .lt 9, 3) := by decide +kernel
theorem dX12_use_22 : decode cX12_use 22 = .ok (.iload 4, 2) := by decide +kernel
theorem dX12_use_24 : decode cX12_use 24 = .ok (.iconst 1, 1) := by decide +kernel
theorem dX12_use_25 : decode cX12_use 25 = .ok (.if_icmp .le 5, 3) := by decide +kernel
theorem dX12_use_28 : decode cX12_use 28 = .ok (.iconst (-1), 1) := by decide +kernel
theorem dX12_use_29 : decode cX12_use 29 = .ok (.ireturn, 1) := by decide +kernel
theorem dX12_use_30 : decode cX12_use 30 = .ok (.iload 4, 2) := by decide +kernel
theorem dX12_use_32 : decode cX12_use 32 = .ok (.ifCond .ne 13, 3) := by decide +kernel
theorem dX12_use_35 : decode cX12_use 35 = .ok (.aload 5, 2) := by decide +kernel
theorem dX12_use_37 : decode cX12_use 37 = .ok (.getfield 421, 3) := by decide +kernel
theorem dX12_use_40 : decode cX12_use 40 = .ok (.iload_n 3, 1) := by decide +kernel
theorem dX12_use_41 : decode cX12_use 41 = .ok (.iaload, 1) := by decide +kernel
theorem dX12_use_42 : decode cX12_use 42 = .ok (.goto 10, 3) := by decide +kernel
theorem dX12_use_45 : decode cX12_use 45 = .ok (.aload 5, 2) := by decide +kernel
theorem dX12_use_47 : decode cX12_use 47 = .ok (.getfield 424, 3) := by decide +kernel
theorem dX12_use_50 : decode cX12_use 50 = .ok (.iload_n 3, 1) := by decide +kernel
theorem dX12_use_51 : decode cX12_use 51 = .ok (.iaload, 1) := by decide +kernel
theorem dX12_use_52 : decode cX12_use 52 = .ok (.ireturn, 1) := by decide +kernel
theorem dX12_tell_0 : decode cX12_tell 0 = .ok (.aload_n 0, 1) := by decide +kernel
theorem dX12_tell_1 : decode cX12_tell 1 = .ok (.iload_n 1, 1) := by decide +kernel
theorem dX12_tell_2 : decode cX12_tell 2 = .ok (.iload_n 2, 1) := by decide +kernel
theorem dX12_tell_3 : decode cX12_tell 3 = .ok (.invokevirtual 139, 3) := by decide +kernel
theorem dX12_tell_6 : decode cX12_tell 6 = .ok (.astore 4, 2) := by decide +kernel
theorem dX12_tell_8 : decode cX12_tell 8 = .ok (.aload 4, 2) := by decide +kernel
theorem dX12_tell_10 : decode cX12_tell 10 = .ok (.iload_n 3, 1) := by decide +kernel
theorem dX12_tell_11 : decode cX12_tell 11 = .ok (.invokestatic 417, 3) := by decide +kernel
theorem dX12_tell_14 : decode cX12_tell 14 = .ok (.ifCond .ne 5, 3) := by decide +kernel
theorem dX12_tell_17 : decode cX12_tell 17 = .ok (.iconst (-1), 1) := by decide +kernel
theorem dX12_tell_18 : decode cX12_tell 18 = .ok (.ireturn, 1) := by decide +kernel
theorem dX12_tell_19 : decode cX12_tell 19 = .ok (.aload_n 0, 1) := by decide +kernel
theorem dX12_tell_20 : decode cX12_tell 20 = .ok (.iconst 0, 1) := by decide +kernel
theorem dX12_tell_21 : decode cX12_tell 21 = .ok (.putfield 146, 3) := by decide +kernel
theorem dX12_tell_24 : decode cX12_tell 24 = .ok (.aload 4, 2) := by decide +kernel
theorem dX12_tell_26 : decode cX12_tell 26 = .ok (.getfield 421, 3) := by decide +kernel
theorem dX12_tell_29 : decode cX12_tell 29 = .ok (.iload_n 3, 1) := by decide +kernel
theorem dX12_tell_30 : decode cX12_tell 30 = .ok (.iaload, 1) := by decide +kernel
theorem dX12_tell_31 : decode cX12_tell 31 = .ok (.istore 5, 2) := by decide +kernel
theorem dX12_tell_33 : decode cX12_tell 33 = .ok (.aload 4, 2) := by decide +kernel
theorem dX12_tell_35 : decode cX12_tell 35 = .ok (.getfield 427, 3) := by decide +kernel
theorem dX12_tell_38 : decode cX12_tell 38 = .ok (.iload_n 3, 1) := by decide +kernel
theorem dX12_tell_39 : decode cX12_tell 39 = .ok (.aaload, 1) := by decide +kernel
theorem dX12_tell_40 : decode cX12_tell 40 = .ok (.astore 6, 2) := by decide +kernel
theorem dX12_tell_42 : decode cX12_tell 42 = .ok (.aload_n 0, 1) := by decide +kernel
theorem dX12_tell_43 : decode cX12_tell 43 = .ok (.iload 5, 2) := by decide +kernel
theorem dX12_tell_45 : decode cX12_tell 45 = .ok (.i2l, 1) := by decide +kernel
theorem dX12_tell_46 : decode cX12_tell 46 = .ok (.invokevirtual 368, 3) := by decide +kernel
theorem dX12_tell_49 : decode cX12_tell 49 = .ok (.aload_n 0, 1) := by decide +kernel
theorem dX12_tell_50 : decode cX12_tell 50 = .ok (.ldc_w 354, 3) := by decide +kernel
theorem dX12_tell_53 : decode cX12_tell 53 = .ok (.invokevirtual 259, 3) := by decide +kernel
theorem dX12_tell_56 : decode cX12_tell 56 = .ok (.iload 5, 2) := by decide +kernel
theorem dX12_tell_58 : decode cX12_tell 58 = .ok (.bipush 16, 2) := by decide +kernel
theorem dX12_tell_60 : decode cX12_tell 60 = .ok (.if_icmp .ne 56, 3) := by decide +kernel
theorem dX12_tell_63 : decode cX12_tell 63 = .ok (.aload 6, 2) := by decide +kernel
theorem dX12_tell_65 : decode cX12_tell 65 = .ok (.ifnull 51, 3) := by decide +kernel
theorem dX12_tell_68 : decode cX12_tell 68 = .ok (.aload_n 0, 1) := by decide +kernel
theorem dX12_tell_69 : decode cX12_tell 69 = .ok (.aload 4, 2) := by decide +kernel
theorem dX12_tell_71 : decode cX12_tell 71 = .ok (.getfield 430, 3) := by decide +kernel
theorem dX12_tell_74 : decode cX12_tell 74 = .ok (.iload_n 3, 1) := by decide +kernel
theorem dX12_tell_75 : decode cX12_tell 75 = .ok (.laload, 1) := by decide +kernel
theorem dX12_tell_76 : decode cX12_tell 76 = .ok (.invokevirtual 284, 3) := by decide +kernel
theorem dX12_tell_79 : decode cX12_tell 79 = .ok (.aload_n 0, 1) := by decide +kernel
theorem dX12_tell_80 : decode cX12_tell 80 = .ok (.ldc_w 410, 3) := by decide +kernel
theorem dX12_tell_83 : decode cX12_tell 83 = .ok (.invokevirtual 259, 3) := by decide +kernel
theorem dX12_tell_86 : decode cX12_tell 86 = .ok (.aload_n 0, 1) := by decide +kernel
theorem dX12_tell_87 : decode cX12_tell 87 = .ok (.aload 6, 2) := by decide +kernel
theorem dX12_tell_89 : decode cX12_tell 89 = .ok (.getfield 356, 3) := by decide +kernel
theorem dX12_tell_92 : decode cX12_tell 92 = .ok (.invokevirtual 357, 3) := by decide +kernel
theorem dX12_tell_95 : decode cX12_tell 95 = .ok (.aload_n 0, 1) := by decide +kernel
theorem dX12_tell_96 : decode cX12_tell 96 = .ok (.ldc_w 363, 3) := by decide +kernel
theorem dX12_tell_99 : decode cX12_tell 99 = .ok (.invokevirtual 259, 3) := by decide +kernel
theorem dX12_tell_102 : decode cX12_tell 102 = .ok (.aload_n 0, 1) := by decide +kernel
theorem dX12_tell_103 : decode cX12_tell 103 = .ok (.aload 4, 2) := by decide +kernel
theorem dX12_tell_105 : decode cX12_tell 105 = .ok (.getfield 433, 3) := by decide +kernel
theorem dX12_tell_108 : decode cX12_tell 108 = .ok (.iload_n 3, 1) := by decide +kernel
theorem dX12_tell_109 : decode cX12_tell 109 = .ok (.laload, 1) := by decide +kernel
theorem dX12_tell_110 : decode cX12_tell 110 = .ok (.invokevirtual 368, 3) := by decide +kernel
theorem dX12_tell_113 : decode cX12_tell 113 = .ok (.goto 60, 3) := by decide +kernel
theorem dX12_tell_116 : decode cX12_tell 116 = .ok (.aload 6, 2) := by decide +kernel
theorem dX12_tell_118 : decode cX12_tell 118 = .ok (.ifnull 19, 3) := by decide +kernel
theorem dX12_tell_121 : decode cX12_tell 121 = .ok (.aload_n 0, 1) := by decide +kernel
theorem dX12_tell_122 : decode cX12_tell 122 = .ok (.aload 4, 2) := by decide +kernel
theorem dX12_tell_124 : decode cX12_tell 124 = .ok (.getfield 430, 3) := by decide +kernel
theorem dX12_tell_127 : decode cX12_tell 127 = .ok (.iload_n 3, 1) := by decide +kernel
theorem dX12_tell_128 : decode cX12_tell 128 = .ok (.laload, 1) := by decide +kernel
theorem dX12_tell_129 : decode cX12_tell 129 = .ok (.aload 6, 2) := by decide +kernel
theorem dX12_tell_131 : decode cX12_tell 131 = .ok (.invokevirtual 436, 3) := by decide +kernel
theorem dX12_tell_134 : decode cX12_tell 134 = .ok (.goto 39, 3) := by decide +kernel
theorem dX12_tell_137 : decode cX12_tell 137 = .ok (.aload_n 0, 1) := by decide +kernel
theorem dX12_tell_138 : decode cX12_tell 138 = .ok (.aload 4, 2) := by decide +kernel
theorem dX12_tell_140 : decode cX12_tell 140 = .ok (.getfield 430, 3) := by decide +kernel
theorem dX12_tell_143 : decode cX12_tell 143 = .ok (.iload_n 3, 1) := by decide +kernel
theorem dX12_tell_144 : decode cX12_tell 144 = .ok (.laload, 1) := by decide +kernel
theorem dX12_tell_145 : decode cX12_tell 145 = .ok (.invokevirtual 284, 3) := by decide +kernel
theorem dX12_tell_148 : decode cX12_tell 148 = .ok (.iload 5, 2) := by decide +kernel
theorem dX12_tell_150 : decode cX12_tell 150 = .ok (.bipush 17, 2) := by decide +kernel
theorem dX12_tell_152 : decode cX12_tell 152 = .ok (.if_icmp .ne 21, 3) := by decide +kernel
theorem dX12_tell_155 : decode cX12_tell 155 = .ok (.aload_n 0, 1) := by decide +kernel
theorem dX12_tell_156 : decode cX12_tell 156 = .ok (.ldc_w 440, 3) := by decide +kernel
theorem dX12_tell_159 : decode cX12_tell 159 = .ok (.invokevirtual 259, 3) := by decide +kernel
theorem dX12_tell_162 : decode cX12_tell 162 = .ok (.aload_n 0, 1) := by decide +kernel
theorem dX12_tell_163 : decode cX12_tell 163 = .ok (.aload 4, 2) := by decide +kernel
theorem dX12_tell_165 : decode cX12_tell 165 = .ok (.getfield 433, 3) := by decide +kernel
theorem dX12_tell_168 : decode cX12_tell 168 = .ok (.iload_n 3, 1) := by decide +kernel
theorem dX12_tell_169 : decode cX12_tell 169 = .ok (.laload, 1) := by decide +kernel
theorem dX12_tell_170 : decode cX12_tell 170 = .ok (.invokevirtual 284, 3) := by decide +kernel
theorem dX12_tell_173 : decode cX12_tell 173 = .ok (.aload_n 0, 1) := by decide +kernel
theorem dX12_tell_174 : decode cX12_tell 174 = .ok (.getfield 146, 3) := by decide +kernel
theorem dX12_tell_177 : decode cX12_tell 177 = .ok (.ireturn, 1) := by decide +kernel
theorem dX12_whereUsed_0 : decode cX12_whereUsed 0 = .ok (.aload_n 0, 1) := by decide +kernel
theorem dX12_whereUsed_1 : decode cX12_whereUsed 1 = .ok (.iload_n 1, 1) := by decide +kernel
theorem dX12_whereUsed_2 : decode cX12_whereUsed 2 = .ok (.iload_n 2, 1) := by decide +kernel
theorem dX12_whereUsed_3 : decode cX12_whereUsed 3 = .ok (.invokevirtual 139, 3) := by decide +kernel
theorem dX12_whereUsed_6 : decode cX12_whereUsed 6 = .ok (.astore 4, 2) := by decide +kernel
theorem dX12_whereUsed_8 : decode cX12_whereUsed 8 = .ok (.aload 4, 2) := by decide +kernel
theorem dX12_whereUsed_10 : decode cX12_whereUsed 10 = .ok (.ifnull 13, 3) := by decide +kernel
theorem dX12_whereUsed_13 : decode cX12_whereUsed 13 = .ok (.aload_n 0, 1) := by decide +kernel
theorem dX12_whereUsed_14 : decode cX12_whereUsed 14 = .ok (.getfield 26, 3) := by decide +kernel
theorem dX12_whereUsed_17 : decode cX12_whereUsed 17 = .ok (.iload_n 1, 1) := by decide +kernel
theorem dX12_whereUsed_18 : decode cX12_whereUsed 18 = .ok (.iaload, 1) := by decide +kernel
theorem dX12_whereUsed_19 : decode cX12_whereUsed 19 = .ok (.iload_n 2, 1) := by decide +kernel
theorem dX12_whereUsed_20 : decode cX12_whereUsed 20 = .ok (.if_icmp .eq 6, 3) := by decide +kernel
theorem dX12_whereUsed_23 : decode cX12_whereUsed 23 = .ok (.bipush (-2), 2) := by decide +kernel
theorem dX12_whereUsed_25 : decode cX12_whereUsed 25 = .ok (.ireturn, 1) := by decide +kernel
theorem dX12_whereUsed_26 : decode cX12_whereUsed 26 = .ok (.aload 4, 2) := by decide +kernel
theorem dX12_whereUsed_28 : decode cX12_whereUsed 28 = .ok (.getfield 168, 3) := by decide +kernel
theorem dX12_whereUsed_31 : decode cX12_whereUsed 31 = .ok (.aload 4, 2) := by decide +kernel
theorem dX12_whereUsed_33 : decode cX12_whereUsed 33 = .ok (.getfield 424, 3) := by decide +kernel
theorem dX12_whereUsed_36 : decode cX12_whereUsed 36 = .ok (.iload_n 3, 1) := by decide +kernel
theorem dX12_whereUsed_37 : decode cX12_whereUsed 37 = .ok (.iaload, 1) := by decide +kernel
theorem dX12_whereUsed_38 : decode cX12_whereUsed 38 = .ok (.aaload, 1) := by decide +kernel
theorem dX12_whereUsed_39 : decode cX12_whereUsed 39 = .ok (.astore 5, 2) := by decide +kernel
theorem dX12_whereUsed_41 : decode cX12_whereUsed 41 = .ok (.aload_n 0, 1) := by decide +kernel
theorem dX12_whereUsed_42 : decode cX12_whereUsed 42 = .ok (.getfield 67, 3) := by decide +kernel
theorem dX12_whereUsed_45 : decode cX12_whereUsed 45 = .ok (.aload 5, 2) := by decide +kernel
theorem dX12_whereUsed_47 : decode cX12_whereUsed 47 = .ok (.getfield 280, 3) := by decide +kernel
theorem dX12_whereUsed_50 : decode cX12_whereUsed 50 = .ok (.invokevirtual 442, 3) := by decide +kernel
theorem dX12_whereUsed_53 : decode cX12_whereUsed 53 = .ok (.istore 6, 2) := by decide +kernel
theorem dX12_whereUsed_55 : decode cX12_whereUsed 55 = .ok (.iload 6, 2) := by decide +kernel
theorem dX12_whereUsed_57 : decode cX12_whereUsed 57 = .ok (.ifCond .lt 23, 3) := by decide +kernel
theorem dX12_whereUsed_60 : decode cX12_whereUsed 60 = .ok (.aload_n 0, 1) := by decide +kernel
theorem dX12_whereUsed_61 : decode cX12_whereUsed 61 = .ok (.getfield 67, 3) := by decide +kernel
theorem dX12_whereUsed_64 : decode cX12_whereUsed 64 = .ok (.getfield 446, 3) := by decide +kernel
theorem dX12_whereUsed_67 : decode cX12_whereUsed 67 = .ok (.iload 6, 2) := by decide +kernel
theorem dX12_whereUsed_69 : decode cX12_whereUsed 69 = .ok (.aaload, 1) := by decide +kernel
theorem dX12_whereUsed_70 : decode cX12_whereUsed 70 = .ok (.aload 5, 2) := by decide +kernel
theorem dX12_whereUsed_72 : decode cX12_whereUsed 72 = .ok (.if_acmp .ne 8, 3) := by decide +kernel
theorem dX12_whereUsed_75 : decode cX12_whereUsed 75 = .ok (.iload 6, 2) := by decide +kernel
theorem dX12_whereUsed_77 : decode cX12_whereUsed 77 = .ok (.goto 5, 3) := by decide +kernel
theorem dX12_whereUsed_80 : decode cX12_whereUsed 80 = .ok (.bipush (-2), 2) := by decide +kernel
theorem dX12_whereUsed_82 : decode cX12_whereUsed 82 = .ok (.ireturn, 1) := by decide +kernel
theorem dX12_meet_0 : decode cX12_meet 0 = .ok (.aload_n 0, 1) := by decide +kernel
theorem dX12_meet_1 : decode cX12_meet 1 = .ok (.iload_n 1, 1) := by decide +kernel
theorem dX12_meet_2 : decode cX12_meet 2 = .ok (.iload_n 2, 1) := by decide +kernel
theorem dX12_meet_3 : decode cX12_meet 3 = .ok (.invokevirtual 139, 3) := by decide +kernel
theorem dX12_meet_6 : decode cX12_meet 6 = .ok (.iload_n 3, 1) := by decide +kernel
theorem dX12_meet_7 : decode cX12_meet 7 = .ok (.invokestatic 417, 3) := by decide +kernel
theorem dX12_meet_10 : decode cX12_meet 10 = .ok (.ifCond .ne 5, 3) := by decide +kernel
theorem dX12_meet_13 : decode cX12_meet 13 = .ok (.iconst (-1), 1) := by decide +kernel
theorem dX12_meet_14 : decode cX12_meet 14 = .ok (.ireturn, 1) := by decide +kernel
theorem dX12_meet_15 : decode cX12_meet 15 = .ok (.aload_n 0, 1) := by decide +kernel
theorem dX12_meet_16 : decode cX12_meet 16 = .ok (.iload_n 1, 1) := by decide +kernel
theorem dX12_meet_17 : decode cX12_meet 17 = .ok (.iload_n 2, 1) := by decide +kernel
theorem dX12_meet_18 : decode cX12_meet 18 = .ok (.iload_n 3, 1) := by decide +kernel
theorem dX12_meet_19 : decode cX12_meet 19 = .ok (.invokevirtual 449, 3) := by decide +kernel
theorem dX12_meet_22 : decode cX12_meet 22 = .ok (.istore 4, 2) := by decide +kernel
theorem dX12_meet_24 : decode cX12_meet 24 = .ok (.iload 4, 2) := by decide +kernel
theorem dX12_meet_26 : decode cX12_meet 26 = .ok (.ifCond .ge 6, 3) := by decide +kernel
theorem dX12_meet_29 : decode cX12_meet 29 = .ok (.bipush (-2), 2) := by decide +kernel
theorem dX12_meet_31 : decode cX12_meet 31 = .ok (.ireturn, 1) := by decide +kernel
theorem dX12_meet_32 : decode cX12_meet 32 = .ok (.aload_n 0, 1) := by decide +kernel
theorem dX12_meet_33 : decode cX12_meet 33 = .ok (.getfield 79, 3) := by decide +kernel
theorem dX12_meet_36 : decode cX12_meet 36 = .ok (.aload_n 0, 1) := by decide +kernel
theorem dX12_meet_37 : decode cX12_meet 37 = .ok (.getfield 67, 3) := by decide +kernel
theorem dX12_meet_40 : decode cX12_meet 40 = .ok (.invokevirtual 453, 3) := by decide +kernel
theorem dX12_meet_43 : decode cX12_meet 43 = .ok (.aload_n 0, 1) := by decide +kernel
theorem dX12_meet_44 : decode cX12_meet 44 = .ok (.getfield 79, 3) := by decide +kernel
theorem dX12_meet_47 : decode cX12_meet 47 = .ok (.iload 4, 2) := by decide +kernel
theorem dX12_meet_49 : decode cX12_meet 49 = .ok (.iload_n 3, 1) := by decide +kernel
theorem dX12_meet_50 : decode cX12_meet 50 = .ok (.aload_n 0, 1) := by decide +kernel
theorem dX12_meet_51 : decode cX12_meet 51 = .ok (.getfield 67, 3) := by decide +kernel
theorem dX12_meet_54 : decode cX12_meet 54 = .ok (.getfield 446, 3) := by decide +kernel
theorem dX12_meet_57 : decode cX12_meet 57 = .ok (.iload 4, 2) := by decide +kernel
theorem dX12_meet_59 : decode cX12_meet 59 = .ok (.aaload, 1) := by decide +kernel
theorem dX12_meet_60 : decode cX12_meet 60 = .ok (.getfield 454, 3) := by decide +kernel
theorem dX12_meet_63 : decode cX12_meet 63 = .ok (.isub, 1) := by decide +kernel
theorem dX12_meet_64 : decode cX12_meet 64 = .ok (.invokevirtual 457, 3) := by decide +kernel
theorem dX12_meet_67 : decode cX12_meet 67 = .ok (.ireturn, 1) := by decide +kernel
theorem dX12_met_0 : decode cX12_met 0 = .ok (.aload_n 0, 1) := by decide +kernel
theorem dX12_met_1 : decode cX12_met 1 = .ok (.iconst 0, 1) := by decide +kernel
theorem dX12_met_2 : decode cX12_met 2 = .ok (.putfield 146, 3) := by decide +kernel
theorem dX12_met_5 : decode cX12_met 5 = .ok (.aload_n 0, 1) := by decide +kernel
theorem dX12_met_6 : decode cX12_met 6 = .ok (.getfield 79, 3) := by decide +kernel
theorem dX12_met_9 : decode cX12_met 9 = .ok (.getfield 460, 3) := by decide +kernel
theorem dX12_met_12 : decode cX12_met 12 = .ok (.ifnull 21, 3) := by decide +kernel
theorem dX12_met_15 : decode cX12_met 15 = .ok (.aload_n 0, 1) := by decide +kernel
theorem dX12_met_16 : decode cX12_met 16 = .ok (.aload_n 0, 1) := by decide +kernel
theorem dX12_met_17 : decode cX12_met 17 = .ok (.getfield 79, 3) := by decide +kernel
theorem dX12_met_20 : decode cX12_met 20 = .ok (.getfield 464, 3) := by decide +kernel
theorem dX12_met_23 : decode cX12_met 23 = .ok (.aload_n 0, 1) := by decide +kernel
theorem dX12_met_24 : decode cX12_met 24 = .ok (.getfield 79, 3) := by decide +kernel
theorem dX12_met_27 : decode cX12_met 27 = .ok (.getfield 460, 3) := by decide +kernel
theorem dX12_met_30 : decode cX12_met 30 = .ok (.invokevirtual 436, 3) := by decide +kernel
theorem dX12_met_33 : decode cX12_met 33 = .ok (.aload_n 0, 1) := by decide +kernel
theorem dX12_met_34 : decode cX12_met 34 = .ok (.getfield 146, 3) := by decide +kernel
theorem dX12_met_37 : decode cX12_met 37 = .ok (.ireturn, 1) := by decide +kernel
theorem dX12_looked_0 : decode cX12_looked 0 = .ok (.iload_n 1, 1) := by decide +kernel
theorem dX12_looked_1 : decode cX12_looked 1 = .ok (.ifCond .lt 14, 3) := by decide +kernel
theorem dX12_looked_4 : decode cX12_looked 4 = .ok (.iload_n 1, 1) := by decide +kernel
theorem dX12_looked_5 : decode cX12_looked 5 = .ok (.aload_n 0, 1) := by decide +kernel
theorem dX12_looked_6 : decode cX12_looked 6 = .ok (.getfield 79, 3) := by decide +kernel
theorem dX12_looked_9 : decode cX12_looked 9 = .ok (.getfield 467, 3) := by decide +kernel
theorem dX12_looked_12 : decode cX12_looked 12 = .ok (.if_icmp .lt 7, 3) := by decide +kernel
theorem dX12_looked_15 : decode cX12_looked 15 = .ok (.iconst (-1), 1) := by decide +kernel
theorem dX12_looked_16 : decode cX12_looked 16 = .ok (.goto 12, 3) := by decide +kernel
theorem dX12_looked_19 : decode cX12_looked 19 = .ok (.aload_n 0, 1) := by decide +kernel
theorem dX12_looked_20 : decode cX12_looked 20 = .ok (.getfield 79, 3) := by decide +kernel
theorem dX12_looked_23 : decode cX12_looked 23 = .ok (.getfield 470, 3) := by decide +kernel
theorem dX12_looked_26 : decode cX12_looked 26 = .ok (.iload_n 1, 1) := by decide +kernel
theorem dX12_looked_27 : decode cX12_looked 27 = .ok (.iaload, 1) := by decide +kernel
theorem dX12_looked_28 : decode cX12_looked 28 = .ok (.ireturn, 1) := by decide +kernel
theorem dX12_broken_0 : decode cX12_broken 0 = .ok (.aload_n 0, 1) := by decide +kernel
theorem dX12_broken_1 : decode cX12_broken 1 = .ok (.iconst 0, 1) := by decide +kernel
theorem dX12_broken_2 : decode cX12_broken 2 = .ok (.putfield 227, 3) := by decide +kernel
theorem dX12_broken_5 : decode cX12_broken 5 = .ok (.aload_n 0, 1) := by decide +kernel
theorem dX12_broken_6 : decode cX12_broken 6 = .ok (.aload_n 0, 1) := by decide +kernel
theorem dX12_broken_7 : decode cX12_broken 7 = .ok (.getfield 67, 3) := by decide +kernel
theorem dX12_broken_10 : decode cX12_broken 10 = .ok (.aload_n 0, 1) := by decide +kernel
theorem dX12_broken_11 : decode cX12_broken 11 = .ok (.getfield 26, 3) := by decide +kernel
theorem dX12_broken_14 : decode cX12_broken 14 = .ok (.iconst 1, 1) := by decide +kernel
theorem dX12_broken_15 : decode cX12_broken 15 = .ok (.invokevirtual 473, 3) := by decide +kernel
theorem dX12_broken_18 : decode cX12_broken 18 = .ok (.ireturn, 1) := by decide +kernel
theorem dX12_countBroken_0 : decode cX12_countBroken 0 = .ok (.iconst 0, 1) := by decide +kernel
theorem dX12_countBroken_1 : decode cX12_countBroken 1 = .ok (.istore 4, 2) := by decide +kernel
theorem dX12_countBroken_3 : decode cX12_countBroken 3 = .ok (.iconst 0, 1) := by decide +kernel
theorem dX12_countBroken_4 : decode cX12_countBroken 4 = .ok (.istore 5, 2) := by decide +kernel
theorem dX12_countBroken_6 : decode cX12_countBroken 6 = .ok (.iload 5, 2) := by decide +kernel
theorem dX12_countBroken_8 : decode cX12_countBroken 8 = .ok (.iconst 5, 1) := by decide +kernel
theorem dX12_countBroken_9 : decode cX12_countBroken 9 = .ok (.if_icmp .ge 214, 3) := by decide +kernel
theorem dX12_countBroken_12 : decode cX12_countBroken 12 = .ok (.aload_n 0, 1) := by decide +kernel
theorem dX12_countBroken_13 : decode cX12_countBroken 13 = .ok (.iload 5, 2) := by decide +kernel
theorem dX12_countBroken_15 : decode cX12_countBroken 15 = .ok (.aload_n 2, 1) := by decide +kernel
theorem dX12_countBroken_16 : decode cX12_countBroken 16 = .ok (.iload 5, 2) := by decide +kernel
theorem dX12_countBroken_18 : decode cX12_countBroken 18 = .ok (.iaload, 1) := by decide +kernel
theorem dX12_countBroken_19 : decode cX12_countBroken 19 = .ok (.invokevirtual 139, 3) := by decide +kernel
theorem dX12_countBroken_22 : decode cX12_countBroken 22 = .ok (.astore 6, 2) := by decide +kernel
theorem dX12_countBroken_24 : decode cX12_countBroken 24 = .ok (.iconst 0, 1) := by decide +kernel
theorem dX12_countBroken_25 : decode cX12_countBroken 25 = .ok (.istore 7, 2) := by decide +kernel
theorem dX12_countBroken_27 : decode cX12_countBroken 27 = .ok (.aload 6, 2) := by decide +kernel
theorem dX12_countBroken_29 : decode cX12_countBroken 29 = .ok (.ifnull 188, 3) := by decide +kernel
theorem dX12_countBroken_32 : decode cX12_countBroken 32 = .ok (.iload 7, 2) := by decide +kernel
theorem dX12_countBroken_34 : decode cX12_countBroken 34 = .ok (.aload 6, 2) := by decide +kernel
theorem dX12_countBroken_36 : decode cX12_countBroken 36 = .ok (.getfield 165, 3) := by decide +kernel
theorem dX12_countBroken_39 : decode cX12_countBroken 39 = .ok (.if_icmp .ge 178, 3) := by decide +kernel
theorem dX12_countBroken_42 : decode cX12_countBroken 42 = .ok (.aload 6, 2) := by decide +kernel
theorem dX12_countBroken_44 : decode cX12_countBroken 44 = .ok (.getfield 168, 3) := by decide +kernel
theorem dX12_countBroken_47 : decode cX12_countBroken 47 = .ok (.iload 7, 2) := by decide +kernel
theorem dX12_countBroken_49 : decode cX12_countBroken 49 = .ok (.aaload, 1) := by decide +kernel
theorem dX12_countBroken_50 : decode cX12_countBroken 50 = .ok (.astore 8, 2) := by decide +kernel
theorem dX12_countBroken_52 : decode cX12_countBroken 52 = .ok (.aload_n 1, 1) := by decide +kernel
theorem dX12_countBroken_53 : decode cX12_countBroken 53 = .ok (.aload 8, 2) := by decide +kernel
theorem dX12_countBroken_55 : decode cX12_countBroken 55 = .ok (.getfield 280, 3) := by decide +kernel
theorem dX12_countBroken_58 : decode cX12_countBroken 58 = .ok (.invokevirtual 442, 3) := by decide +kernel
theorem dX12_countBroken_61 : decode cX12_countBroken 61 = .ok (.istore 9, 2) := by decide +kernel
theorem dX12_countBroken_63 : decode cX12_countBroken 63 = .ok (.aload_n 0, 1) := by decide +kernel
theorem dX12_countBroken_64 : decode cX12_countBroken 64 = .ok (.getfield 83, 3) := by decide +kernel
theorem dX12_countBroken_67 : decode cX12_countBroken 67 = .ok (.aload_n 1, 1) := by decide +kernel
theorem dX12_countBroken_68 : decode cX12_countBroken 68 = .ok (.invokevirtual 453, 3) := by decide +kernel
theorem dX12_countBroken_71 : decode cX12_countBroken 71 = .ok (.aload_n 0, 1) := by decide +kernel
theorem dX12_countBroken_72 : decode cX12_countBroken 72 = .ok (.getfield 83, 3) := by decide +kernel
theorem dX12_countBroken_75 : decode cX12_countBroken 75 = .ok (.iload 9, 2) := by decide +kernel
theorem dX12_countBroken_77 : decode cX12_countBroken 77 = .ok (.ifCond .ge 7, 3) := by decide +kernel
theorem dX12_countBroken_80 : decode cX12_countBroken 80 = .ok (.iconst 0, 1) := by decide +kernel
theorem dX12_countBroken_81 : decode cX12_countBroken 81 = .ok (.goto 5, 3) := by decide +kernel
theorem dX12_countBroken_84 : decode cX12_countBroken 84 = .ok (.iload 9, 2) := by decide +kernel
theorem dX12_countBroken_86 : decode cX12_countBroken 86 = .ok (.invokevirtual 477, 3) := by decide +kernel
theorem dX12_countBroken_89 : decode cX12_countBroken 89 = .ok (.pop, 1) := by decide +kernel
theorem dX12_countBroken_90 : decode cX12_countBroken 90 = .ok (.aload_n 0, 1) := by decide +kernel
theorem dX12_countBroken_91 : decode cX12_countBroken 91 = .ok (.getfield 83, 3) := by decide +kernel
theorem dX12_countBroken_94 : decode cX12_countBroken 94 = .ok (.getfield 481, 3) := by decide +kernel
theorem dX12_countBroken_97 : decode cX12_countBroken 97 = .ok (.istore 10, 2) := by decide +kernel
theorem dX12_countBroken_99 : decode cX12_countBroken 99 = .ok (.iconst 0, 1) := by decide +kernel
theorem dX12_countBroken_100 : decode cX12_countBroken 100 = .ok (.istore 11, 2) := by decide +kernel
theorem dX12_countBroken_102 : decode cX12_countBroken 102 = .ok (.iload 11, 2) := by decide +kernel
theorem dX12_countBroken_104 : decode cX12_countBroken 104 = .ok (.aload 8, 2) := by decide +kernel
theorem dX12_countBroken_106 : decode cX12_countBroken 106 = .ok (.getfield 484, 3) := by decide +kernel
theorem dX12_countBroken_109 : decode cX12_countBroken 109 = .ok (.if_icmp .ge 102, 3) := by decide +kernel
theorem dX12_countBroken_112 : decode cX12_countBroken 112 = .ok (.iload 9, 2) := by decide +kernel
theorem dX12_countBroken_114 : decode cX12_countBroken 114 = .ok (.ifCond .lt 97, 3) := by decide +kernel
theorem dX12_countBroken_117 : decode cX12_countBroken 117 = .ok (.aload_n 1, 1) := by decide +kernel
theorem dX12_countBroken_118 : decode cX12_countBroken 118 = .ok (.getfield 446, 3) := by decide +kernel
theorem dX12_countBroken_121 : decode cX12_countBroken 121 = .ok (.iload 9, 2) := by decide +kernel
theorem dX12_countBroken_123 : decode cX12_countBroken 123 = .ok (.aaload, 1) := by decide +kernel
theorem dX12_countBroken_124 : decode cX12_countBroken 124 = .ok (.aload 8, 2) := by decide +kernel
theorem dX12_countBroken_126 : decode cX12_countBroken 126 = .ok (.if_acmp .ne 85, 3) := by decide +kernel
theorem dX12_countBroken_129 : decode cX12_countBroken 129 = .ok (.aload 6, 2) := by decide +kernel
theorem dX12_countBroken_131 : decode cX12_countBroken 131 = .ok (.getfield 421, 3) := by decide +kernel
theorem dX12_countBroken_134 : decode cX12_countBroken 134 = .ok (.aload 8, 2) := by decide +kernel
theorem dX12_countBroken_136 : decode cX12_countBroken 136 = .ok (.getfield 454, 3) := by decide +kernel
theorem dX12_countBroken_139 : decode cX12_countBroken 139 = .ok (.iload 11, 2) := by decide +kernel
theorem dX12_countBroken_141 : decode cX12_countBroken 141 = .ok (.iadd, 1) := by decide +kernel
theorem dX12_countBroken_142 : decode cX12_countBroken 142 = .ok (.iaload, 1) := by decide +kernel
theorem dX12_countBroken_143 : decode cX12_countBroken 143 = .ok (.bipush 16, 2) := by decide +kernel
theorem dX12_countBroken_145 : decode cX12_countBroken 145 = .ok (.if_icmp .ne 7, 3) := by decide +kernel
theorem dX12_countBroken_148 : decode cX12_countBroken 148 = .ok (.iconst 0, 1) := by decide +kernel
theorem dX12_countBroken_149 : decode cX12_countBroken 149 = .ok (.goto 14, 3) := by decide +kernel
theorem dX12_countBroken_152 : decode cX12_countBroken 152 = .ok (.aload_n 0, 1) := by decide +kernel
theorem dX12_countBroken_153 : decode cX12_countBroken 153 = .ok (.getfield 83, 3) := by decide +kernel
theorem dX12_countBroken_156 : decode cX12_countBroken 156 = .ok (.iload 9, 2) := by decide +kernel
theorem dX12_countBroken_158 : decode cX12_countBroken 158 = .ok (.iload 11, 2) := by decide +kernel
theorem dX12_countBroken_160 : decode cX12_countBroken 160 = .ok (.invokevirtual 457, 3) := by decide +kernel
theorem dX12_countBroken_163 : decode cX12_countBroken 163 = .ok (.istore 12, 2) := by decide +kernel
theorem dX12_countBroken_165 : decode cX12_countBroken 165 = .ok (.aload_n 0, 1) := by decide +kernel
theorem dX12_countBroken_166 : decode cX12_countBroken 166 = .ok (.getfield 83, 3) := by decide +kernel
theorem dX12_countBroken_169 : decode cX12_countBroken 169 = .ok (.iload 10, 2) := by decide +kernel
theorem dX12_countBroken_171 : decode cX12_countBroken 171 = .ok (.invokevirtual 485, 3) := by decide +kernel
theorem dX12_countBroken_174 : decode cX12_countBroken 174 = .ok (.iload 12, 2) := by decide +kernel
theorem dX12_countBroken_176 : decode cX12_countBroken 176 = .ok (.ifCond .eq 29, 3) := by decide +kernel
theorem dX12_countBroken_179 : decode cX12_countBroken 179 = .ok (.iinc 4 1, 3) := by decide +kernel
theorem dX12_countBroken_182 : decode cX12_countBroken 182 = .ok (.iload_n 3, 1) := by decide +kernel
theorem dX12_countBroken_183 : decode cX12_countBroken 183 = .ok (.ifCond .ne 6, 3) := by decide +kernel
theorem dX12_countBroken_186 : decode cX12_countBroken 186 = .ok (.iload 4, 2) := by decide +kernel
theorem dX12_countBroken_188 : decode cX12_countBroken 188 = .ok (.ireturn, 1) := by decide +kernel
theorem dX12_countBroken_189 : decode cX12_countBroken 189 = .ok (.aload_n 0, 1) := by decide +kernel
theorem dX12_countBroken_190 : decode cX12_countBroken 190 = .ok (.iload 5, 2) := by decide +kernel
theorem dX12_countBroken_192 : decode cX12_countBroken 192 = .ok (.aload 8, 2) := by decide +kernel
theorem dX12_countBroken_194 : decode cX12_countBroken 194 = .ok (.getfield 454, 3) := by decide +kernel
theorem dX12_countBroken_197 : decode cX12_countBroken 197 = .ok (.iload 11, 2) := by decide +kernel
theorem dX12_countBroken_199 : decode cX12_countBroken 199 = .ok (.iadd, 1) := by decide +kernel
theorem dX12_countBroken_200 : decode cX12_countBroken 200 = .ok (.iload 12, 2) := by decide +kernel
theorem dX12_countBroken_202 : decode cX12_countBroken 202 = .ok (.invokevirtual 488, 3) := by decide +kernel
theorem dX12_countBroken_205 : decode cX12_countBroken 205 = .ok (.iinc 11 1, 3) := by decide +kernel
theorem dX12_countBroken_208 : decode cX12_countBroken 208 = .ok (.goto (-106), 3) := by decide +kernel
theorem dX12_countBroken_211 : decode cX12_countBroken 211 = .ok (.iinc 7 1, 3) := by decide +kernel
theorem dX12_countBroken_214 : decode cX12_countBroken 214 = .ok (.goto (-187), 3) := by decide +kernel
theorem dX12_countBroken_217 : decode cX12_countBroken 217 = .ok (.iinc 5 1, 3) := by decide +kernel
theorem dX12_countBroken_220 : decode cX12_countBroken 220 = .ok (.goto (-214), 3) := by decide +kernel
theorem dX12_countBroken_223 : decode cX12_countBroken 223 = .ok (.iload 4, 2) := by decide +kernel
theorem dX12_countBroken_225 : decode cX12_countBroken 225 = .ok (.ireturn, 1) := by decide +kernel
theorem dX12_list_0 : decode cX12_list 0 = .ok (.iconst 3, 1) := by decide +kernel
theorem dX12_list_1 : decode cX12_list 1 = .ok (.aload_n 0, 1) := by decide +kernel
theorem dX12_list_2 : decode cX12_list 2 = .ok (.getfield 227, 3) := by decide +kernel
theorem dX12_list_5 : decode cX12_list 5 = .ok (.imul, 1) := by decide +kernel
theorem dX12_list_6 : decode cX12_list 6 = .ok (.iconst 2, 1) := by decide +kernel
theorem dX12_list_7 : decode cX12_list 7 = .ok (.iadd, 1) := by decide +kernel
theorem dX12_list_8 : decode cX12_list 8 = .ok (.aload_n 0, 1) := by decide +kernel
theorem dX12_list_9 : decode cX12_list 9 = .ok (.getfield 86, 3) := by decide +kernel
theorem dX12_list_12 : decode cX12_list 12 = .ok (.arraylength, 1) := by decide +kernel
theorem dX12_list_13 : decode cX12_list 13 = .ok (.if_icmp .ge 53, 3) := by decide +kernel
