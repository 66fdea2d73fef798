theorem dX13_find_127 : decode cX13_find 127 = .ok (.aload_n 0, 1) := by decide +kernel
theorem dX13_find_128 : decode cX13_find 128 = .ok (.getfield 535, 3) := by decide +kernel
theorem dX13_find_131 : decode cX13_find 131 = .ok (.iload 4, 2) := by decide +kernel
theorem dX13_find_133 : decode cX13_find 133 = .ok (.iaload, 1) := by decide +kernel
theorem dX13_find_134 : decode cX13_find 134 = .ok (.lload_n 1, 1) := by decide +kernel
theorem dX13_find_135 : decode cX13_find 135 = .ok (.invokevirtual 531, 3) := by decide +kernel
theorem dX13_find_138 : decode cX13_find 138 = .ok (.goto 5, 3) := by decide +kernel
theorem dX13_find_141 : decode cX13_find 141 = .ok (.bipush (-2), 2) := by decide +kernel
theorem dX13_find_143 : decode cX13_find 143 = .ok (.istore_n 3, 1) := by decide +kernel
theorem dX13_find_144 : decode cX13_find 144 = .ok (.iinc 4 1, 3) := by decide +kernel
theorem dX13_find_147 : decode cX13_find 147 = .ok (.goto (-80), 3) := by decide +kernel
theorem dX13_find_150 : decode cX13_find 150 = .ok (.iload_n 3, 1) := by decide +kernel
theorem dX13_find_151 : decode cX13_find 151 = .ok (.ireturn, 1) := by decide +kernel
theorem dX13_isFace_0 : decode cX13_isFace 0 = .ok (.aload_n 0, 1) := by decide +kernel
theorem dX13_isFace_1 : decode cX13_isFace 1 = .ok (.getfield 266, 3) := by decide +kernel
theorem dX13_isFace_4 : decode cX13_isFace 4 = .ok (.iload_n 1, 1) := by decide +kernel
theorem dX13_isFace_5 : decode cX13_isFace 5 = .ok (.iaload, 1) := by decide +kernel
theorem dX13_isFace_6 : decode cX13_isFace 6 = .ok (.iconst 3, 1) := by decide +kernel
theorem dX13_isFace_7 : decode cX13_isFace 7 = .ok (.if_icmp .ne 7, 3) := by decide +kernel
theorem dX13_isFace_10 : decode cX13_isFace 10 = .ok (.iconst 1, 1) := by decide +kernel
theorem dX13_isFace_11 : decode cX13_isFace 11 = .ok (.goto 4, 3) := by decide +kernel
theorem dX13_isFace_14 : decode cX13_isFace 14 = .ok (.iconst 0, 1) := by decide +kernel
theorem dX13_isFace_15 : decode cX13_isFace 15 = .ok (.ireturn, 1) := by decide +kernel
theorem dX13_classOfMember_0 : decode cX13_classOfMember 0 = .ok (.iload_n 1, 1) := by decide +kernel
theorem dX13_classOfMember_1 : decode cX13_classOfMember 1 = .ok (.bipush 34, 2) := by decide +kernel
theorem dX13_classOfMember_3 : decode cX13_classOfMember 3 = .ok (.idiv, 1) := by decide +kernel
theorem dX13_classOfMember_4 : decode cX13_classOfMember 4 = .ok (.ireturn, 1) := by decide +kernel
theorem dX13_pack_0 : decode cX13_pack 0 = .ok (.lload_n 0, 1) := by decide +kernel
theorem dX13_pack_1 : decode cX13_pack 1 = .ok (.invokestatic 541, 3) := by decide +kernel
theorem dX13_pack_4 : decode cX13_pack 4 = .ok (.ireturn, 1) := by decide +kernel
theorem dX13_onePackage_0 : decode cX13_onePackage 0 = .ok (.aload_n 0, 1) := by decide +kernel
theorem dX13_onePackage_1 : decode cX13_onePackage 1 = .ok (.getfield 256, 3) := by decide +kernel
theorem dX13_onePackage_4 : decode cX13_onePackage 4 = .ok (.iload_n 1, 1) := by decide +kernel
theorem dX13_onePackage_5 : decode cX13_onePackage 5 = .ok (.laload, 1) := by decide +kernel
theorem dX13_onePackage_6 : decode cX13_onePackage 6 = .ok (.invokestatic 545, 3) := by decide +kernel
theorem dX13_onePackage_9 : decode cX13_onePackage 9 = .ok (.aload_n 0, 1) := by decide +kernel
theorem dX13_onePackage_10 : decode cX13_onePackage 10 = .ok (.getfield 256, 3) := by decide +kernel
theorem dX13_onePackage_13 : decode cX13_onePackage 13 = .ok (.iload_n 2, 1) := by decide +kernel
theorem dX13_onePackage_14 : decode cX13_onePackage 14 = .ok (.laload, 1) := by decide +kernel
theorem dX13_onePackage_15 : decode cX13_onePackage 15 = .ok (.invokestatic 545, 3) := by decide +kernel
theorem dX13_onePackage_18 : decode cX13_onePackage 18 = .ok (.if_icmp .ne 7, 3) := by decide +kernel
theorem dX13_onePackage_21 : decode cX13_onePackage 21 = .ok (.iconst 1, 1) := by decide +kernel
theorem dX13_onePackage_22 : decode cX13_onePackage 22 = .ok (.goto 4, 3) := by decide +kernel
theorem dX13_onePackage_25 : decode cX13_onePackage 25 = .ok (.iconst 0, 1) := by decide +kernel
theorem dX13_onePackage_26 : decode cX13_onePackage 26 = .ok (.ireturn, 1) := by decide +kernel
theorem dX13_parent_0 : decode cX13_parent 0 = .ok (.aload_n 0, 1) := by decide +kernel
theorem dX13_parent_1 : decode cX13_parent 1 = .ok (.iload_n 1, 1) := by decide +kernel
theorem dX13_parent_2 : decode cX13_parent 2 = .ok (.invokevirtual 548, 3) := by decide +kernel
theorem dX13_parent_5 : decode cX13_parent 5 = .ok (.ifCond .ne 10, 3) := by decide +kernel
theorem dX13_parent_8 : decode cX13_parent 8 = .ok (.iload_n 1, 1) := by decide +kernel
theorem dX13_parent_9 : decode cX13_parent 9 = .ok (.sipush 204, 3) := by decide +kernel
theorem dX13_parent_12 : decode cX13_parent 12 = .ok (.if_icmp .ne 8, 3) := by decide +kernel
theorem dX13_parent_15 : decode cX13_parent 15 = .ok (.bipush (-2), 2) := by decide +kernel
theorem dX13_parent_17 : decode cX13_parent 17 = .ok (.goto 30, 3) := by decide +kernel
theorem dX13_parent_20 : decode cX13_parent 20 = .ok (.aload_n 0, 1) := by decide +kernel
theorem dX13_parent_21 : decode cX13_parent 21 = .ok (.getfield 269, 3) := by decide +kernel
theorem dX13_parent_24 : decode cX13_parent 24 = .ok (.iload_n 1, 1) := by decide +kernel
theorem dX13_parent_25 : decode cX13_parent 25 = .ok (.laload, 1) := by decide +kernel
theorem dX13_parent_26 : decode cX13_parent 26 = .ok (.lconst 0, 1) := by decide +kernel
theorem dX13_parent_27 : decode cX13_parent 27 = .ok (.lcmp, 1) := by decide +kernel
theorem dX13_parent_28 : decode cX13_parent 28 = .ok (.ifCond .ne 9, 3) := by decide +kernel
theorem dX13_parent_31 : decode cX13_parent 31 = .ok (.sipush 204, 3) := by decide +kernel
theorem dX13_parent_34 : decode cX13_parent 34 = .ok (.goto 13, 3) := by decide +kernel
theorem dX13_parent_37 : decode cX13_parent 37 = .ok (.aload_n 0, 1) := by decide +kernel
theorem dX13_parent_38 : decode cX13_parent 38 = .ok (.aload_n 0, 1) := by decide +kernel
theorem dX13_parent_39 : decode cX13_parent 39 = .ok (.getfield 269, 3) := by decide +kernel
theorem dX13_parent_42 : decode cX13_parent 42 = .ok (.iload_n 1, 1) := by decide +kernel
theorem dX13_parent_43 : decode cX13_parent 43 = .ok (.laload, 1) := by decide +kernel
theorem dX13_parent_44 : decode cX13_parent 44 = .ok (.invokevirtual 551, 3) := by decide +kernel
theorem dX13_parent_47 : decode cX13_parent 47 = .ok (.ireturn, 1) := by decide +kernel
theorem dX13_stoodBefore_0 : decode cX13_stoodBefore 0 = .ok (.iconst 0, 1) := by decide +kernel
theorem dX13_stoodBefore_1 : decode cX13_stoodBefore 1 = .ok (.istore_n 3, 1) := by decide +kernel
theorem dX13_stoodBefore_2 : decode cX13_stoodBefore 2 = .ok (.iconst 0, 1) := by decide +kernel
theorem dX13_stoodBefore_3 : decode cX13_stoodBefore 3 = .ok (.istore 4, 2) := by decide +kernel
theorem dX13_stoodBefore_5 : decode cX13_stoodBefore 5 = .ok (.iload 4, 2) := by decide +kernel
theorem dX13_stoodBefore_7 : decode cX13_stoodBefore 7 = .ok (.iload_n 1, 1) := by decide +kernel
theorem dX13_stoodBefore_8 : decode cX13_stoodBefore 8 = .ok (.if_icmp .ge 27, 3) := by decide +kernel
theorem dX13_stoodBefore_11 : decode cX13_stoodBefore 11 = .ok (.iload_n 3, 1) := by decide +kernel
theorem dX13_stoodBefore_12 : decode cX13_stoodBefore 12 = .ok (.ifCond .ne 11, 3) := by decide +kernel
theorem dX13_stoodBefore_15 : decode cX13_stoodBefore 15 = .ok (.aload_n 0, 1) := by decide +kernel
theorem dX13_stoodBefore_16 : decode cX13_stoodBefore 16 = .ok (.iload 4, 2) := by decide +kernel
theorem dX13_stoodBefore_18 : decode cX13_stoodBefore 18 = .ok (.iaload, 1) := by decide +kernel
theorem dX13_stoodBefore_19 : decode cX13_stoodBefore 19 = .ok (.iload_n 2, 1) := by decide +kernel
theorem dX13_stoodBefore_20 : decode cX13_stoodBefore 20 = .ok (.if_icmp .ne 7, 3) := by decide +kernel
theorem dX13_stoodBefore_23 : decode cX13_stoodBefore 23 = .ok (.iconst 1, 1) := by decide +kernel
theorem dX13_stoodBefore_24 : decode cX13_stoodBefore 24 = .ok (.goto 4, 3) := by decide +kernel
theorem dX13_stoodBefore_27 : decode cX13_stoodBefore 27 = .ok (.iconst 0, 1) := by decide +kernel
theorem dX13_stoodBefore_28 : decode cX13_stoodBefore 28 = .ok (.istore_n 3, 1) := by decide +kernel
theorem dX13_stoodBefore_29 : decode cX13_stoodBefore 29 = .ok (.iinc 4 1, 3) := by decide +kernel
theorem dX13_stoodBefore_32 : decode cX13_stoodBefore 32 = .ok (.goto (-27), 3) := by decide +kernel
theorem dX13_stoodBefore_35 : decode cX13_stoodBefore 35 = .ok (.iload_n 3, 1) := by decide +kernel
theorem dX13_stoodBefore_36 : decode cX13_stoodBefore 36 = .ok (.ireturn, 1) := by decide +kernel
theorem dX13_parents_0 : decode cX13_parents 0 = .ok (.iconst 0, 1) := by decide +kernel
theorem dX13_parents_1 : decode cX13_parents 1 = .ok (.istore_n 3, 1) := by decide +kernel
theorem dX13_parents_2 : decode cX13_parents 2 = .ok (.iload_n 1, 1) := by decide +kernel
theorem dX13_parents_3 : decode cX13_parents 3 = .ok (.istore 4, 2) := by decide +kernel
theorem dX13_parents_5 : decode cX13_parents 5 = .ok (.iload 4, 2) := by decide +kernel
theorem dX13_parents_7 : decode cX13_parents 7 = .ok (.bipush (-2), 2) := by decide +kernel
theorem dX13_parents_9 : decode cX13_parents 9 = .ok (.if_icmp .eq 32, 3) := by decide +kernel
theorem dX13_parents_12 : decode cX13_parents 12 = .ok (.aload_n 2, 1) := by decide +kernel
theorem dX13_parents_13 : decode cX13_parents 13 = .ok (.iload_n 3, 1) := by decide +kernel
theorem dX13_parents_14 : decode cX13_parents 14 = .ok (.iload 4, 2) := by decide +kernel
theorem dX13_parents_16 : decode cX13_parents 16 = .ok (.invokestatic 554, 3) := by decide +kernel
theorem dX13_parents_19 : decode cX13_parents 19 = .ok (.ifCond .ne 22, 3) := by decide +kernel
theorem dX13_parents_22 : decode cX13_parents 22 = .ok (.aload_n 2, 1) := by decide +kernel
theorem dX13_parents_23 : decode cX13_parents 23 = .ok (.iload_n 3, 1) := by decide +kernel
theorem dX13_parents_24 : decode cX13_parents 24 = .ok (.iinc 3 1, 3) := by decide +kernel
theorem dX13_parents_27 : decode cX13_parents 27 = .ok (.iload 4, 2) := by decide +kernel
theorem dX13_parents_29 : decode cX13_parents 29 = .ok (.iastore, 1) := by decide +kernel
theorem dX13_parents_30 : decode cX13_parents 30 = .ok (.aload_n 0, 1) := by decide +kernel
theorem dX13_parents_31 : decode cX13_parents 31 = .ok (.iload 4, 2) := by decide +kernel
theorem dX13_parents_33 : decode cX13_parents 33 = .ok (.invokevirtual 558, 3) := by decide +kernel
theorem dX13_parents_36 : decode cX13_parents 36 = .ok (.istore 4, 2) := by decide +kernel
theorem dX13_parents_38 : decode cX13_parents 38 = .ok (.goto (-33), 3) := by decide +kernel
theorem dX13_parents_41 : decode cX13_parents 41 = .ok (.iload_n 3, 1) := by decide +kernel
theorem dX13_parents_42 : decode cX13_parents 42 = .ok (.ireturn, 1) := by decide +kernel
theorem dX13_newStamp_0 : decode cX13_newStamp 0 = .ok (.aload_n 0, 1) := by decide +kernel
theorem dX13_newStamp_1 : decode cX13_newStamp 1 = .ok (.getfield 561, 3) := by decide +kernel
theorem dX13_newStamp_4 : decode cX13_newStamp 4 = .ok (.ldc_w 566, 3) := by decide +kernel
theorem dX13_newStamp_7 : decode cX13_newStamp 7 = .ok (.if_icmp .ne 37, 3) := by decide +kernel
theorem dX13_newStamp_10 : decode cX13_newStamp 10 = .ok (.iconst 0, 1) := by decide +kernel
theorem dX13_newStamp_11 : decode cX13_newStamp 11 = .ok (.istore_n 1, 1) := by decide +kernel
theorem dX13_newStamp_12 : decode cX13_newStamp 12 = .ok (.iload_n 1, 1) := by decide +kernel
theorem dX13_newStamp_13 : decode cX13_newStamp 13 = .ok (.sipush 216, 3) := by decide +kernel
theorem dX13_newStamp_16 : decode cX13_newStamp 16 = .ok (.if_icmp .ge 23, 3) := by decide +kernel
theorem dX13_newStamp_19 : decode cX13_newStamp 19 = .ok (.aload_n 0, 1) := by decide +kernel
theorem dX13_newStamp_20 : decode cX13_newStamp 20 = .ok (.getfield 567, 3) := by decide +kernel
theorem dX13_newStamp_23 : decode cX13_newStamp 23 = .ok (.iload_n 1, 1) := by decide +kernel
theorem dX13_newStamp_24 : decode cX13_newStamp 24 = .ok (.iconst 0, 1) := by decide +kernel
theorem dX13_newStamp_25 : decode cX13_newStamp 25 = .ok (.iastore, 1) := by decide +kernel
theorem dX13_newStamp_26 : decode cX13_newStamp 26 = .ok (.aload_n 0, 1) := by decide +kernel
theorem dX13_newStamp_27 : decode cX13_newStamp 27 = .ok (.getfield 570, 3) := by decide +kernel
theorem dX13_newStamp_30 : decode cX13_newStamp 30 = .ok (.iload_n 1, 1) := by decide +kernel
theorem dX13_newStamp_31 : decode cX13_newStamp 31 = .ok (.iconst 0, 1) := by decide +kernel
theorem dX13_newStamp_32 : decode cX13_newStamp 32 = .ok (.iastore, 1) := by decide +kernel
theorem dX13_newStamp_33 : decode cX13_newStamp 33 = .ok (.iinc 1 1, 3) := by decide +kernel
theorem dX13_newStamp_36 : decode cX13_newStamp 36 = .ok (.goto (-24), 3) := by decide +kernel
theorem dX13_newStamp_39 : decode cX13_newStamp 39 = .ok (.aload_n 0, 1) := by decide +kernel
theorem dX13_newStamp_40 : decode cX13_newStamp 40 = .ok (.iconst 0, 1) := by decide +kernel
theorem dX13_newStamp_41 : decode cX13_newStamp 41 = .ok (.putfield 561, 3) := by decide +kernel
theorem dX13_newStamp_44 : decode cX13_newStamp 44 = .ok (.aload_n 0, 1) := by decide +kernel
theorem dX13_newStamp_45 : decode cX13_newStamp 45 = .ok (.dup, 1) := by decide +kernel
theorem dX13_newStamp_46 : decode cX13_newStamp 46 = .ok (.getfield 561, 3) := by decide +kernel
theorem dX13_newStamp_49 : decode cX13_newStamp 49 = .ok (.iconst 1, 1) := by decide +kernel
theorem dX13_newStamp_50 : decode cX13_newStamp 50 = .ok (.iadd, 1) := by decide +kernel
theorem dX13_newStamp_51 : decode cX13_newStamp 51 = .ok (.putfield 561, 3) := by decide +kernel
theorem dX13_newStamp_54 : decode cX13_newStamp 54 = .ok (.return_, 1) := by decide +kernel
theorem dX13_allFaces_0 : decode cX13_allFaces 0 = .ok (.aload_n 0, 1) := by decide +kernel
theorem dX13_allFaces_1 : decode cX13_allFaces 1 = .ok (.invokevirtual 573, 3) := by decide +kernel
theorem dX13_allFaces_4 : decode cX13_allFaces 4 = .ok (.iconst 0, 1) := by decide +kernel
theorem dX13_allFaces_5 : decode cX13_allFaces 5 = .ok (.istore_n 3, 1) := by decide +kernel
theorem dX13_allFaces_6 : decode cX13_allFaces 6 = .ok (.iconst 0, 1) := by decide +kernel
theorem dX13_allFaces_7 : decode cX13_allFaces 7 = .ok (.istore 4, 2) := by decide +kernel
theorem dX13_allFaces_9 : decode cX13_allFaces 9 = .ok (.aload_n 0, 1) := by decide +kernel
theorem dX13_allFaces_10 : decode cX13_allFaces 10 = .ok (.getfield 576, 3) := by decide +kernel
theorem dX13_allFaces_13 : decode cX13_allFaces 13 = .ok (.iload 4, 2) := by decide +kernel
theorem dX13_allFaces_15 : decode cX13_allFaces 15 = .ok (.iinc 4 1, 3) := by decide +kernel
theorem dX13_allFaces_18 : decode cX13_allFaces 18 = .ok (.iconst 2, 1) := by decide +kernel
theorem dX13_allFaces_19 : decode cX13_allFaces 19 = .ok (.iload_n 1, 1) := by decide +kernel
theorem dX13_allFaces_20 : decode cX13_allFaces 20 = .ok (.imul, 1) := by decide +kernel
theorem dX13_allFaces_21 : decode cX13_allFaces 21 = .ok (.iconst 1, 1) := by decide +kernel
theorem dX13_allFaces_22 : decode cX13_allFaces 22 = .ok (.iadd, 1) := by decide +kernel
theorem dX13_allFaces_23 : decode cX13_allFaces 23 = .ok (.iastore, 1) := by decide +kernel
theorem dX13_allFaces_24 : decode cX13_allFaces 24 = .ok (.iload 4, 2) := by decide +kernel
theorem dX13_allFaces_26 : decode cX13_allFaces 26 = .ok (.ifCond .le 201, 3) := by decide +kernel
theorem dX13_allFaces_29 : decode cX13_allFaces 29 = .ok (.iinc 4 (-1), 3) := by decide +kernel
theorem dX13_allFaces_32 : decode cX13_allFaces 32 = .ok (.aload_n 0, 1) := by decide +kernel
theorem dX13_allFaces_33 : decode cX13_allFaces 33 = .ok (.getfield 576, 3) := by decide +kernel
theorem dX13_allFaces_36 : decode cX13_allFaces 36 = .ok (.iload 4, 2) := by decide +kernel
theorem dX13_allFaces_38 : decode cX13_allFaces 38 = .ok (.iaload, 1) := by decide +kernel
theorem dX13_allFaces_39 : decode cX13_allFaces 39 = .ok (.iconst 2, 1) := by decide +kernel
theorem dX13_allFaces_40 : decode cX13_allFaces 40 = .ok (.idiv, 1) := by decide +kernel
theorem dX13_allFaces_41 : decode cX13_allFaces 41 = .ok (.istore 5, 2) := by decide +kernel
theorem dX13_allFaces_43 : decode cX13_allFaces 43 = .ok (.aload_n 0, 1) := by decide +kernel
theorem dX13_allFaces_44 : decode cX13_allFaces 44 = .ok (.getfield 576, 3) := by decide +kernel
theorem dX13_allFaces_47 : decode cX13_allFaces 47 = .ok (.iload 4, 2) := by decide +kernel
theorem dX13_allFaces_49 : decode cX13_allFaces 49 = .ok (.iaload, 1) := by decide +kernel
theorem dX13_allFaces_50 : decode cX13_allFaces 50 = .ok (.iconst 2, 1) := by decide +kernel
theorem dX13_allFaces_51 : decode cX13_allFaces 51 = .ok (.irem, 1) := by decide +kernel
theorem dX13_allFaces_52 : decode cX13_allFaces 52 = .ok (.ifCond .ne 55, 3) := by decide +kernel
theorem dX13_allFaces_55 : decode cX13_allFaces 55 = .ok (.aload_n 0, 1) := by decide +kernel
theorem dX13_allFaces_56 : decode cX13_allFaces 56 = .ok (.getfield 567, 3) := by decide +kernel
theorem dX13_allFaces_59 : decode cX13_allFaces 59 = .ok (.iload 5, 2) := by decide +kernel
theorem dX13_allFaces_61 : decode cX13_allFaces 61 = .ok (.iaload, 1) := by decide +kernel
theorem dX13_allFaces_62 : decode cX13_allFaces 62 = .ok (.aload_n 0, 1) := by decide +kernel
theorem dX13_allFaces_63 : decode cX13_allFaces 63 = .ok (.getfield 561, 3) := by decide +kernel
theorem dX13_allFaces_66 : decode cX13_allFaces 66 = .ok (.if_icmp .eq 158, 3) := by decide +kernel
theorem dX13_allFaces_69 : decode cX13_allFaces 69 = .ok (.aload_n 0, 1) := by decide +kernel
theorem dX13_allFaces_70 : decode cX13_allFaces 70 = .ok (.getfield 567, 3) := by decide +kernel
theorem dX13_allFaces_73 : decode cX13_allFaces 73 = .ok (.iload 5, 2) := by decide +kernel
theorem dX13_allFaces_75 : decode cX13_allFaces 75 = .ok (.aload_n 0, 1) := by decide +kernel
theorem dX13_allFaces_76 : decode cX13_allFaces 76 = .ok (.getfield 561, 3) := by decide +kernel
theorem dX13_allFaces_79 : decode cX13_allFaces 79 = .ok (.iastore, 1) := by decide +kernel
theorem dX13_allFaces_80 : decode cX13_allFaces 80 = .ok (.aload_n 2, 1) := by decide +kernel
theorem dX13_allFaces_81 : decode cX13_allFaces 81 = .ok (.iload_n 3, 1) := by decide +kernel
theorem dX13_allFaces_82 : decode cX13_allFaces 82 = .ok (.iinc 3 1, 3) := by decide +kernel
theorem dX13_allFaces_85 : decode cX13_allFaces 85 = .ok (.iload 5, 2) := by decide +kernel
theorem dX13_allFaces_87 : decode cX13_allFaces 87 = .ok (.iastore, 1) := by decide +kernel
theorem dX13_allFaces_88 : decode cX13_allFaces 88 = .ok (.aload_n 0, 1) := by decide +kernel
theorem dX13_allFaces_89 : decode cX13_allFaces 89 = .ok (.getfield 576, 3) := by decide +kernel
theorem dX13_allFaces_92 : decode cX13_allFaces 92 = .ok (.iload 4, 2) := by decide +kernel
theorem dX13_allFaces_94 : decode cX13_allFaces 94 = .ok (.iinc 4 1, 3) := by decide +kernel
theorem dX13_allFaces_97 : decode cX13_allFaces 97 = .ok (.iconst 2, 1) := by decide +kernel
theorem dX13_allFaces_98 : decode cX13_allFaces 98 = .ok (.iload 5, 2) := by decide +kernel
theorem dX13_allFaces_100 : decode cX13_allFaces 100 = .ok (.imul, 1) := by decide +kernel
theorem dX13_allFaces_101 : decode cX13_allFaces 101 = .ok (.iconst 1, 1) := by decide +kernel
theorem dX13_allFaces_102 : decode cX13_allFaces 102 = .ok (.iadd, 1) := by decide +kernel
theorem dX13_allFaces_103 : decode cX13_allFaces 103 = .ok (.iastore, 1) := by decide +kernel
theorem dX13_allFaces_104 : decode cX13_allFaces 104 = .ok (.goto 120, 3) := by decide +kernel
theorem dX13_allFaces_107 : decode cX13_allFaces 107 = .ok (.aload_n 0, 1) := by decide +kernel
theorem dX13_allFaces_108 : decode cX13_allFaces 108 = .ok (.getfield 570, 3) := by decide +kernel
theorem dX13_allFaces_111 : decode cX13_allFaces 111 = .ok (.iload 5, 2) := by decide +kernel
theorem dX13_allFaces_113 : decode cX13_allFaces 113 = .ok (.iaload, 1) := by decide +kernel
theorem dX13_allFaces_114 : decode cX13_allFaces 114 = .ok (.aload_n 0, 1) := by decide +kernel
theorem dX13_allFaces_115 : decode cX13_allFaces 115 = .ok (.getfield 561, 3) := by decide +kernel
theorem dX13_allFaces_118 : decode cX13_allFaces 118 = .ok (.if_icmp .eq 106, 3) := by decide +kernel
theorem dX13_allFaces_121 : decode cX13_allFaces 121 = .ok (.aload_n 0, 1) := by decide +kernel
theorem dX13_allFaces_122 : decode cX13_allFaces 122 = .ok (.getfield 570, 3) := by decide +kernel
theorem dX13_allFaces_125 : decode cX13_allFaces 125 = .ok (.iload 5, 2) := by decide +kernel
theorem dX13_allFaces_127 : decode cX13_allFaces 127 = .ok (.aload_n 0, 1) := by decide +kernel
theorem dX13_allFaces_128 : decode cX13_allFaces 128 = .ok (.getfield 561, 3) := by decide +kernel
theorem dX13_allFaces_131 : decode cX13_allFaces 131 = .ok (.iastore, 1) := by decide +kernel
theorem dX13_allFaces_132 : decode cX13_allFaces 132 = .ok (.aload_n 0, 1) := by decide +kernel
theorem dX13_allFaces_133 : decode cX13_allFaces 133 = .ok (.iload 5, 2) := by decide +kernel
theorem dX13_allFaces_135 : decode cX13_allFaces 135 = .ok (.invokevirtual 558, 3) := by decide +kernel
theorem dX13_allFaces_138 : decode cX13_allFaces 138 = .ok (.istore 6, 2) := by decide +kernel
theorem dX13_allFaces_140 : decode cX13_allFaces 140 = .ok (.iload 6, 2) := by decide +kernel
theorem dX13_allFaces_142 : decode cX13_allFaces 142 = .ok (.bipush (-2), 2) := by decide +kernel
theorem dX13_allFaces_144 : decode cX13_allFaces 144 = .ok (.if_icmp .eq 19, 3) := by decide +kernel
theorem dX13_allFaces_147 : decode cX13_allFaces 147 = .ok (.aload_n 0, 1) := by decide +kernel
theorem dX13_allFaces_148 : decode cX13_allFaces 148 = .ok (.getfield 576, 3) := by decide +kernel
theorem dX13_allFaces_151 : decode cX13_allFaces 151 = .ok (.iload 4, 2) := by decide +kernel
theorem dX13_allFaces_153 : decode cX13_allFaces 153 = .ok (.iinc 4 1, 3) := by decide +kernel
theorem dX13_allFaces_156 : decode cX13_allFaces 156 = .ok (.iconst 2, 1) := by decide +kernel
theorem dX13_allFaces_157 : decode cX13_allFaces 157 = .ok (.iload 6, 2) := by decide +kernel
theorem dX13_allFaces_159 : decode cX13_allFaces 159 = .ok (.imul, 1) := by decide +kernel
theorem dX13_allFaces_160 : decode cX13_allFaces 160 = .ok (.iconst 1, 1) := by decide +kernel
theorem dX13_allFaces_161 : decode cX13_allFaces 161 = .ok (.iadd, 1) := by decide +kernel
theorem dX13_allFaces_162 : decode cX13_allFaces 162 = .ok (.iastore, 1) := by decide +kernel
theorem dX13_allFaces_163 : decode cX13_allFaces 163 = .ok (.aload_n 0, 1) := by decide +kernel
theorem dX13_allFaces_164 : decode cX13_allFaces 164 = .ok (.getfield 283, 3) := by decide +kernel
theorem dX13_allFaces_167 : decode cX13_allFaces 167 = .ok (.iload 5, 2) := by decide +kernel
theorem dX13_allFaces_169 : decode cX13_allFaces 169 = .ok (.iaload, 1) := by decide +kernel
theorem dX13_allFaces_170 : decode cX13_allFaces 170 = .ok (.iconst 1, 1) := by decide +kernel
theorem dX13_allFaces_171 : decode cX13_allFaces 171 = .ok (.isub, 1) := by decide +kernel
theorem dX13_allFaces_172 : decode cX13_allFaces 172 = .ok (.istore 7, 2) := by decide +kernel
theorem dX13_allFaces_174 : decode cX13_allFaces 174 = .ok (.iload 7, 2) := by decide +kernel
theorem dX13_allFaces_176 : decode cX13_allFaces 176 = .ok (.ifCond .lt 48, 3) := by decide +kernel
theorem dX13_allFaces_179 : decode cX13_allFaces 179 = .ok (.aload_n 0, 1) := by decide +kernel
theorem dX13_allFaces_180 : decode cX13_allFaces 180 = .ok (.aload_n 0, 1) := by decide +kernel
theorem dX13_allFaces_181 : decode cX13_allFaces 181 = .ok (.getfield 288, 3) := by decide +kernel
theorem dX13_allFaces_184 : decode cX13_allFaces 184 = .ok (.iconst 4, 1) := by decide +kernel
theorem dX13_allFaces_185 : decode cX13_allFaces 185 = .ok (.iload 5, 2) := by decide +kernel
theorem dX13_allFaces_187 : decode cX13_allFaces 187 = .ok (.imul, 1) := by decide +kernel
theorem dX13_allFaces_188 : decode cX13_allFaces 188 = .ok (.iload 7, 2) := by decide +kernel
theorem dX13_allFaces_190 : decode cX13_allFaces 190 = .ok (.iadd, 1) := by decide +kernel
theorem dX13_allFaces_191 : decode cX13_allFaces 191 = .ok (.laload, 1) := by decide +kernel
theorem dX13_allFaces_192 : decode cX13_allFaces 192 = .ok (.invokevirtual 551, 3) := by decide +kernel
theorem dX13_allFaces_195 : decode cX13_allFaces 195 = .ok (.istore 8, 2) := by decide +kernel
theorem dX13_allFaces_197 : decode cX13_allFaces 197 = .ok (.iload 8, 2) := by decide +kernel
theorem dX13_allFaces_199 : decode cX13_allFaces 199 = .ok (.bipush (-2), 2) := by decide +kernel
theorem dX13_allFaces_201 : decode cX13_allFaces 201 = .ok (.if_icmp .eq 17, 3) := by decide +kernel
theorem dX13_allFaces_204 : decode cX13_allFaces 204 = .ok (.aload_n 0, 1) := by decide +kernel
theorem dX13_allFaces_205 : decode cX13_allFaces 205 = .ok (.getfield 576, 3) := by decide +kernel
theorem dX13_allFaces_208 : decode cX13_allFaces 208 = .ok (.iload 4, 2) := by decide +kernel
theorem dX13_allFaces_210 : decode cX13_allFaces 210 = .ok (.iinc 4 1, 3) := by decide +kernel
theorem dX13_allFaces_213 : decode cX13_allFaces 213 = .ok (.iconst 2, 1) := by decide +kernel
theorem dX13_allFaces_214 : decode cX13_allFaces 214 = .ok (.iload 8, 2) := by decide +kernel
theorem dX13_allFaces_216 : decode cX13_allFaces 216 = .ok (.imul, 1) := by decide +kernel
theorem dX13_allFaces_217 : decode cX13_allFaces 217 = .ok (.iastore, 1) := by decide +kernel
theorem dX13_allFaces_218 : decode cX13_allFaces 218 = .ok (.iinc 7 (-1), 3) := by decide +kernel
theorem dX13_allFaces_221 : decode cX13_allFaces 221 = .ok (.goto (-47), 3) := by decide +kernel
theorem dX13_allFaces_224 : decode cX13_allFaces 224 = .ok (.goto (-200), 3) := by decide +kernel
theorem dX13_allFaces_227 : decode cX13_allFaces 227 = .ok (.iload_n 3, 1) := by decide +kernel
theorem dX13_allFaces_228 : decode cX13_allFaces 228 = .ok (.ireturn, 1) := by decide +kernel
theorem dX13_isHeir_0 : decode cX13_isHeir 0 = .ok (.aload_n 0, 1) := by decide +kernel
theorem dX13_isHeir_1 : decode cX13_isHeir 1 = .ok (.invokevirtual 573, 3) := by decide +kernel
theorem dX13_isHeir_4 : decode cX13_isHeir 4 = .ok (.iconst 0, 1) := by decide +kernel
theorem dX13_isHeir_5 : decode cX13_isHeir 5 = .ok (.istore_n 3, 1) := by decide +kernel
theorem dX13_isHeir_6 : decode cX13_isHeir 6 = .ok (.aload_n 0, 1) := by decide +kernel
theorem dX13_isHeir_7 : decode cX13_isHeir 7 = .ok (.getfield 576, 3) := by decide +kernel
theorem dX13_isHeir_10 : decode cX13_isHeir 10 = .ok (.iload_n 3, 1) := by decide +kernel
theorem dX13_isHeir_11 : decode cX13_isHeir 11 = .ok (.iinc 3 1, 3) := by decide +kernel
theorem dX13_isHeir_14 : decode cX13_isHeir 14 = .ok (.iload_n 1, 1) := by decide +kernel
theorem dX13_isHeir_15 : decode cX13_isHeir 15 = .ok (.iastore, 1) := by decide +kernel
theorem dX13_isHeir_16 : decode cX13_isHeir 16 = .ok (.iconst 0, 1) := by decide +kernel
theorem dX13_isHeir_17 : decode cX13_isHeir 17 = .ok (.istore 4, 2) := by decide +kernel
theorem dX13_isHeir_19 : decode cX13_isHeir 19 = .ok (.iload_n 3, 1) := by decide +kernel
theorem dX13_isHeir_20 : decode cX13_isHeir 20 = .ok (.ifCond .le 168, 3) := by decide +kernel
theorem dX13_isHeir_23 : decode cX13_isHeir 23 = .ok (.iload 4, 2) := by decide +kernel
theorem dX13_isHeir_25 : decode cX13_isHeir 25 = .ok (.ifCond .ne 163, 3) := by decide +kernel
theorem dX13_isHeir_28 : decode cX13_isHeir 28 = .ok (.iinc 3 (-1), 3) := by decide +kernel
theorem dX13_isHeir_31 : decode cX13_isHeir 31 = .ok (.aload_n 0, 1) := by decide +kernel
theorem dX13_isHeir_32 : decode cX13_isHeir 32 = .ok (.getfield 576, 3) := by decide +kernel
theorem dX13_isHeir_35 : decode cX13_isHeir 35 = .ok (.iload_n 3, 1) := by decide +kernel
theorem dX13_isHeir_36 : decode cX13_isHeir 36 = .ok (.iaload, 1) := by decide +kernel
theorem dX13_isHeir_37 : decode cX13_isHeir 37 = .ok (.istore 5, 2) := by decide +kernel
theorem dX13_isHeir_39 : decode cX13_isHeir 39 = .ok (.aload_n 0, 1) := by decide +kernel
theorem dX13_isHeir_40 : decode cX13_isHeir 40 = .ok (.getfield 570, 3) := by decide +kernel
theorem dX13_isHeir_43 : decode cX13_isHeir 43 = .ok (.iload 5, 2) := by decide +kernel
theorem dX13_isHeir_45 : decode cX13_isHeir 45 = .ok (.iaload, 1) := by decide +kernel
theorem dX13_isHeir_46 : decode cX13_isHeir 46 = .ok (.aload_n 0, 1) := by decide +kernel
theorem dX13_isHeir_47 : decode cX13_isHeir 47 = .ok (.getfield 561, 3) := by decide +kernel
theorem dX13_isHeir_50 : decode cX13_isHeir 50 = .ok (.if_icmp .eq 135, 3) := by decide +kernel
theorem dX13_isHeir_53 : decode cX13_isHeir 53 = .ok (.aload_n 0, 1) := by decide +kernel
theorem dX13_isHeir_54 : decode cX13_isHeir 54 = .ok (.getfield 570, 3) := by decide +kernel
theorem dX13_isHeir_57 : decode cX13_isHeir 57 = .ok (.iload 5, 2) := by decide +kernel
theorem dX13_isHeir_59 : decode cX13_isHeir 59 = .ok (.aload_n 0, 1) := by decide +kernel
theorem dX13_isHeir_60 : decode cX13_isHeir 60 = .ok (.getfield 561, 3) := by decide +kernel
theorem dX13_isHeir_63 : decode cX13_isHeir 63 = .ok (.iastore, 1) := by decide +kernel
theorem dX13_isHeir_64 : decode cX13_isHeir 64 = .ok (.aload_n 0, 1) := by decide +kernel
theorem dX13_isHeir_65 : decode cX13_isHeir 65 = .ok (.iload 5, 2) := by decide +kernel
theorem dX13_isHeir_67 : decode cX13_isHeir 67 = .ok (.invokevirtual 558, 3) := by decide +kernel
theorem dX13_isHeir_70 : decode cX13_isHeir 70 = .ok (.istore 6, 2) := by decide +kernel
theorem dX13_isHeir_72 : decode cX13_isHeir 72 = .ok (.iload 6, 2) := by decide +kernel
theorem dX13_isHeir_74 : decode cX13_isHeir 74 = .ok (.iload_n 2, 1) := by decide +kernel
theorem dX13_isHeir_75 : decode cX13_isHeir 75 = .ok (.if_icmp .ne 7, 3) := by decide +kernel
theorem dX13_isHeir_78 : decode cX13_isHeir 78 = .ok (.iconst 1, 1) := by decide +kernel
theorem dX13_isHeir_79 : decode cX13_isHeir 79 = .ok (.goto 4, 3) := by decide +kernel
theorem dX13_isHeir_82 : decode cX13_isHeir 82 = .ok (.iconst 0, 1) := by decide +kernel
theorem dX13_isHeir_83 : decode cX13_isHeir 83 = .ok (.istore 4, 2) := by decide +kernel
theorem dX13_isHeir_85 : decode cX13_isHeir 85 = .ok (.iload 6, 2) := by decide +kernel
theorem dX13_isHeir_87 : decode cX13_isHeir 87 = .ok (.bipush (-2), 2) := by decide +kernel
theorem dX13_isHeir_89 : decode cX13_isHeir 89 = .ok (.if_icmp .eq 14, 3) := by decide +kernel
theorem dX13_isHeir_92 : decode cX13_isHeir 92 = .ok (.aload_n 0, 1) := by decide +kernel
theorem dX13_isHeir_93 : decode cX13_isHeir 93 = .ok (.getfield 576, 3) := by decide +kernel
theorem dX13_isHeir_96 : decode cX13_isHeir 96 = .ok (.iload_n 3, 1) := by decide +kernel
theorem dX13_isHeir_97 : decode cX13_isHeir 97 = .ok (.iinc 3 1, 3) := by decide +kernel
theorem dX13_isHeir_100 : decode cX13_isHeir 100 = .ok (.iload 6, 2) := by decide +kernel
theorem dX13_isHeir_102 : decode cX13_isHeir 102 = .ok (.iastore, 1) := by decide +kernel
theorem dX13_isHeir_103 : decode cX13_isHeir 103 = .ok (.iconst 0, 1) := by decide +kernel
theorem dX13_isHeir_104 : decode cX13_isHeir 104 = .ok (.istore 7, 2) := by decide +kernel
theorem dX13_isHeir_106 : decode cX13_isHeir 106 = .ok (.iload 7, 2) := by decide +kernel
theorem dX13_isHeir_108 : decode cX13_isHeir 108 = .ok (.aload_n 0, 1) := by decide +kernel
theorem dX13_isHeir_109 : decode cX13_isHeir 109 = .ok (.getfield 283, 3) := by decide +kernel
theorem dX13_isHeir_112 : decode cX13_isHeir 112 = .ok (.iload 5, 2) := by decide +kernel
theorem dX13_isHeir_114 : decode cX13_isHeir 114 = .ok (.iaload, 1) := by decide +kernel
theorem dX13_isHeir_115 : decode cX13_isHeir 115 = .ok (.if_icmp .ge 70, 3) := by decide +kernel
theorem dX13_isHeir_118 : decode cX13_isHeir 118 = .ok (.aload_n 0, 1) := by decide +kernel
theorem dX13_isHeir_119 : decode cX13_isHeir 119 = .ok (.aload_n 0, 1) := by decide +kernel
theorem dX13_isHeir_120 : decode cX13_isHeir 120 = .ok (.getfield 288, 3) := by decide +kernel
theorem dX13_isHeir_123 : decode cX13_isHeir 123 = .ok (.iconst 4, 1) := by decide +kernel
theorem dX13_isHeir_124 : decode cX13_isHeir 124 = .ok (.iload 5, 2) := by decide +kernel
theorem dX13_isHeir_126 : decode cX13_isHeir 126 = .ok (.imul, 1) := by decide +kernel
theorem dX13_isHeir_127 : decode cX13_isHeir 127 = .ok (.iload 7, 2) := by decide +kernel
theorem dX13_isHeir_129 : decode cX13_isHeir 129 = .ok (.iadd, 1) := by decide +kernel
theorem dX13_isHeir_130 : decode cX13_isHeir 130 = .ok (.laload, 1) := by decide +kernel
theorem dX13_isHeir_131 : decode cX13_isHeir 131 = .ok (.invokevirtual 551, 3) := by decide +kernel
theorem dX13_isHeir_134 : decode cX13_isHeir 134 = .ok (.istore 8, 2) := by decide +kernel
theorem dX13_isHeir_136 : decode cX13_isHeir 136 = .ok (.iload 4, 2) := by decide +kernel
theorem dX13_isHeir_138 : decode cX13_isHeir 138 = .ok (.ifCond .ne 16, 3) := by decide +kernel
theorem dX13_isHeir_141 : decode cX13_isHeir 141 = .ok (.iload 8, 2) := by decide +kernel
theorem dX13_isHeir_143 : decode cX13_isHeir 143 = .ok (.iload_n 2, 1) := by decide +kernel
theorem dX13_isHeir_144 : decode cX13_isHeir 144 = .ok (.if_icmp .ne 14, 3) := by decide +kernel
theorem dX13_isHeir_147 : decode cX13_isHeir 147 = .ok (.iload 8, 2) := by decide +kernel
theorem dX13_isHeir_149 : decode cX13_isHeir 149 = .ok (.bipush (-2), 2) := by decide +kernel
theorem dX13_isHeir_151 : decode cX13_isHeir 151 = .ok (.if_icmp .eq 7, 3) := by decide +kernel
theorem dX13_isHeir_154 : decode cX13_isHeir 154 = .ok (.iconst 1, 1) := by decide +kernel
theorem dX13_isHeir_155 : decode cX13_isHeir 155 = .ok (.goto 4, 3) := by decide +kernel
theorem dX13_isHeir_158 : decode cX13_isHeir 158 = .ok (.iconst 0, 1) := by decide +kernel
theorem dX13_isHeir_159 : decode cX13_isHeir 159 = .ok (.istore 4, 2) := by decide +kernel
theorem dX13_isHeir_161 : decode cX13_isHeir 161 = .ok (.iload 8, 2) := by decide +kernel
theorem dX13_isHeir_163 : decode cX13_isHeir 163 = .ok (.bipush (-2), 2) := by decide +kernel
theorem dX13_isHeir_165 : decode cX13_isHeir 165 = .ok (.if_icmp .eq 14, 3) := by decide +kernel
theorem dX13_isHeir_168 : decode cX13_isHeir 168 = .ok (.aload_n 0, 1) := by decide +kernel
theorem dX13_isHeir_169 : decode cX13_isHeir 169 = .ok (.getfield 576, 3) := by decide +kernel
theorem dX13_isHeir_172 : decode cX13_isHeir 172 = .ok (.iload_n 3, 1) := by decide +kernel
theorem dX13_isHeir_173 : decode cX13_isHeir 173 = .ok (.iinc 3 1, 3) := by decide +kernel
theorem dX13_isHeir_176 : decode cX13_isHeir 176 = .ok (.iload 8, 2) := by decide +kernel
theorem dX13_isHeir_178 : decode cX13_isHeir 178 = .ok (.iastore, 1) := by decide +kernel
theorem dX13_isHeir_179 : decode cX13_isHeir 179 = .ok (.iinc 7 1, 3) := by decide +kernel
theorem dX13_isHeir_182 : decode cX13_isHeir 182 = .ok (.goto (-76), 3) := by decide +kernel
theorem dX13_isHeir_185 : decode cX13_isHeir 185 = .ok (.goto (-166), 3) := by decide +kernel
theorem dX13_isHeir_188 : decode cX13_isHeir 188 = .ok (.iload 4, 2) := by decide +kernel
theorem dX13_isHeir_190 : decode cX13_isHeir 190 = .ok (.ireturn, 1) := by decide +kernel
theorem dX13_fits_0 : decode cX13_fits 0 = .ok (.lload_n 1, 1) := by decide +kernel
theorem dX13_fits_1 : decode cX13_fits 1 = .ok (.lconst 1, 1) := by decide +kernel
theorem dX13_fits_2 : decode cX13_fits 2 = .ok (.lcmp, 1) := by decide +kernel
theorem dX13_fits_3 : decode cX13_fits 3 = .ok (.ifCond .eq 9, 3) := by decide +kernel
theorem dX13_fits_6 : decode cX13_fits 6 = .ok (.lload_n 3, 1) := by decide +kernel
theorem dX13_fits_7 : decode cX13_fits 7 = .ok (.lconst 1, 1) := by decide +kernel
theorem dX13_fits_8 : decode cX13_fits 8 = .ok (.lcmp, 1) := by decide +kernel
theorem dX13_fits_9 : decode cX13_fits 9 = .ok (.ifCond .ne 5, 3) := by decide +kernel
theorem dX13_fits_12 : decode cX13_fits 12 = .ok (.iconst 0, 1) := by decide +kernel
theorem dX13_fits_13 : decode cX13_fits 13 = .ok (.ireturn, 1) := by decide +kernel
theorem dX13_fits_14 : decode cX13_fits 14 = .ok (.lload_n 1, 1) := by decide +kernel
theorem dX13_fits_15 : decode cX13_fits 15 = .ok (.lload_n 3, 1) := by decide +kernel
theorem dX13_fits_16 : decode cX13_fits 16 = .ok (.lcmp, 1) := by decide +kernel
theorem dX13_fits_17 : decode cX13_fits 17 = .ok (.ifCond .ne 5, 3) := by decide +kernel
theorem dX13_fits_20 : decode cX13_fits 20 = .ok (.iconst 1, 1) := by decide +kernel
theorem dX13_fits_21 : decode cX13_fits 21 = .ok (.ireturn, 1) := by decide +kernel
theorem dX13_fits_22 : decode cX13_fits 22 = .ok (.lload_n 1, 1) := by decide +kernel
theorem dX13_fits_23 : decode cX13_fits 23 = .ok (.ldc2_w 579, 3) := by decide +kernel
theorem dX13_fits_26 : decode cX13_fits 26 = .ok (.lcmp, 1) := by decide +kernel
theorem dX13_fits_27 : decode cX13_fits 27 = .ok (.ifCond .eq 17, 3) := by decide +kernel
theorem dX13_fits_30 : decode cX13_fits 30 = .ok (.lload_n 1, 1) := by decide +kernel
theorem dX13_fits_31 : decode cX13_fits 31 = .ok (.invokestatic 37, 3) := by decide +kernel
theorem dX13_fits_34 : decode cX13_fits 34 = .ok (.ifCond .eq 10, 3) := by decide +kernel
theorem dX13_fits_37 : decode cX13_fits 37 = .ok (.lload_n 3, 1) := by decide +kernel
theorem dX13_fits_38 : decode cX13_fits 38 = .ok (.invokestatic 37, 3) := by decide +kernel
theorem dX13_fits_41 : decode cX13_fits 41 = .ok (.ifCond .ne 24, 3) := by decide +kernel
theorem dX13_fits_44 : decode cX13_fits 44 = .ok (.lload_n 1, 1) := by decide +kernel
theorem dX13_fits_45 : decode cX13_fits 45 = .ok (.ldc2_w 579, 3) := by decide +kernel
theorem dX13_fits_48 : decode cX13_fits 48 = .ok (.lcmp, 1) := by decide +kernel
theorem dX13_fits_49 : decode cX13_fits 49 = .ok (.ifCond .ne 14, 3) := by decide +kernel
theorem dX13_fits_52 : decode cX13_fits 52 = .ok (.lload_n 3, 1) := by decide +kernel
theorem dX13_fits_53 : decode cX13_fits 53 = .ok (.invokestatic 37, 3) := by decide +kernel
theorem dX13_fits_56 : decode cX13_fits 56 = .ok (.ifCond .eq 7, 3) := by decide +kernel
theorem dX13_fits_59 : decode cX13_fits 59 = .ok (.iconst 1, 1) := by decide +kernel
theorem dX13_fits_60 : decode cX13_fits 60 = .ok (.goto 4, 3) := by decide +kernel
theorem dX13_fits_63 : decode cX13_fits 63 = .ok (.iconst 0, 1) := by decide +kernel
theorem dX13_fits_64 : decode cX13_fits 64 = .ok (.ireturn, 1) := by decide +kernel
theorem dX13_fits_65 : decode cX13_fits 65 = .ok (.aload_n 0, 1) := by decide +kernel
theorem dX13_fits_66 : decode cX13_fits 66 = .ok (.lload_n 1, 1) := by decide +kernel
theorem dX13_fits_67 : decode cX13_fits 67 = .ok (.invokevirtual 551, 3) := by decide +kernel
theorem dX13_fits_70 : decode cX13_fits 70 = .ok (.istore 5, 2) := by decide +kernel
theorem dX13_fits_72 : decode cX13_fits 72 = .ok (.aload_n 0, 1) := by decide +kernel
theorem dX13_fits_73 : decode cX13_fits 73 = .ok (.lload_n 3, 1) := by decide +kernel
theorem dX13_fits_74 : decode cX13_fits 74 = .ok (.invokevirtual 551, 3) := by decide +kernel
theorem dX13_fits_77 : decode cX13_fits 77 = .ok (.istore 6, 2) := by decide +kernel
theorem dX13_fits_79 : decode cX13_fits 79 = .ok (.iload 5, 2) := by decide +kernel
theorem dX13_fits_81 : decode cX13_fits 81 = .ok (.bipush (-2), 2) := by decide +kernel
theorem dX13_fits_83 : decode cX13_fits 83 = .ok (.if_icmp .eq 42, 3) := by decide +kernel
theorem dX13_fits_86 : decode cX13_fits 86 = .ok (.iload 6, 2) := by decide +kernel
theorem dX13_fits_88 : decode cX13_fits 88 = .ok (.bipush (-2), 2) := by decide +kernel
theorem dX13_fits_90 : decode cX13_fits 90 = .ok (.if_icmp .eq 35, 3) := by decide +kernel
theorem dX13_fits_93 : decode cX13_fits 93 = .ok (.iload 6, 2) := by decide +kernel
theorem dX13_fits_95 : decode cX13_fits 95 = .ok (.sipush 204, 3) := by decide +kernel
theorem dX13_fits_98 : decode cX13_fits 98 = .ok (.if_icmp .ne 12, 3) := by decide +kernel
theorem dX13_fits_101 : decode cX13_fits 101 = .ok (.aload_n 0, 1) := by decide +kernel
theorem dX13_fits_102 : decode cX13_fits 102 = .ok (.iload 5, 2) := by decide +kernel
theorem dX13_fits_104 : decode cX13_fits 104 = .ok (.invokevirtual 548, 3) := by decide +kernel
theorem dX13_fits_107 : decode cX13_fits 107 = .ok (.ifCond .ne 14, 3) := by decide +kernel
theorem dX13_fits_110 : decode cX13_fits 110 = .ok (.aload_n 0, 1) := by decide +kernel
theorem dX13_fits_111 : decode cX13_fits 111 = .ok (.iload 5, 2) := by decide +kernel
theorem dX13_fits_113 : decode cX13_fits 113 = .ok (.iload 6, 2) := by decide +kernel
theorem dX13_fits_115 : decode cX13_fits 115 = .ok (.invokevirtual 581, 3) := by decide +kernel
theorem dX13_fits_118 : decode cX13_fits 118 = .ok (.ifCond .eq 7, 3) := by decide +kernel
theorem dX13_fits_121 : decode cX13_fits 121 = .ok (.iconst 1, 1) := by decide +kernel
theorem dX13_fits_122 : decode cX13_fits 122 = .ok (.goto 4, 3) := by decide +kernel
theorem dX13_fits_125 : decode cX13_fits 125 = .ok (.iconst 0, 1) := by decide +kernel
theorem dX13_fits_126 : decode cX13_fits 126 = .ok (.ireturn, 1) := by decide +kernel
theorem dX13_isLet_0 : decode cX13_isLet 0 = .ok (.aload_n 0, 1) := by decide +kernel
theorem dX13_isLet_1 : decode cX13_isLet 1 = .ok (.getfield 262, 3) := by decide +kernel
theorem dX13_isLet_4 : decode cX13_isLet 4 = .ok (.iload_n 1, 1) := by decide +kernel
theorem dX13_isLet_5 : decode cX13_isLet 5 = .ok (.baload, 1) := by decide +kernel
theorem dX13_isLet_6 : decode cX13_isLet 6 = .ok (.ifCond .ne 12, 3) := by decide +kernel
theorem dX13_isLet_9 : decode cX13_isLet 9 = .ok (.aload_n 0, 1) := by decide +kernel
theorem dX13_isLet_10 : decode cX13_isLet 10 = .ok (.iload_n 1, 1) := by decide +kernel
theorem dX13_isLet_11 : decode cX13_isLet 11 = .ok (.iload_n 2, 1) := by decide +kernel
theorem dX13_isLet_12 : decode cX13_isLet 12 = .ok (.invokevirtual 585, 3) := by decide +kernel
theorem dX13_isLet_15 : decode cX13_isLet 15 = .ok (.ifCond .eq 7, 3) := by decide +kernel
theorem dX13_isLet_18 : decode cX13_isLet 18 = .ok (.iconst 1, 1) := by decide +kernel
theorem dX13_isLet_19 : decode cX13_isLet 19 = .ok (.goto 4, 3) := by decide +kernel
theorem dX13_isLet_22 : decode cX13_isLet 22 = .ok (.iconst 0, 1) := by decide +kernel
theorem dX13_isLet_23 : decode cX13_isLet 23 = .ok (.ireturn, 1) := by decide +kernel
theorem dX13_stands_0 : decode cX13_stands 0 = .ok (.iconst 0, 1) := by decide +kernel
theorem dX13_stands_1 : decode cX13_stands 1 = .ok (.istore 5, 2) := by decide +kernel
theorem dX13_stands_3 : decode cX13_stands 3 = .ok (.iconst 0, 1) := by decide +kernel
theorem dX13_stands_4 : decode cX13_stands 4 = .ok (.istore 6, 2) := by decide +kernel
theorem dX13_stands_6 : decode cX13_stands 6 = .ok (.iload 6, 2) := by decide +kernel
theorem dX13_stands_8 : decode cX13_stands 8 = .ok (.iload_n 2, 1) := by decide +kernel
theorem dX13_stands_9 : decode cX13_stands 9 = .ok (.if_icmp .ge 32, 3) := by decide +kernel
theorem dX13_stands_12 : decode cX13_stands 12 = .ok (.iload 5, 2) := by decide +kernel
theorem dX13_stands_14 : decode cX13_stands 14 = .ok (.ifCond .ne 14, 3) := by decide +kernel
theorem dX13_stands_17 : decode cX13_stands 17 = .ok (.aload_n 0, 1) := by decide +kernel
theorem dX13_stands_18 : decode cX13_stands 18 = .ok (.iload_n 1, 1) := by decide +kernel
theorem dX13_stands_19 : decode cX13_stands 19 = .ok (.iload 6, 2) := by decide +kernel
theorem dX13_stands_21 : decode cX13_stands 21 = .ok (.iadd, 1) := by decide +kernel
theorem dX13_stands_22 : decode cX13_stands 22 = .ok (.laload, 1) := by decide +kernel
theorem dX13_stands_23 : decode cX13_stands 23 = .ok (.lload_n 3, 1) := by decide +kernel
theorem dX13_stands_24 : decode cX13_stands 24 = .ok (.lcmp, 1) := by decide +kernel
theorem dX13_stands_25 : decode cX13_stands 25 = .ok (.ifCond .ne 7, 3) := by decide +kernel
theorem dX13_stands_28 : decode cX13_stands 28 = .ok (.iconst 1, 1) := by decide +kernel
theorem dX13_stands_29 : decode cX13_stands 29 = .ok (.goto 4, 3) := by decide +kernel
theorem dX13_stands_32 : decode cX13_stands 32 = .ok (.iconst 0, 1) := by decide +kernel
theorem dX13_stands_33 : decode cX13_stands 33 = .ok (.istore 5, 2) := by decide +kernel
theorem dX13_stands_35 : decode cX13_stands 35 = .ok (.iinc 6 1, 3) := by decide +kernel
theorem dX13_stands_38 : decode cX13_stands 38 = .ok (.goto (-32), 3) := by decide +kernel
theorem dX13_stands_41 : decode cX13_stands 41 = .ok (.iload 5, 2) := by decide +kernel
theorem dX13_stands_43 : decode cX13_stands 43 = .ok (.ireturn, 1) := by decide +kernel
theorem dX13_nest_0 : decode cX13_nest 0 = .ok (.aload_n 0, 1) := by decide +kernel
theorem dX13_nest_1 : decode cX13_nest 1 = .ok (.getfield 272, 3) := by decide +kernel
theorem dX13_nest_4 : decode cX13_nest 4 = .ok (.iload_n 1, 1) := by decide +kernel
theorem dX13_nest_5 : decode cX13_nest 5 = .ok (.laload, 1) := by decide +kernel
theorem dX13_nest_6 : decode cX13_nest 6 = .ok (.lconst 0, 1) := by decide +kernel
theorem dX13_nest_7 : decode cX13_nest 7 = .ok (.lcmp, 1) := by decide +kernel
theorem dX13_nest_8 : decode cX13_nest 8 = .ok (.ifCond .ne 8, 3) := by decide +kernel
theorem dX13_nest_11 : decode cX13_nest 11 = .ok (.bipush (-2), 2) := by decide +kernel
theorem dX13_nest_13 : decode cX13_nest 13 = .ok (.goto 13, 3) := by decide +kernel
theorem dX13_nest_16 : decode cX13_nest 16 = .ok (.aload_n 0, 1) := by decide +kernel
theorem dX13_nest_17 : decode cX13_nest 17 = .ok (.aload_n 0, 1) := by decide +kernel
theorem dX13_nest_18 : decode cX13_nest 18 = .ok (.getfield 272, 3) := by decide +kernel
theorem dX13_nest_21 : decode cX13_nest 21 = .ok (.iload_n 1, 1) := by decide +kernel
theorem dX13_nest_22 : decode cX13_nest 22 = .ok (.laload, 1) := by decide +kernel
theorem dX13_nest_23 : decode cX13_nest 23 = .ok (.invokevirtual 551, 3) := by decide +kernel
theorem dX13_nest_26 : decode cX13_nest 26 = .ok (.istore_n 2, 1) := by decide +kernel
theorem dX13_nest_27 : decode cX13_nest 27 = .ok (.iload_n 2, 1) := by decide +kernel
theorem dX13_nest_28 : decode cX13_nest 28 = .ok (.bipush (-2), 2) := by decide +kernel
theorem dX13_nest_30 : decode cX13_nest 30 = .ok (.if_icmp .eq 18, 3) := by decide +kernel
theorem dX13_nest_33 : decode cX13_nest 33 = .ok (.aload_n 0, 1) := by decide +kernel
theorem dX13_nest_34 : decode cX13_nest 34 = .ok (.getfield 588, 3) := by decide +kernel
theorem dX13_nest_37 : decode cX13_nest 37 = .ok (.ifCond .eq 13, 3) := by decide +kernel
theorem dX13_nest_40 : decode cX13_nest 40 = .ok (.aload_n 0, 1) := by decide +kernel
theorem dX13_nest_41 : decode cX13_nest 41 = .ok (.iload_n 2, 1) := by decide +kernel
theorem dX13_nest_42 : decode cX13_nest 42 = .ok (.invokevirtual 592, 3) := by decide +kernel
theorem dX13_nest_45 : decode cX13_nest 45 = .ok (.ifCond .eq 5, 3) := by decide +kernel
theorem dX13_nest_48 : decode cX13_nest 48 = .ok (.iload_n 1, 1) := by decide +kernel
theorem dX13_nest_49 : decode cX13_nest 49 = .ok (.ireturn, 1) := by decide +kernel
theorem dX13_nest_50 : decode cX13_nest 50 = .ok (.aload_n 0, 1) := by decide +kernel
theorem dX13_nest_51 : decode cX13_nest 51 = .ok (.iload_n 2, 1) := by decide +kernel
theorem dX13_nest_52 : decode cX13_nest 52 = .ok (.iload_n 1, 1) := by decide +kernel
theorem dX13_nest_53 : decode cX13_nest 53 = .ok (.invokevirtual 585, 3) := by decide +kernel
theorem dX13_nest_56 : decode cX13_nest 56 = .ok (.ifCond .eq 33, 3) := by decide +kernel
theorem dX13_nest_59 : decode cX13_nest 59 = .ok (.aload_n 0, 1) := by decide +kernel
theorem dX13_nest_60 : decode cX13_nest 60 = .ok (.getfield 308, 3) := by decide +kernel
theorem dX13_nest_63 : decode cX13_nest 63 = .ok (.bipush 8, 2) := by decide +kernel
theorem dX13_nest_65 : decode cX13_nest 65 = .ok (.iload_n 2, 1) := by decide +kernel
theorem dX13_nest_66 : decode cX13_nest 66 = .ok (.imul, 1) := by decide +kernel
theorem dX13_nest_67 : decode cX13_nest 67 = .ok (.aload_n 0, 1) := by decide +kernel
theorem dX13_nest_68 : decode cX13_nest 68 = .ok (.getfield 303, 3) := by decide +kernel
theorem dX13_nest_71 : decode cX13_nest 71 = .ok (.iload_n 2, 1) := by decide +kernel
theorem dX13_nest_72 : decode cX13_nest 72 = .ok (.iaload, 1) := by decide +kernel
theorem dX13_nest_73 : decode cX13_nest 73 = .ok (.aload_n 0, 1) := by decide +kernel
theorem dX13_nest_74 : decode cX13_nest 74 = .ok (.getfield 256, 3) := by decide +kernel
theorem dX13_nest_77 : decode cX13_nest 77 = .ok (.iload_n 1, 1) := by decide +kernel
theorem dX13_nest_78 : decode cX13_nest 78 = .ok (.laload, 1) := by decide +kernel
theorem dX13_nest_79 : decode cX13_nest 79 = .ok (.invokestatic 595, 3) := by decide +kernel
theorem dX13_nest_82 : decode cX13_nest 82 = .ok (.ifCond .eq 7, 3) := by decide +kernel
theorem dX13_nest_85 : decode cX13_nest 85 = .ok (.iload_n 2, 1) := by decide +kernel
theorem dX13_nest_86 : decode cX13_nest 86 = .ok (.goto 4, 3) := by decide +kernel
theorem dX13_nest_89 : decode cX13_nest 89 = .ok (.iload_n 1, 1) := by decide +kernel
theorem dX13_nest_90 : decode cX13_nest 90 = .ok (.ireturn, 1) := by decide +kernel
theorem dX13_isLetMember_0 : decode cX13_isLetMember 0 = .ok (.aload_n 0, 1) := by decide +kernel
theorem dX13_isLetMember_1 : decode cX13_isLetMember 1 = .ok (.iload_n 1, 1) := by decide +kernel
theorem dX13_isLetMember_2 : decode cX13_isLetMember 2 = .ok (.invokevirtual 599, 3) := by decide +kernel
theorem dX13_isLetMember_5 : decode cX13_isLetMember 5 = .ok (.istore 4, 2) := by decide +kernel
theorem dX13_isLetMember_7 : decode cX13_isLetMember 7 = .ok (.aload_n 0, 1) := by decide +kernel
theorem dX13_isLetMember_8 : decode cX13_isLetMember 8 = .ok (.getfield 433, 3) := by decide +kernel
theorem dX13_isLetMember_11 : decode cX13_isLetMember 11 = .ok (.iload_n 1, 1) := by decide +kernel
theorem dX13_isLetMember_12 : decode cX13_isLetMember 12 = .ok (.iaload, 1) := by decide +kernel
theorem dX13_isLetMember_13 : decode cX13_isLetMember 13 = .ok (.istore 5, 2) := by decide +kernel
theorem dX13_isLetMember_15 : decode cX13_isLetMember 15 = .ok (.iload 5, 2) := by decide +kernel
theorem dX13_isLetMember_17 : decode cX13_isLetMember 17 = .ok (.iconst 3, 1) := by decide +kernel
theorem dX13_isLetMember_18 : decode cX13_isLetMember 18 = .ok (.if_icmp .eq 18, 3) := by decide +kernel
theorem dX13_isLetMember_21 : decode cX13_isLetMember 21 = .ok (.iload 5, 2) := by decide +kernel
theorem dX13_isLetMember_23 : decode cX13_isLetMember 23 = .ok (.ifCond .eq 15, 3) := by decide +kernel
theorem dX13_isLetMember_26 : decode cX13_isLetMember 26 = .ok (.aload_n 0, 1) := by decide +kernel
theorem dX13_isLetMember_27 : decode cX13_isLetMember 27 = .ok (.iload_n 3, 1) := by decide +kernel
theorem dX13_isLetMember_28 : decode cX13_isLetMember 28 = .ok (.iload 4, 2) := by decide +kernel
theorem dX13_isLetMember_30 : decode cX13_isLetMember 30 = .ok (.invokevirtual 585, 3) := by decide +kernel
theorem dX13_isLetMember_33 : decode cX13_isLetMember 33 = .ok (.ifCond .eq 5, 3) := by decide +kernel
theorem dX13_isLetMember_36 : decode cX13_isLetMember 36 = .ok (.iconst 1, 1) := by decide +kernel
theorem dX13_isLetMember_37 : decode cX13_isLetMember 37 = .ok (.ireturn, 1) := by decide +kernel
theorem dX13_isLetMember_38 : decode cX13_isLetMember 38 = .ok (.iload 5, 2) := by decide +kernel
theorem dX13_isLetMember_40 : decode cX13_isLetMember 40 = .ok (.iconst 2, 1) := by decide +kernel
theorem dX13_isLetMember_41 : decode cX13_isLetMember 41 = .ok (.if_icmp .ne 67, 3) := by decide +kernel
theorem dX13_isLetMember_44 : decode cX13_isLetMember 44 = .ok (.iload_n 3, 1) := by decide +kernel
theorem dX13_isLetMember_45 : decode cX13_isLetMember 45 = .ok (.iload 4, 2) := by decide +kernel
theorem dX13_isLetMember_47 : decode cX13_isLetMember 47 = .ok (.if_icmp .eq 13, 3) := by decide +kernel
theorem dX13_isLetMember_50 : decode cX13_isLetMember 50 = .ok (.aload_n 0, 1) := by decide +kernel
theorem dX13_isLetMember_51 : decode cX13_isLetMember 51 = .ok (.iload_n 3, 1) := by decide +kernel
theorem dX13_isLetMember_52 : decode cX13_isLetMember 52 = .ok (.iload 4, 2) := by decide +kernel
theorem dX13_isLetMember_54 : decode cX13_isLetMember 54 = .ok (.invokevirtual 581, 3) := by decide +kernel
theorem dX13_isLetMember_57 : decode cX13_isLetMember 57 = .ok (.ifCond .eq 49, 3) := by decide +kernel
theorem dX13_isLetMember_60 : decode cX13_isLetMember 60 = .ok (.aload_n 0, 1) := by decide +kernel
theorem dX13_isLetMember_61 : decode cX13_isLetMember 61 = .ok (.getfield 402, 3) := by decide +kernel
theorem dX13_isLetMember_64 : decode cX13_isLetMember 64 = .ok (.iload_n 1, 1) := by decide +kernel
theorem dX13_isLetMember_65 : decode cX13_isLetMember 65 = .ok (.iaload, 1) := by decide +kernel
theorem dX13_isLetMember_66 : decode cX13_isLetMember 66 = .ok (.iconst 2, 1) := by decide +kernel
theorem dX13_isLetMember_67 : decode cX13_isLetMember 67 = .ok (.if_icmp .eq 12, 3) := by decide +kernel
theorem dX13_isLetMember_70 : decode cX13_isLetMember 70 = .ok (.aload_n 0, 1) := by decide +kernel
theorem dX13_isLetMember_71 : decode cX13_isLetMember 71 = .ok (.getfield 341, 3) := by decide +kernel
theorem dX13_isLetMember_74 : decode cX13_isLetMember 74 = .ok (.iload_n 1, 1) := by decide +kernel
theorem dX13_isLetMember_75 : decode cX13_isLetMember 75 = .ok (.baload, 1) := by decide +kernel
theorem dX13_isLetMember_76 : decode cX13_isLetMember 76 = .ok (.ifCond .ne 26, 3) := by decide +kernel
theorem dX13_isLetMember_79 : decode cX13_isLetMember 79 = .ok (.iload_n 2, 1) := by decide +kernel
theorem dX13_isLetMember_80 : decode cX13_isLetMember 80 = .ok (.iload_n 3, 1) := by decide +kernel
theorem dX13_isLetMember_81 : decode cX13_isLetMember 81 = .ok (.if_icmp .eq 21, 3) := by decide +kernel
theorem dX13_isLetMember_84 : decode cX13_isLetMember 84 = .ok (.aload_n 0, 1) := by decide +kernel
theorem dX13_isLetMember_85 : decode cX13_isLetMember 85 = .ok (.iload_n 2, 1) := by decide +kernel
theorem dX13_isLetMember_86 : decode cX13_isLetMember 86 = .ok (.iload_n 3, 1) := by decide +kernel
theorem dX13_isLetMember_87 : decode cX13_isLetMember 87 = .ok (.invokevirtual 581, 3) := by decide +kernel
theorem dX13_isLetMember_90 : decode cX13_isLetMember 90 = .ok (.ifCond .ne 12, 3) := by decide +kernel
theorem dX13_isLetMember_93 : decode cX13_isLetMember 93 = .ok (.aload_n 0, 1) := by decide +kernel
theorem dX13_isLetMember_94 : decode cX13_isLetMember 94 = .ok (.iload_n 3, 1) := by decide +kernel
theorem dX13_isLetMember_95 : decode cX13_isLetMember 95 = .ok (.iload_n 2, 1) := by decide +kernel
theorem dX13_isLetMember_96 : decode cX13_isLetMember 96 = .ok (.invokevirtual 581, 3) := by decide +kernel
theorem dX13_isLetMember_99 : decode cX13_isLetMember 99 = .ok (.ifCond .eq 7, 3) := by decide +kernel
theorem dX13_isLetMember_102 : decode cX13_isLetMember 102 = .ok (.iconst 1, 1) := by decide +kernel
theorem dX13_isLetMember_103 : decode cX13_isLetMember 103 = .ok (.goto 4, 3) := by decide +kernel
theorem dX13_isLetMember_106 : decode cX13_isLetMember 106 = .ok (.iconst 0, 1) := by decide +kernel
theorem dX13_isLetMember_107 : decode cX13_isLetMember 107 = .ok (.ireturn, 1) := by decide +kernel
theorem dX13_isLetMember_108 : decode cX13_isLetMember 108 = .ok (.iload 5, 2) := by decide +kernel
theorem dX13_isLetMember_110 : decode cX13_isLetMember 110 = .ok (.ifCond .ne 23, 3) := by decide +kernel
theorem dX13_isLetMember_113 : decode cX13_isLetMember 113 = .ok (.iload_n 3, 1) := by decide +kernel
theorem dX13_isLetMember_114 : decode cX13_isLetMember 114 = .ok (.iload 4, 2) := by decide +kernel
theorem dX13_isLetMember_116 : decode cX13_isLetMember 116 = .ok (.if_icmp .eq 13, 3) := by decide +kernel
theorem dX13_isLetMember_119 : decode cX13_isLetMember 119 = .ok (.aload_n 0, 1) := by decide +kernel
theorem dX13_isLetMember_120 : decode cX13_isLetMember 120 = .ok (.iload_n 3, 1) := by decide +kernel
theorem dX13_isLetMember_121 : decode cX13_isLetMember 121 = .ok (.iload 4, 2) := by decide +kernel
theorem dX13_isLetMember_123 : decode cX13_isLetMember 123 = .ok (.invokevirtual 602, 3) := by decide +kernel
theorem dX13_isLetMember_126 : decode cX13_isLetMember 126 = .ok (.ifCond .eq 7, 3) := by decide +kernel
theorem dX13_isLetMember_129 : decode cX13_isLetMember 129 = .ok (.iconst 1, 1) := by decide +kernel
theorem dX13_isLetMember_130 : decode cX13_isLetMember 130 = .ok (.goto 4, 3) := by decide +kernel
theorem dX13_isLetMember_133 : decode cX13_isLetMember 133 = .ok (.iconst 0, 1) := by decide +kernel
theorem dX13_isLetMember_134 : decode cX13_isLetMember 134 = .ok (.ireturn, 1) := by decide +kernel
theorem dX13_nestsAreOne_0 : decode cX13_nestsAreOne 0 = .ok (.aload_n 0, 1) := by decide +kernel
theorem dX13_nestsAreOne_1 : decode cX13_nestsAreOne 1 = .ok (.iload_n 1, 1) := by decide +kernel
theorem dX13_nestsAreOne_2 : decode cX13_nestsAreOne 2 = .ok (.invokevirtual 605, 3) := by decide +kernel
theorem dX13_nestsAreOne_5 : decode cX13_nestsAreOne 5 = .ok (.istore_n 3, 1) := by decide +kernel
theorem dX13_nestsAreOne_6 : decode cX13_nestsAreOne 6 = .ok (.iload_n 3, 1) := by decide +kernel
theorem dX13_nestsAreOne_7 : decode cX13_nestsAreOne 7 = .ok (.aload_n 0, 1) := by decide +kernel
theorem dX13_nestsAreOne_8 : decode cX13_nestsAreOne 8 = .ok (.iload_n 2, 1) := by decide +kernel
theorem dX13_nestsAreOne_9 : decode cX13_nestsAreOne 9 = .ok (.invokevirtual 605, 3) := by decide +kernel
theorem dX13_nestsAreOne_12 : decode cX13_nestsAreOne 12 = .ok (.if_icmp .ne 7, 3) := by decide +kernel
theorem dX13_nestsAreOne_15 : decode cX13_nestsAreOne 15 = .ok (.iconst 1, 1) := by decide +kernel
theorem dX13_nestsAreOne_16 : decode cX13_nestsAreOne 16 = .ok (.goto 4, 3) := by decide +kernel
theorem dX13_nestsAreOne_19 : decode cX13_nestsAreOne 19 = .ok (.iconst 0, 1) := by decide +kernel
theorem dX13_nestsAreOne_20 : decode cX13_nestsAreOne 20 = .ok (.ireturn, 1) := by decide +kernel
theorem dX13_ownField_0 : decode cX13_ownField 0 = .ok (.iconst 0, 1) := by decide +kernel
theorem dX13_ownField_1 : decode cX13_ownField 1 = .ok (.istore 6, 2) := by decide +kernel
theorem dX13_ownField_3 : decode cX13_ownField 3 = .ok (.iload 6, 2) := by decide +kernel
theorem dX13_ownField_5 : decode cX13_ownField 5 = .ok (.aload_n 0, 1) := by decide +kernel
theorem dX13_ownField_6 : decode cX13_ownField 6 = .ok (.getfield 275, 3) := by decide +kernel
theorem dX13_ownField_9 : decode cX13_ownField 9 = .ok (.iload_n 1, 1) := by decide +kernel
theorem dX13_ownField_10 : decode cX13_ownField 10 = .ok (.iaload, 1) := by decide +kernel
theorem dX13_ownField_11 : decode cX13_ownField 11 = .ok (.if_icmp .ge 63, 3) := by decide +kernel
theorem dX13_ownField_14 : decode cX13_ownField 14 = .ok (.iload_n 1, 1) := by decide +kernel
theorem dX13_ownField_15 : decode cX13_ownField 15 = .ok (.bipush 34, 2) := by decide +kernel
theorem dX13_ownField_17 : decode cX13_ownField 17 = .ok (.imul, 1) := by decide +kernel
theorem dX13_ownField_18 : decode cX13_ownField 18 = .ok (.iload 6, 2) := by decide +kernel
theorem dX13_ownField_20 : decode cX13_ownField 20 = .ok (.iadd, 1) := by decide +kernel
theorem dX13_ownField_21 : decode cX13_ownField 21 = .ok (.istore 7, 2) := by decide +kernel
theorem dX13_ownField_23 : decode cX13_ownField 23 = .ok (.aload_n 0, 1) := by decide +kernel
theorem dX13_ownField_24 : decode cX13_ownField 24 = .ok (.getfield 402, 3) := by decide +kernel
theorem dX13_ownField_27 : decode cX13_ownField 27 = .ok (.iload 7, 2) := by decide +kernel
theorem dX13_ownField_29 : decode cX13_ownField 29 = .ok (.iaload, 1) := by decide +kernel
theorem dX13_ownField_30 : decode cX13_ownField 30 = .ok (.ifCond .ne 38, 3) := by decide +kernel
theorem dX13_ownField_33 : decode cX13_ownField 33 = .ok (.aload_n 0, 1) := by decide +kernel
theorem dX13_ownField_34 : decode cX13_ownField 34 = .ok (.getfield 356, 3) := by decide +kernel
theorem dX13_ownField_37 : decode cX13_ownField 37 = .ok (.iload 7, 2) := by decide +kernel
theorem dX13_ownField_39 : decode cX13_ownField 39 = .ok (.laload, 1) := by decide +kernel
theorem dX13_ownField_40 : decode cX13_ownField 40 = .ok (.lload_n 2, 1) := by decide +kernel
theorem dX13_ownField_41 : decode cX13_ownField 41 = .ok (.lcmp, 1) := by decide +kernel
theorem dX13_ownField_42 : decode cX13_ownField 42 = .ok (.ifCond .ne 26, 3) := by decide +kernel
theorem dX13_ownField_45 : decode cX13_ownField 45 = .ok (.lload 4, 2) := by decide +kernel
theorem dX13_ownField_47 : decode cX13_ownField 47 = .ok (.lconst 0, 1) := by decide +kernel
theorem dX13_ownField_48 : decode cX13_ownField 48 = .ok (.lcmp, 1) := by decide +kernel
theorem dX13_ownField_49 : decode cX13_ownField 49 = .ok (.ifCond .eq 16, 3) := by decide +kernel
theorem dX13_ownField_52 : decode cX13_ownField 52 = .ok (.aload_n 0, 1) := by decide +kernel
theorem dX13_ownField_53 : decode cX13_ownField 53 = .ok (.getfield 359, 3) := by decide +kernel
theorem dX13_ownField_56 : decode cX13_ownField 56 = .ok (.iload 7, 2) := by decide +kernel
theorem dX13_ownField_58 : decode cX13_ownField 58 = .ok (.laload, 1) := by decide +kernel
theorem dX13_ownField_59 : decode cX13_ownField 59 = .ok (.lload 4, 2) := by decide +kernel
theorem dX13_ownField_61 : decode cX13_ownField 61 = .ok (.lcmp, 1) := by decide +kernel
theorem dX13_ownField_62 : decode cX13_ownField 62 = .ok (.ifCond .ne 6, 3) := by decide +kernel
theorem dX13_ownField_65 : decode cX13_ownField 65 = .ok (.iload 7, 2) := by decide +kernel
theorem dX13_ownField_67 : decode cX13_ownField 67 = .ok (.ireturn, 1) := by decide +kernel
theorem dX13_ownField_68 : decode cX13_ownField 68 = .ok (.iinc 6 1, 3) := by decide +kernel
theorem dX13_ownField_71 : decode cX13_ownField 71 = .ok (.goto (-68), 3) := by decide +kernel
theorem dX13_ownField_74 : decode cX13_ownField 74 = .ok (.bipush (-2), 2) := by decide +kernel
theorem dX13_ownField_76 : decode cX13_ownField 76 = .ok (.ireturn, 1) := by decide +kernel
theorem dX13_theField_0 : decode cX13_theField 0 = .ok (.aload_n 0, 1) := by decide +kernel
theorem dX13_theField_1 : decode cX13_theField 1 = .ok (.invokevirtual 573, 3) := by decide +kernel
theorem dX13_theField_4 : decode cX13_theField 4 = .ok (.aload_n 0, 1) := by decide +kernel
theorem dX13_theField_5 : decode cX13_theField 5 = .ok (.iconst 0, 1) := by decide +kernel
theorem dX13_theField_6 : decode cX13_theField 6 = .ok (.putfield 608, 3) := by decide +kernel
theorem dX13_theField_9 : decode cX13_theField 9 = .ok (.iconst 0, 1) := by decide +kernel
theorem dX13_theField_10 : decode cX13_theField 10 = .ok (.istore 6, 2) := by decide +kernel
theorem dX13_theField_12 : decode cX13_theField 12 = .ok (.aload_n 0, 1) := by decide +kernel
theorem dX13_theField_13 : decode cX13_theField 13 = .ok (.getfield 576, 3) := by decide +kernel
theorem dX13_theField_16 : decode cX13_theField 16 = .ok (.iload 6, 2) := by decide +kernel
theorem dX13_theField_18 : decode cX13_theField 18 = .ok (.iinc 6 1, 3) := by decide +kernel
theorem dX13_theField_21 : decode cX13_theField 21 = .ok (.iload_n 1, 1) := by decide +kernel
theorem dX13_theField_22 : decode cX13_theField 22 = .ok (.iastore, 1) := by decide +kernel
theorem dX13_theField_23 : decode cX13_theField 23 = .ok (.bipush (-2), 2) := by decide +kernel
theorem dX13_theField_25 : decode cX13_theField 25 = .ok (.istore 7, 2) := by decide +kernel
theorem dX13_theField_27 : decode cX13_theField 27 = .ok (.iload 6, 2) := by decide +kernel
theorem dX13_theField_29 : decode cX13_theField 29 = .ok (.ifCond .le 168, 3) := by decide +kernel
theorem dX13_theField_32 : decode cX13_theField 32 = .ok (.iload 7, 2) := by decide +kernel
theorem dX13_theField_34 : decode cX13_theField 34 = .ok (.bipush (-2), 2) := by decide +kernel
theorem dX13_theField_36 : decode cX13_theField 36 = .ok (.if_icmp .ne 161, 3) := by decide +kernel
theorem dX13_theField_39 : decode cX13_theField 39 = .ok (.iinc 6 (-1), 3) := by decide +kernel
theorem dX13_theField_42 : decode cX13_theField 42 = .ok (.aload_n 0, 1) := by decide +kernel
theorem dX13_theField_43 : decode cX13_theField 43 = .ok (.getfield 576, 3) := by decide +kernel
theorem dX13_theField_46 : decode cX13_theField 46 = .ok (.iload 6, 2) := by decide +kernel
theorem dX13_theField_48 : decode cX13_theField 48 = .ok (.iaload, 1) := by decide +kernel
theorem dX13_theField_49 : decode cX13_theField 49 = .ok (.istore 8, 2) := by decide +kernel
theorem dX13_theField_51 : decode cX13_theField 51 = .ok (.aload_n 0, 1) := by decide +kernel
theorem dX13_theField_52 : decode cX13_theField 52 = .ok (.getfield 570, 3) := by decide +kernel
theorem dX13_theField_55 : decode cX13_theField 55 = .ok (.iload 8, 2) := by decide +kernel
theorem dX13_theField_57 : decode cX13_theField 57 = .ok (.iaload, 1) := by decide +kernel
theorem dX13_theField_58 : decode cX13_theField 58 = .ok (.aload_n 0, 1) := by decide +kernel
theorem dX13_theField_59 : decode cX13_theField 59 = .ok (.getfield 561, 3) := by decide +kernel
theorem dX13_theField_62 : decode cX13_theField 62 = .ok (.if_icmp .eq 132, 3) := by decide +kernel
theorem dX13_theField_65 : decode cX13_theField 65 = .ok (.aload_n 0, 1) := by decide +kernel
theorem dX13_theField_66 : decode cX13_theField 66 = .ok (.getfield 570, 3) := by decide +kernel
theorem dX13_theField_69 : decode cX13_theField 69 = .ok (.iload 8, 2) := by decide +kernel
theorem dX13_theField_71 : decode cX13_theField 71 = .ok (.aload_n 0, 1) := by decide +kernel
theorem dX13_theField_72 : decode cX13_theField 72 = .ok (.getfield 561, 3) := by decide +kernel
theorem dX13_theField_75 : decode cX13_theField 75 = .ok (.iastore, 1) := by decide +kernel
theorem dX13_theField_76 : decode cX13_theField 76 = .ok (.aload_n 0, 1) := by decide +kernel
theorem dX13_theField_77 : decode cX13_theField 77 = .ok (.getfield 611, 3) := by decide +kernel
theorem dX13_theField_80 : decode cX13_theField 80 = .ok (.aload_n 0, 1) := by decide +kernel
theorem dX13_theField_81 : decode cX13_theField 81 = .ok (.getfield 608, 3) := by decide +kernel
theorem dX13_theField_84 : decode cX13_theField 84 = .ok (.iload 8, 2) := by decide +kernel
theorem dX13_theField_86 : decode cX13_theField 86 = .ok (.iastore, 1) := by decide +kernel
theorem dX13_theField_87 : decode cX13_theField 87 = .ok (.aload_n 0, 1) := by decide +kernel
theorem dX13_theField_88 : decode cX13_theField 88 = .ok (.dup, 1) := by decide +kernel
theorem dX13_theField_89 : decode cX13_theField 89 = .ok (.getfield 608, 3) := by decide +kernel
theorem dX13_theField_92 : decode cX13_theField 92 = .ok (.iconst 1, 1) := by decide +kernel
theorem dX13_theField_93 : decode cX13_theField 93 = .ok (.iadd, 1) := by decide +kernel
theorem dX13_theField_94 : decode cX13_theField 94 = .ok (.putfield 608, 3) := by decide +kernel
theorem dX13_theField_97 : decode cX13_theField 97 = .ok (.aload_n 0, 1) := by decide +kernel
theorem dX13_theField_98 : decode cX13_theField 98 = .ok (.iload 8, 2) := by decide +kernel
theorem dX13_theField_100 : decode cX13_theField 100 = .ok (.lload_n 2, 1) := by decide +kernel
theorem dX13_theField_101 : decode cX13_theField 101 = .ok (.lload 4, 2) := by decide +kernel
theorem dX13_theField_103 : decode cX13_theField 103 = .ok (.invokevirtual 614, 3) := by decide +kernel
theorem dX13_theField_106 : decode cX13_theField 106 = .ok (.istore 7, 2) := by decide +kernel
theorem dX13_theField_108 : decode cX13_theField 108 = .ok (.aload_n 0, 1) := by decide +kernel
theorem dX13_theField_109 : decode cX13_theField 109 = .ok (.iload 8, 2) := by decide +kernel
theorem dX13_theField_111 : decode cX13_theField 111 = .ok (.invokevirtual 558, 3) := by decide +kernel
theorem dX13_theField_114 : decode cX13_theField 114 = .ok (.istore 9, 2) := by decide +kernel
theorem dX13_theField_116 : decode cX13_theField 116 = .ok (.iload 9, 2) := by decide +kernel
theorem dX13_theField_118 : decode cX13_theField 118 = .ok (.bipush (-2), 2) := by decide +kernel
theorem dX13_theField_120 : decode cX13_theField 120 = .ok (.if_icmp .eq 15, 3) := by decide +kernel
theorem dX13_theField_123 : decode cX13_theField 123 = .ok (.aload_n 0, 1) := by decide +kernel
theorem dX13_theField_124 : decode cX13_theField 124 = .ok (.getfield 576, 3) := by decide +kernel
theorem dX13_theField_127 : decode cX13_theField 127 = .ok (.iload 6, 2) := by decide +kernel
theorem dX13_theField_129 : decode cX13_theField 129 = .ok (.iinc 6 1, 3) := by decide +kernel
theorem dX13_theField_132 : decode cX13_theField 132 = .ok (.iload 9, 2) := by decide +kernel
theorem dX13_theField_134 : decode cX13_theField 134 = .ok (.iastore, 1) := by decide +kernel
theorem dX13_theField_135 : decode cX13_theField 135 = .ok (.aload_n 0, 1) := by decide +kernel
theorem dX13_theField_136 : decode cX13_theField 136 = .ok (.getfield 283, 3) := by decide +kernel
theorem dX13_theField_139 : decode cX13_theField 139 = .ok (.iload 8, 2) := by decide +kernel
theorem dX13_theField_141 : decode cX13_theField 141 = .ok (.iaload, 1) := by decide +kernel
theorem dX13_theField_142 : decode cX13_theField 142 = .ok (.iconst 1, 1) := by decide +kernel
theorem dX13_theField_143 : decode cX13_theField 143 = .ok (.isub, 1) := by decide +kernel
theorem dX13_theField_144 : decode cX13_theField 144 = .ok (.istore 10, 2) := by decide +kernel
theorem dX13_theField_146 : decode cX13_theField 146 = .ok (.iload 10, 2) := by decide +kernel
theorem dX13_theField_148 : decode cX13_theField 148 = .ok (.ifCond .lt 46, 3) := by decide +kernel
theorem dX13_theField_151 : decode cX13_theField 151 = .ok (.aload_n 0, 1) := by decide +kernel
theorem dX13_theField_152 : decode cX13_theField 152 = .ok (.aload_n 0, 1) := by decide +kernel
theorem dX13_theField_153 : decode cX13_theField 153 = .ok (.getfield 288, 3) := by decide +kernel
theorem dX13_theField_156 : decode cX13_theField 156 = .ok (.iconst 4, 1) := by decide +kernel
theorem dX13_theField_157 : decode cX13_theField 157 = .ok (.iload 8, 2) := by decide +kernel
theorem dX13_theField_159 : decode cX13_theField 159 = .ok (.imul, 1) := by decide +kernel
theorem dX13_theField_160 : decode cX13_theField 160 = .ok (.iload 10, 2) := by decide +kernel
theorem dX13_theField_162 : decode cX13_theField 162 = .ok (.iadd, 1) := by decide +kernel
theorem dX13_theField_163 : decode cX13_theField 163 = .ok (.laload, 1) := by decide +kernel
theorem dX13_theField_164 : decode cX13_theField 164 = .ok (.invokevirtual 551, 3) := by decide +kernel
theorem dX13_theField_167 : decode cX13_theField 167 = .ok (.istore 11, 2) := by decide +kernel
theorem dX13_theField_169 : decode cX13_theField 169 = .ok (.iload 11, 2) := by decide +kernel
theorem dX13_theField_171 : decode cX13_theField 171 = .ok (.bipush (-2), 2) := by decide +kernel
theorem dX13_theField_173 : decode cX13_theField 173 = .ok (.if_icmp .eq 15, 3) := by decide +kernel
theorem dX13_theField_176 : decode cX13_theField 176 = .ok (.aload_n 0, 1) := by decide +kernel
theorem dX13_theField_177 : decode cX13_theField 177 = .ok (.getfield 576, 3) := by decide +kernel
theorem dX13_theField_180 : decode cX13_theField 180 = .ok (.iload 6, 2) := by decide +kernel
theorem dX13_theField_182 : decode cX13_theField 182 = .ok (.iinc 6 1, 3) := by decide +kernel
theorem dX13_theField_185 : decode cX13_theField 185 = .ok (.iload 11, 2) := by decide +kernel
theorem dX13_theField_187 : decode cX13_theField 187 = .ok (.iastore, 1) := by decide +kernel
theorem dX13_theField_188 : decode cX13_theField 188 = .ok (.iinc 10 (-1), 3) := by decide +kernel
theorem dX13_theField_191 : decode cX13_theField 191 = .ok (.goto (-45), 3) := by decide +kernel
theorem dX13_theField_194 : decode cX13_theField 194 = .ok (.goto (-167), 3) := by decide +kernel
theorem dX13_theField_197 : decode cX13_theField 197 = .ok (.iload 7, 2) := by decide +kernel
theorem dX13_theField_199 : decode cX13_theField 199 = .ok (.ireturn, 1) := by decide +kernel
theorem dX13_sameParams_0 : decode cX13_sameParams 0 = .ok (.aload_n 0, 1) := by decide +kernel
theorem dX13_sameParams_1 : decode cX13_sameParams 1 = .ok (.getfield 362, 3) := by decide +kernel
theorem dX13_sameParams_4 : decode cX13_sameParams 4 = .ok (.iload_n 1, 1) := by decide +kernel
theorem dX13_sameParams_5 : decode cX13_sameParams 5 = .ok (.iaload, 1) := by decide +kernel
theorem dX13_sameParams_6 : decode cX13_sameParams 6 = .ok (.aload_n 0, 1) := by decide +kernel
theorem dX13_sameParams_7 : decode cX13_sameParams 7 = .ok (.getfield 362, 3) := by decide +kernel
theorem dX13_sameParams_10 : decode cX13_sameParams 10 = .ok (.iload_n 2, 1) := by decide +kernel
theorem dX13_sameParams_11 : decode cX13_sameParams 11 = .ok (.iaload, 1) := by decide +kernel
theorem dX13_sameParams_12 : decode cX13_sameParams 12 = .ok (.if_icmp .ne 7, 3) := by decide +kernel
theorem dX13_sameParams_15 : decode cX13_sameParams 15 = .ok (.iconst 1, 1) := by decide +kernel
theorem dX13_sameParams_16 : decode cX13_sameParams 16 = .ok (.goto 4, 3) := by decide +kernel
theorem dX13_sameParams_19 : decode cX13_sameParams 19 = .ok (.iconst 0, 1) := by decide +kernel
theorem dX13_sameParams_20 : decode cX13_sameParams 20 = .ok (.istore_n 3, 1) := by decide +kernel
theorem dX13_sameParams_21 : decode cX13_sameParams 21 = .ok (.iconst 0, 1) := by decide +kernel
theorem dX13_sameParams_22 : decode cX13_sameParams 22 = .ok (.istore 4, 2) := by decide +kernel
theorem dX13_sameParams_24 : decode cX13_sameParams 24 = .ok (.iload 4, 2) := by decide +kernel
theorem dX13_sameParams_26 : decode cX13_sameParams 26 = .ok (.aload_n 0, 1) := by decide +kernel
theorem dX13_sameParams_27 : decode cX13_sameParams 27 = .ok (.getfield 362, 3) := by decide +kernel
theorem dX13_sameParams_30 : decode cX13_sameParams 30 = .ok (.iload_n 1, 1) := by decide +kernel
theorem dX13_sameParams_31 : decode cX13_sameParams 31 = .ok (.iaload, 1) := by decide +kernel
theorem dX13_sameParams_32 : decode cX13_sameParams 32 = .ok (.if_icmp .ge 45, 3) := by decide +kernel
theorem dX13_sameParams_35 : decode cX13_sameParams 35 = .ok (.iload_n 3, 1) := by decide +kernel
theorem dX13_sameParams_36 : decode cX13_sameParams 36 = .ok (.ifCond .eq 41, 3) := by decide +kernel
theorem dX13_sameParams_39 : decode cX13_sameParams 39 = .ok (.aload_n 0, 1) := by decide +kernel
theorem dX13_sameParams_40 : decode cX13_sameParams 40 = .ok (.getfield 442, 3) := by decide +kernel
theorem dX13_sameParams_43 : decode cX13_sameParams 43 = .ok (.iconst 4, 1) := by decide +kernel
theorem dX13_sameParams_44 : decode cX13_sameParams 44 = .ok (.iload_n 1, 1) := by decide +kernel
theorem dX13_sameParams_45 : decode cX13_sameParams 45 = .ok (.imul, 1) := by decide +kernel
theorem dX13_sameParams_46 : decode cX13_sameParams 46 = .ok (.iload 4, 2) := by decide +kernel
theorem dX13_sameParams_48 : decode cX13_sameParams 48 = .ok (.iadd, 1) := by decide +kernel
theorem dX13_sameParams_49 : decode cX13_sameParams 49 = .ok (.laload, 1) := by decide +kernel
theorem dX13_sameParams_50 : decode cX13_sameParams 50 = .ok (.aload_n 0, 1) := by decide +kernel
theorem dX13_sameParams_51 : decode cX13_sameParams 51 = .ok (.getfield 442, 3) := by decide +kernel
theorem dX13_sameParams_54 : decode cX13_sameParams 54 = .ok (.iconst 4, 1) := by decide +kernel
theorem dX13_sameParams_55 : decode cX13_sameParams 55 = .ok (.iload_n 2, 1) := by decide +kernel
theorem dX13_sameParams_56 : decode cX13_sameParams 56 = .ok (.imul, 1) := by decide +kernel
theorem dX13_sameParams_57 : decode cX13_sameParams 57 = .ok (.iload 4, 2) := by decide +kernel
theorem dX13_sameParams_59 : decode cX13_sameParams 59 = .ok (.iadd, 1) := by decide +kernel
theorem dX13_sameParams_60 : decode cX13_sameParams 60 = .ok (.laload, 1) := by decide +kernel
theorem dX13_sameParams_61 : decode cX13_sameParams 61 = .ok (.lcmp, 1) := by decide +kernel
theorem dX13_sameParams_62 : decode cX13_sameParams 62 = .ok (.ifCond .ne 7, 3) := by decide +kernel
theorem dX13_sameParams_65 : decode cX13_sameParams 65 = .ok (.iconst 1, 1) := by decide +kernel
theorem dX13_sameParams_66 : decode cX13_sameParams 66 = .ok (.goto 4, 3) := by decide +kernel
theorem dX13_sameParams_69 : decode cX13_sameParams 69 = .ok (.iconst 0, 1) := by decide +kernel
theorem dX13_sameParams_70 : decode cX13_sameParams 70 = .ok (.istore_n 3, 1) := by decide +kernel
theorem dX13_sameParams_71 : decode cX13_sameParams 71 = .ok (.iinc 4 1, 3) := by decide +kernel
theorem dX13_sameParams_74 : decode cX13_sameParams 74 = .ok (.goto (-50), 3) := by decide +kernel
theorem dX13_sameParams_77 : decode cX13_sameParams 77 = .ok (.iload_n 3, 1) := by decide +kernel
theorem dX13_sameParams_78 : decode cX13_sameParams 78 = .ok (.ireturn, 1) := by decide +kernel
theorem dX13_sameSign_0 : decode cX13_sameSign 0 = .ok (.aload_n 0, 1) := by decide +kernel
theorem dX13_sameSign_1 : decode cX13_sameSign 1 = .ok (.getfield 356, 3) := by decide +kernel
theorem dX13_sameSign_4 : decode cX13_sameSign 4 = .ok (.iload_n 1, 1) := by decide +kernel
theorem dX13_sameSign_5 : decode cX13_sameSign 5 = .ok (.laload, 1) := by decide +kernel
theorem dX13_sameSign_6 : decode cX13_sameSign 6 = .ok (.aload_n 0, 1) := by decide +kernel
theorem dX13_sameSign_7 : decode cX13_sameSign 7 = .ok (.getfield 356, 3) := by decide +kernel
theorem dX13_sameSign_10 : decode cX13_sameSign 10 = .ok (.iload_n 2, 1) := by decide +kernel
theorem dX13_sameSign_11 : decode cX13_sameSign 11 = .ok (.laload, 1) := by decide +kernel
theorem dX13_sameSign_12 : decode cX13_sameSign 12 = .ok (.lcmp, 1) := by decide +kernel
theorem dX13_sameSign_13 : decode cX13_sameSign 13 = .ok (.ifCond .ne 32, 3) := by decide +kernel
theorem dX13_sameSign_16 : decode cX13_sameSign 16 = .ok (.aload_n 0, 1) := by decide +kernel
theorem dX13_sameSign_17 : decode cX13_sameSign 17 = .ok (.getfield 359, 3) := by decide +kernel
theorem dX13_sameSign_20 : decode cX13_sameSign 20 = .ok (.iload_n 1, 1) := by decide +kernel
theorem dX13_sameSign_21 : decode cX13_sameSign 21 = .ok (.laload, 1) := by decide +kernel
theorem dX13_sameSign_22 : decode cX13_sameSign 22 = .ok (.aload_n 0, 1) := by decide +kernel
theorem dX13_sameSign_23 : decode cX13_sameSign 23 = .ok (.getfield 359, 3) := by decide +kernel
theorem dX13_sameSign_26 : decode cX13_sameSign 26 = .ok (.iload_n 2, 1) := by decide +kernel
theorem dX13_sameSign_27 : decode cX13_sameSign 27 = .ok (.laload, 1) := by decide +kernel
theorem dX13_sameSign_28 : decode cX13_sameSign 28 = .ok (.lcmp, 1) := by decide +kernel
theorem dX13_sameSign_29 : decode cX13_sameSign 29 = .ok (.ifCond .ne 16, 3) := by decide +kernel
theorem dX13_sameSign_32 : decode cX13_sameSign 32 = .ok (.aload_n 0, 1) := by decide +kernel
theorem dX13_sameSign_33 : decode cX13_sameSign 33 = .ok (.iload_n 1, 1) := by decide +kernel
theorem dX13_sameSign_34 : decode cX13_sameSign 34 = .ok (.iload_n 2, 1) := by decide +kernel
theorem dX13_sameSign_35 : decode cX13_sameSign 35 = .ok (.invokevirtual 618, 3) := by decide +kernel
theorem dX13_sameSign_38 : decode cX13_sameSign 38 = .ok (.ifCond .eq 7, 3) := by decide +kernel
theorem dX13_sameSign_41 : decode cX13_sameSign 41 = .ok (.iconst 1, 1) := by decide +kernel
theorem dX13_sameSign_42 : decode cX13_sameSign 42 = .ok (.goto 4, 3) := by decide +kernel
theorem dX13_sameSign_45 : decode cX13_sameSign 45 = .ok (.iconst 0, 1) := by decide +kernel
theorem dX13_sameSign_46 : decode cX13_sameSign 46 = .ok (.ireturn, 1) := by decide +kernel
theorem dX13_ownMethod_0 : decode cX13_ownMethod 0 = .ok (.iconst 0, 1) := by decide +kernel
theorem dX13_ownMethod_1 : decode cX13_ownMethod 1 = .ok (.istore_n 3, 1) := by decide +kernel
theorem dX13_ownMethod_2 : decode cX13_ownMethod 2 = .ok (.iload_n 3, 1) := by decide +kernel
theorem dX13_ownMethod_3 : decode cX13_ownMethod 3 = .ok (.aload_n 0, 1) := by decide +kernel
theorem dX13_ownMethod_4 : decode cX13_ownMethod 4 = .ok (.getfield 275, 3) := by decide +kernel
theorem dX13_ownMethod_7 : decode cX13_ownMethod 7 = .ok (.iload_n 1, 1) := by decide +kernel
theorem dX13_ownMethod_8 : decode cX13_ownMethod 8 = .ok (.iaload, 1) := by decide +kernel
theorem dX13_ownMethod_9 : decode cX13_ownMethod 9 = .ok (.if_icmp .ge 41, 3) := by decide +kernel
theorem dX13_ownMethod_12 : decode cX13_ownMethod 12 = .ok (.iload_n 1, 1) := by decide +kernel
theorem dX13_ownMethod_13 : decode cX13_ownMethod 13 = .ok (.bipush 34, 2) := by decide +kernel
theorem dX13_ownMethod_15 : decode cX13_ownMethod 15 = .ok (.imul, 1) := by decide +kernel
theorem dX13_ownMethod_16 : decode cX13_ownMethod 16 = .ok (.iload_n 3, 1) := by decide +kernel
theorem dX13_ownMethod_17 : decode cX13_ownMethod 17 = .ok (.iadd, 1) := by decide +kernel
theorem dX13_ownMethod_18 : decode cX13_ownMethod 18 = .ok (.istore 4, 2) := by decide +kernel
theorem dX13_ownMethod_20 : decode cX13_ownMethod 20 = .ok (.aload_n 0, 1) := by decide +kernel
theorem dX13_ownMethod_21 : decode cX13_ownMethod 21 = .ok (.getfield 402, 3) := by decide +kernel
theorem dX13_ownMethod_24 : decode cX13_ownMethod 24 = .ok (.iload 4, 2) := by decide +kernel
theorem dX13_ownMethod_26 : decode cX13_ownMethod 26 = .ok (.iaload, 1) := by decide +kernel
theorem dX13_ownMethod_27 : decode cX13_ownMethod 27 = .ok (.iconst 1, 1) := by decide +kernel
theorem dX13_ownMethod_28 : decode cX13_ownMethod 28 = .ok (.if_icmp .ne 16, 3) := by decide +kernel
theorem dX13_ownMethod_31 : decode cX13_ownMethod 31 = .ok (.aload_n 0, 1) := by decide +kernel
theorem dX13_ownMethod_32 : decode cX13_ownMethod 32 = .ok (.iload 4, 2) := by decide +kernel
theorem dX13_ownMethod_34 : decode cX13_ownMethod 34 = .ok (.iload_n 2, 1) := by decide +kernel
theorem dX13_ownMethod_35 : decode cX13_ownMethod 35 = .ok (.invokevirtual 621, 3) := by decide +kernel
theorem dX13_ownMethod_38 : decode cX13_ownMethod 38 = .ok (.ifCond .eq 6, 3) := by decide +kernel
theorem dX13_ownMethod_41 : decode cX13_ownMethod 41 = .ok (.iload 4, 2) := by decide +kernel
theorem dX13_ownMethod_43 : decode cX13_ownMethod 43 = .ok (.ireturn, 1) := by decide +kernel
theorem dX13_ownMethod_44 : decode cX13_ownMethod 44 = .ok (.iinc 3 1, 3) := by decide +kernel
theorem dX13_ownMethod_47 : decode cX13_ownMethod 47 = .ok (.goto (-45), 3) := by decide +kernel
theorem dX13_ownMethod_50 : decode cX13_ownMethod 50 = .ok (.bipush (-2), 2) := by decide +kernel
theorem dX13_ownMethod_52 : decode cX13_ownMethod 52 = .ok (.ireturn, 1) := by decide +kernel
theorem dX13_isFree_0 : decode cX13_isFree 0 = .ok (.aload_n 0, 1) := by decide +kernel
theorem dX13_isFree_1 : decode cX13_isFree 1 = .ok (.getfield 341, 3) := by decide +kernel
theorem dX13_isFree_4 : decode cX13_isFree 4 = .ok (.iload_n 1, 1) := by decide +kernel
theorem dX13_isFree_5 : decode cX13_isFree 5 = .ok (.baload, 1) := by decide +kernel
theorem dX13_isFree_6 : decode cX13_isFree 6 = .ok (.ifCond .ne 16, 3) := by decide +kernel
theorem dX13_isFree_9 : decode cX13_isFree 9 = .ok (.aload_n 0, 1) := by decide +kernel
theorem dX13_isFree_10 : decode cX13_isFree 10 = .ok (.getfield 433, 3) := by decide +kernel
theorem dX13_isFree_13 : decode cX13_isFree 13 = .ok (.iload_n 1, 1) := by decide +kernel
theorem dX13_isFree_14 : decode cX13_isFree 14 = .ok (.iaload, 1) := by decide +kernel
theorem dX13_isFree_15 : decode cX13_isFree 15 = .ok (.ifCond .eq 7, 3) := by decide +kernel
theorem dX13_isFree_18 : decode cX13_isFree 18 = .ok (.iconst 1, 1) := by decide +kernel
theorem dX13_isFree_19 : decode cX13_isFree 19 = .ok (.goto 4, 3) := by decide +kernel
theorem dX13_isFree_22 : decode cX13_isFree 22 = .ok (.iconst 0, 1) := by decide +kernel
theorem dX13_isFree_23 : decode cX13_isFree 23 = .ok (.ireturn, 1) := by decide +kernel
theorem dX13_overrides_0 : decode cX13_overrides 0 = .ok (.aload_n 0, 1) := by decide +kernel
theorem dX13_overrides_1 : decode cX13_overrides 1 = .ok (.iload_n 1, 1) := by decide +kernel
theorem dX13_overrides_2 : decode cX13_overrides 2 = .ok (.invokevirtual 624, 3) := by decide +kernel
theorem dX13_overrides_5 : decode cX13_overrides 5 = .ok (.ifCond .eq 20, 3) := by decide +kernel
theorem dX13_overrides_8 : decode cX13_overrides 8 = .ok (.aload_n 0, 1) := by decide +kernel
theorem dX13_overrides_9 : decode cX13_overrides 9 = .ok (.iload_n 2, 1) := by decide +kernel
theorem dX13_overrides_10 : decode cX13_overrides 10 = .ok (.invokevirtual 624, 3) := by decide +kernel
theorem dX13_overrides_13 : decode cX13_overrides 13 = .ok (.ifCond .eq 12, 3) := by decide +kernel
theorem dX13_overrides_16 : decode cX13_overrides 16 = .ok (.aload_n 0, 1) := by decide +kernel
theorem dX13_overrides_17 : decode cX13_overrides 17 = .ok (.iload_n 1, 1) := by decide +kernel
theorem dX13_overrides_18 : decode cX13_overrides 18 = .ok (.iload_n 2, 1) := by decide +kernel
theorem dX13_overrides_19 : decode cX13_overrides 19 = .ok (.invokevirtual 621, 3) := by decide +kernel
theorem dX13_overrides_22 : decode cX13_overrides 22 = .ok (.ifCond .ne 5, 3) := by decide +kernel
theorem dX13_overrides_25 : decode cX13_overrides 25 = .ok (.iconst 0, 1) := by decide +kernel
theorem dX13_overrides_26 : decode cX13_overrides 26 = .ok (.ireturn, 1) := by decide +kernel
theorem dX13_overrides_27 : decode cX13_overrides 27 = .ok (.aload_n 0, 1) := by decide +kernel
theorem dX13_overrides_28 : decode cX13_overrides 28 = .ok (.iload_n 1, 1) := by decide +kernel
theorem dX13_overrides_29 : decode cX13_overrides 29 = .ok (.invokevirtual 599, 3) := by decide +kernel
theorem dX13_overrides_32 : decode cX13_overrides 32 = .ok (.istore_n 3, 1) := by decide +kernel
theorem dX13_overrides_33 : decode cX13_overrides 33 = .ok (.lconst 1, 1) := by decide +kernel
theorem dX13_overrides_34 : decode cX13_overrides 34 = .ok (.aload_n 0, 1) := by decide +kernel
theorem dX13_overrides_35 : decode cX13_overrides 35 = .ok (.getfield 256, 3) := by decide +kernel
theorem dX13_overrides_38 : decode cX13_overrides 38 = .ok (.iload_n 3, 1) := by decide +kernel
theorem dX13_overrides_39 : decode cX13_overrides 39 = .ok (.laload, 1) := by decide +kernel
theorem dX13_overrides_40 : decode cX13_overrides 40 = .ok (.invokestatic 545, 3) := by decide +kernel
theorem dX13_overrides_43 : decode cX13_overrides 43 = .ok (.lshl, 1) := by decide +kernel
theorem dX13_overrides_44 : decode cX13_overrides 44 = .ok (.lstore 4, 2) := by decide +kernel
theorem dX13_overrides_46 : decode cX13_overrides 46 = .ok (.iconst 0, 1) := by decide +kernel
theorem dX13_overrides_47 : decode cX13_overrides 47 = .ok (.istore 6, 2) := by decide +kernel
theorem dX13_overrides_49 : decode cX13_overrides 49 = .ok (.aload_n 0, 1) := by decide +kernel
theorem dX13_overrides_50 : decode cX13_overrides 50 = .ok (.iload_n 3, 1) := by decide +kernel
theorem dX13_overrides_51 : decode cX13_overrides 51 = .ok (.invokevirtual 558, 3) := by decide +kernel
theorem dX13_overrides_54 : decode cX13_overrides 54 = .ok (.istore_n 3, 1) := by decide +kernel
theorem dX13_overrides_55 : decode cX13_overrides 55 = .ok (.iload_n 3, 1) := by decide +kernel
theorem dX13_overrides_56 : decode cX13_overrides 56 = .ok (.bipush (-2), 2) := by decide +kernel
theorem dX13_overrides_58 : decode cX13_overrides 58 = .ok (.if_icmp .eq 117, 3) := by decide +kernel
theorem dX13_overrides_61 : decode cX13_overrides 61 = .ok (.iload 6, 2) := by decide +kernel
theorem dX13_overrides_63 : decode cX13_overrides 63 = .ok (.bipush 80, 2) := by decide +kernel
theorem dX13_overrides_65 : decode cX13_overrides 65 = .ok (.if_icmp .ge 110, 3) := by decide +kernel
theorem dX13_overrides_68 : decode cX13_overrides 68 = .ok (.aload_n 0, 1) := by decide +kernel
theorem dX13_overrides_69 : decode cX13_overrides 69 = .ok (.iload_n 3, 1) := by decide +kernel
theorem dX13_overrides_70 : decode cX13_overrides 70 = .ok (.iload_n 2, 1) := by decide +kernel
theorem dX13_overrides_71 : decode cX13_overrides 71 = .ok (.invokevirtual 627, 3) := by decide +kernel
theorem dX13_overrides_74 : decode cX13_overrides 74 = .ok (.istore 7, 2) := by decide +kernel
theorem dX13_overrides_76 : decode cX13_overrides 76 = .ok (.iload 7, 2) := by decide +kernel
theorem dX13_overrides_78 : decode cX13_overrides 78 = .ok (.bipush (-2), 2) := by decide +kernel
theorem dX13_overrides_80 : decode cX13_overrides 80 = .ok (.if_icmp .eq 46, 3) := by decide +kernel
theorem dX13_overrides_83 : decode cX13_overrides 83 = .ok (.aload_n 0, 1) := by decide +kernel
theorem dX13_overrides_84 : decode cX13_overrides 84 = .ok (.iload 7, 2) := by decide +kernel
theorem dX13_overrides_86 : decode cX13_overrides 86 = .ok (.invokevirtual 624, 3) := by decide +kernel
theorem dX13_overrides_89 : decode cX13_overrides 89 = .ok (.ifCond .eq 37, 3) := by decide +kernel
theorem dX13_overrides_92 : decode cX13_overrides 92 = .ok (.aload_n 0, 1) := by decide +kernel
theorem dX13_overrides_93 : decode cX13_overrides 93 = .ok (.getfield 433, 3) := by decide +kernel
theorem dX13_overrides_96 : decode cX13_overrides 96 = .ok (.iload 7, 2) := by decide +kernel
theorem dX13_overrides_98 : decode cX13_overrides 98 = .ok (.iaload, 1) := by decide +kernel
theorem dX13_overrides_99 : decode cX13_overrides 99 = .ok (.iconst 2, 1) := by decide +kernel
theorem dX13_overrides_100 : decode cX13_overrides 100 = .ok (.if_icmp .ge 22, 3) := by decide +kernel
theorem dX13_overrides_103 : decode cX13_overrides 103 = .ok (.lload 4, 2) := by decide +kernel
theorem dX13_overrides_105 : decode cX13_overrides 105 = .ok (.aload_n 0, 1) := by decide +kernel
theorem dX13_overrides_106 : decode cX13_overrides 106 = .ok (.getfield 256, 3) := by decide +kernel
theorem dX13_overrides_109 : decode cX13_overrides 109 = .ok (.iload_n 3, 1) := by decide +kernel
theorem dX13_overrides_110 : decode cX13_overrides 110 = .ok (.laload, 1) := by decide +kernel
theorem dX13_overrides_111 : decode cX13_overrides 111 = .ok (.invokestatic 545, 3) := by decide +kernel
theorem dX13_overrides_114 : decode cX13_overrides 114 = .ok (.lushr, 1) := by decide +kernel
theorem dX13_overrides_115 : decode cX13_overrides 115 = .ok (.lconst 1, 1) := by decide +kernel
theorem dX13_overrides_116 : decode cX13_overrides 116 = .ok (.land, 1) := by decide +kernel
theorem dX13_overrides_117 : decode cX13_overrides 117 = .ok (.lconst 1, 1) := by decide +kernel
theorem dX13_overrides_118 : decode cX13_overrides 118 = .ok (.lcmp, 1) := by decide +kernel
theorem dX13_overrides_119 : decode cX13_overrides 119 = .ok (.ifCond .ne 7, 3) := by decide +kernel
theorem dX13_overrides_122 : decode cX13_overrides 122 = .ok (.iconst 1, 1) := by decide +kernel
theorem dX13_overrides_123 : decode cX13_overrides 123 = .ok (.goto 4, 3) := by decide +kernel
theorem dX13_overrides_126 : decode cX13_overrides 126 = .ok (.iconst 0, 1) := by decide +kernel
theorem dX13_overrides_127 : decode cX13_overrides 127 = .ok (.istore 8, 2) := by decide +kernel
theorem dX13_overrides_129 : decode cX13_overrides 129 = .ok (.iload 7, 2) := by decide +kernel
theorem dX13_overrides_131 : decode cX13_overrides 131 = .ok (.iload_n 2, 1) := by decide +kernel
theorem dX13_overrides_132 : decode cX13_overrides 132 = .ok (.if_icmp .ne 6, 3) := by decide +kernel
theorem dX13_overrides_135 : decode cX13_overrides 135 = .ok (.iload 8, 2) := by decide +kernel
theorem dX13_overrides_137 : decode cX13_overrides 137 = .ok (.ireturn, 1) := by decide +kernel
theorem dX13_overrides_138 : decode cX13_overrides 138 = .ok (.lload 4, 2) := by decide +kernel
theorem dX13_overrides_140 : decode cX13_overrides 140 = .ok (.iload 8, 2) := by decide +kernel
theorem dX13_overrides_142 : decode cX13_overrides 142 = .ok (.ifCond .eq 17, 3) := by decide +kernel
theorem dX13_overrides_145 : decode cX13_overrides 145 = .ok (.lconst 1, 1) := by decide +kernel
theorem dX13_overrides_146 : decode cX13_overrides 146 = .ok (.aload_n 0, 1) := by decide +kernel
theorem dX13_overrides_147 : decode cX13_overrides 147 = .ok (.getfield 256, 3) := by decide +kernel
theorem dX13_overrides_150 : decode cX13_overrides 150 = .ok (.iload_n 3, 1) := by decide +kernel
theorem dX13_overrides_151 : decode cX13_overrides 151 = .ok (.laload, 1) := by decide +kernel
theorem dX13_overrides_152 : decode cX13_overrides 152 = .ok (.invokestatic 545, 3) := by decide +kernel
theorem dX13_overrides_155 : decode cX13_overrides 155 = .ok (.lshl, 1) := by decide +kernel
theorem dX13_overrides_156 : decode cX13_overrides 156 = .ok (.goto 4, 3) := by decide +kernel
theorem dX13_overrides_159 : decode cX13_overrides 159 = .ok (.lconst 0, 1) := by decide +kernel
theorem dX13_overrides_160 : decode cX13_overrides 160 = .ok (.lor, 1) := by decide +kernel
theorem dX13_overrides_161 : decode cX13_overrides 161 = .ok (.lstore 4, 2) := by decide +kernel
theorem dX13_overrides_163 : decode cX13_overrides 163 = .ok (.aload_n 0, 1) := by decide +kernel
theorem dX13_overrides_164 : decode cX13_overrides 164 = .ok (.iload_n 3, 1) := by decide +kernel
theorem dX13_overrides_165 : decode cX13_overrides 165 = .ok (.invokevirtual 558, 3) := by decide +kernel
theorem dX13_overrides_168 : decode cX13_overrides 168 = .ok (.istore_n 3, 1) := by decide +kernel
theorem dX13_overrides_169 : decode cX13_overrides 169 = .ok (.iinc 6 1, 3) := by decide +kernel
theorem dX13_overrides_172 : decode cX13_overrides 172 = .ok (.goto (-117), 3) := by decide +kernel
theorem dX13_overrides_175 : decode cX13_overrides 175 = .ok (.iconst 0, 1) := by decide +kernel
theorem dX13_overrides_176 : decode cX13_overrides 176 = .ok (.ireturn, 1) := by decide +kernel
theorem dX13_mostSpecial_0 : decode cX13_mostSpecial 0 = .ok (.aload_n 0, 1) := by decide +kernel
theorem dX13_mostSpecial_1 : decode cX13_mostSpecial 1 = .ok (.iload_n 1, 1) := by decide +kernel
theorem dX13_mostSpecial_2 : decode cX13_mostSpecial 2 = .ok (.aload_n 0, 1) := by decide +kernel
theorem dX13_mostSpecial_3 : decode cX13_mostSpecial 3 = .ok (.getfield 630, 3) := by decide +kernel
theorem dX13_mostSpecial_6 : decode cX13_mostSpecial 6 = .ok (.invokevirtual 633, 3) := by decide +kernel
theorem dX13_mostSpecial_9 : decode cX13_mostSpecial 9 = .ok (.istore_n 3, 1) := by decide +kernel
theorem dX13_mostSpecial_10 : decode cX13_mostSpecial 10 = .ok (.iconst 0, 1) := by decide +kernel
theorem dX13_mostSpecial_11 : decode cX13_mostSpecial 11 = .ok (.istore 4, 2) := by decide +kernel
theorem dX13_mostSpecial_13 : decode cX13_mostSpecial 13 = .ok (.aload_n 0, 1) := by decide +kernel
theorem dX13_mostSpecial_14 : decode cX13_mostSpecial 14 = .ok (.iload_n 1, 1) := by decide +kernel
theorem dX13_mostSpecial_15 : decode cX13_mostSpecial 15 = .ok (.invokevirtual 548, 3) := by decide +kernel
theorem dX13_mostSpecial_18 : decode cX13_mostSpecial 18 = .ok (.ifCond .eq 39, 3) := by decide +kernel
theorem dX13_mostSpecial_21 : decode cX13_mostSpecial 21 = .ok (.aload_n 0, 1) := by decide +kernel
theorem dX13_mostSpecial_22 : decode cX13_mostSpecial 22 = .ok (.iload_n 1, 1) := by decide +kernel
theorem dX13_mostSpecial_23 : decode cX13_mostSpecial 23 = .ok (.iload_n 2, 1) := by decide +kernel
theorem dX13_mostSpecial_24 : decode cX13_mostSpecial 24 = .ok (.invokevirtual 627, 3) := by decide +kernel
theorem dX13_mostSpecial_27 : decode cX13_mostSpecial 27 = .ok (.istore 5, 2) := by decide +kernel
theorem dX13_mostSpecial_29 : decode cX13_mostSpecial 29 = .ok (.iload 5, 2) := by decide +kernel
theorem dX13_mostSpecial_31 : decode cX13_mostSpecial 31 = .ok (.bipush (-2), 2) := by decide +kernel
theorem dX13_mostSpecial_33 : decode cX13_mostSpecial 33 = .ok (.if_icmp .eq 24, 3) := by decide +kernel
theorem dX13_mostSpecial_36 : decode cX13_mostSpecial 36 = .ok (.aload_n 0, 1) := by decide +kernel
theorem dX13_mostSpecial_37 : decode cX13_mostSpecial 37 = .ok (.iload 5, 2) := by decide +kernel
theorem dX13_mostSpecial_39 : decode cX13_mostSpecial 39 = .ok (.invokevirtual 624, 3) := by decide +kernel
theorem dX13_mostSpecial_42 : decode cX13_mostSpecial 42 = .ok (.ifCond .eq 15, 3) := by decide +kernel
theorem dX13_mostSpecial_45 : decode cX13_mostSpecial 45 = .ok (.aload_n 0, 1) := by decide +kernel
theorem dX13_mostSpecial_46 : decode cX13_mostSpecial 46 = .ok (.getfield 637, 3) := by decide +kernel
theorem dX13_mostSpecial_49 : decode cX13_mostSpecial 49 = .ok (.iload 4, 2) := by decide +kernel
theorem dX13_mostSpecial_51 : decode cX13_mostSpecial 51 = .ok (.iinc 4 1, 3) := by decide +kernel
theorem dX13_mostSpecial_54 : decode cX13_mostSpecial 54 = .ok (.iload 5, 2) := by decide +kernel
theorem dX13_mostSpecial_56 : decode cX13_mostSpecial 56 = .ok (.iastore, 1) := by decide +kernel
theorem dX13_mostSpecial_57 : decode cX13_mostSpecial 57 = .ok (.iconst 0, 1) := by decide +kernel
theorem dX13_mostSpecial_58 : decode cX13_mostSpecial 58 = .ok (.istore 5, 2) := by decide +kernel
theorem dX13_mostSpecial_60 : decode cX13_mostSpecial 60 = .ok (.iload 5, 2) := by decide +kernel
theorem dX13_mostSpecial_62 : decode cX13_mostSpecial 62 = .ok (.iload_n 3, 1) := by decide +kernel
theorem dX13_mostSpecial_63 : decode cX13_mostSpecial 63 = .ok (.if_icmp .ge 67, 3) := by decide +kernel
theorem dX13_mostSpecial_66 : decode cX13_mostSpecial 66 = .ok (.aload_n 0, 1) := by decide +kernel
theorem dX13_mostSpecial_67 : decode cX13_mostSpecial 67 = .ok (.getfield 630, 3) := by decide +kernel
theorem dX13_mostSpecial_70 : decode cX13_mostSpecial 70 = .ok (.iload 5, 2) := by decide +kernel
theorem dX13_mostSpecial_72 : decode cX13_mostSpecial 72 = .ok (.iaload, 1) := by decide +kernel
theorem dX13_mostSpecial_73 : decode cX13_mostSpecial 73 = .ok (.iload_n 1, 1) := by decide +kernel
theorem dX13_mostSpecial_74 : decode cX13_mostSpecial 74 = .ok (.if_icmp .ne 8, 3) := by decide +kernel
theorem dX13_mostSpecial_77 : decode cX13_mostSpecial 77 = .ok (.bipush (-2), 2) := by decide +kernel
theorem dX13_mostSpecial_79 : decode cX13_mostSpecial 79 = .ok (.goto 15, 3) := by decide +kernel
theorem dX13_mostSpecial_82 : decode cX13_mostSpecial 82 = .ok (.aload_n 0, 1) := by decide +kernel
theorem dX13_mostSpecial_83 : decode cX13_mostSpecial 83 = .ok (.aload_n 0, 1) := by decide +kernel
theorem dX13_mostSpecial_84 : decode cX13_mostSpecial 84 = .ok (.getfield 630, 3) := by decide +kernel
theorem dX13_mostSpecial_87 : decode cX13_mostSpecial 87 = .ok (.iload 5, 2) := by decide +kernel
theorem dX13_mostSpecial_89 : decode cX13_mostSpecial 89 = .ok (.iaload, 1) := by decide +kernel
theorem dX13_mostSpecial_90 : decode cX13_mostSpecial 90 = .ok (.iload_n 2, 1) := by decide +kernel
theorem dX13_mostSpecial_91 : decode cX13_mostSpecial 91 = .ok (.invokevirtual 627, 3) := by decide +kernel
theorem dX13_mostSpecial_94 : decode cX13_mostSpecial 94 = .ok (.istore 6, 2) := by decide +kernel
theorem dX13_mostSpecial_96 : decode cX13_mostSpecial 96 = .ok (.iload 6, 2) := by decide +kernel
theorem dX13_mostSpecial_98 : decode cX13_mostSpecial 98 = .ok (.bipush (-2), 2) := by decide +kernel
theorem dX13_mostSpecial_100 : decode cX13_mostSpecial 100 = .ok (.if_icmp .eq 24, 3) := by decide +kernel
theorem dX13_mostSpecial_103 : decode cX13_mostSpecial 103 = .ok (.aload_n 0, 1) := by decide +kernel
theorem dX13_mostSpecial_104 : decode cX13_mostSpecial 104 = .ok (.iload 6, 2) := by decide +kernel
theorem dX13_mostSpecial_106 : decode cX13_mostSpecial 106 = .ok (.invokevirtual 624, 3) := by decide +kernel
theorem dX13_mostSpecial_109 : decode cX13_mostSpecial 109 = .ok (.ifCond .eq 15, 3) := by decide +kernel
theorem dX13_mostSpecial_112 : decode cX13_mostSpecial 112 = .ok (.aload_n 0, 1) := by decide +kernel
theorem dX13_mostSpecial_113 : decode cX13_mostSpecial 113 = .ok (.getfield 637, 3) := by decide +kernel
theorem dX13_mostSpecial_116 : decode cX13_mostSpecial 116 = .ok (.iload 4, 2) := by decide +kernel
theorem dX13_mostSpecial_118 : decode cX13_mostSpecial 118 = .ok (.iinc 4 1, 3) := by decide +kernel
theorem dX13_mostSpecial_121 : decode cX13_mostSpecial 121 = .ok (.iload 6, 2) := by decide +kernel
theorem dX13_mostSpecial_123 : decode cX13_mostSpecial 123 = .ok (.iastore, 1) := by decide +kernel
theorem dX13_mostSpecial_124 : decode cX13_mostSpecial 124 = .ok (.iinc 5 1, 3) := by decide +kernel
theorem dX13_mostSpecial_127 : decode cX13_mostSpecial 127 = .ok (.goto (-67), 3) := by decide +kernel
theorem dX13_mostSpecial_130 : decode cX13_mostSpecial 130 = .ok (.aload_n 0, 1) := by decide +kernel
theorem dX13_mostSpecial_131 : decode cX13_mostSpecial 131 = .ok (.bipush (-2), 2) := by decide +kernel
theorem dX13_mostSpecial_133 : decode cX13_mostSpecial 133 = .ok (.putfield 640, 3) := by decide +kernel
theorem dX13_mostSpecial_136 : decode cX13_mostSpecial 136 = .ok (.iconst 0, 1) := by decide +kernel
theorem dX13_mostSpecial_137 : decode cX13_mostSpecial 137 = .ok (.istore 5, 2) := by decide +kernel
theorem dX13_mostSpecial_139 : decode cX13_mostSpecial 139 = .ok (.iconst 0, 1) := by decide +kernel
theorem dX13_mostSpecial_140 : decode cX13_mostSpecial 140 = .ok (.istore 6, 2) := by decide +kernel
theorem dX13_mostSpecial_142 : decode cX13_mostSpecial 142 = .ok (.iload 6, 2) := by decide +kernel
theorem dX13_mostSpecial_144 : decode cX13_mostSpecial 144 = .ok (.iload 4, 2) := by decide +kernel
theorem dX13_mostSpecial_146 : decode cX13_mostSpecial 146 = .ok (.if_icmp .ge 110, 3) := by decide +kernel
theorem dX13_mostSpecial_149 : decode cX13_mostSpecial 149 = .ok (.iconst 1, 1) := by decide +kernel
theorem dX13_mostSpecial_150 : decode cX13_mostSpecial 150 = .ok (.istore 7, 2) := by decide +kernel
theorem dX13_mostSpecial_152 : decode cX13_mostSpecial 152 = .ok (.iconst 0, 1) := by decide +kernel
theorem dX13_mostSpecial_153 : decode cX13_mostSpecial 153 = .ok (.istore 8, 2) := by decide +kernel
theorem dX13_mostSpecial_155 : decode cX13_mostSpecial 155 = .ok (.iload 8, 2) := by decide +kernel
theorem dX13_mostSpecial_157 : decode cX13_mostSpecial 157 = .ok (.iload 4, 2) := by decide +kernel
theorem dX13_mostSpecial_159 : decode cX13_mostSpecial 159 = .ok (.if_icmp .ge 57, 3) := by decide +kernel
theorem dX13_mostSpecial_162 : decode cX13_mostSpecial 162 = .ok (.iload 7, 2) := by decide +kernel
theorem dX13_mostSpecial_164 : decode cX13_mostSpecial 164 = .ok (.ifCond .eq 52, 3) := by decide +kernel
theorem dX13_mostSpecial_167 : decode cX13_mostSpecial 167 = .ok (.iload 6, 2) := by decide +kernel
theorem dX13_mostSpecial_169 : decode cX13_mostSpecial 169 = .ok (.iload 8, 2) := by decide +kernel
theorem dX13_mostSpecial_171 : decode cX13_mostSpecial 171 = .ok (.if_icmp .eq 32, 3) := by decide +kernel
theorem dX13_mostSpecial_174 : decode cX13_mostSpecial 174 = .ok (.aload_n 0, 1) := by decide +kernel
theorem dX13_mostSpecial_175 : decode cX13_mostSpecial 175 = .ok (.aload_n 0, 1) := by decide +kernel
theorem dX13_mostSpecial_176 : decode cX13_mostSpecial 176 = .ok (.aload_n 0, 1) := by decide +kernel
theorem dX13_mostSpecial_177 : decode cX13_mostSpecial 177 = .ok (.getfield 637, 3) := by decide +kernel
theorem dX13_mostSpecial_180 : decode cX13_mostSpecial 180 = .ok (.iload 8, 2) := by decide +kernel
theorem dX13_mostSpecial_182 : decode cX13_mostSpecial 182 = .ok (.iaload, 1) := by decide +kernel
theorem dX13_mostSpecial_183 : decode cX13_mostSpecial 183 = .ok (.invokevirtual 599, 3) := by decide +kernel
theorem dX13_mostSpecial_186 : decode cX13_mostSpecial 186 = .ok (.aload_n 0, 1) := by decide +kernel
theorem dX13_mostSpecial_187 : decode cX13_mostSpecial 187 = .ok (.aload_n 0, 1) := by decide +kernel
theorem dX13_mostSpecial_188 : decode cX13_mostSpecial 188 = .ok (.getfield 637, 3) := by decide +kernel
theorem dX13_mostSpecial_191 : decode cX13_mostSpecial 191 = .ok (.iload 6, 2) := by decide +kernel
theorem dX13_mostSpecial_193 : decode cX13_mostSpecial 193 = .ok (.iaload, 1) := by decide +kernel
theorem dX13_mostSpecial_194 : decode cX13_mostSpecial 194 = .ok (.invokevirtual 599, 3) := by decide +kernel
theorem dX13_mostSpecial_197 : decode cX13_mostSpecial 197 = .ok (.invokevirtual 581, 3) := by decide +kernel
theorem dX13_mostSpecial_200 : decode cX13_mostSpecial 200 = .ok (.ifCond .ne 7, 3) := by decide +kernel
theorem dX13_mostSpecial_203 : decode cX13_mostSpecial 203 = .ok (.iconst 1, 1) := by decide +kernel
theorem dX13_mostSpecial_204 : decode cX13_mostSpecial 204 = .ok (.goto 4, 3) := by decide +kernel
theorem dX13_mostSpecial_207 : decode cX13_mostSpecial 207 = .ok (.iconst 0, 1) := by decide +kernel
theorem dX13_mostSpecial_208 : decode cX13_mostSpecial 208 = .ok (.istore 7, 2) := by decide +kernel
theorem dX13_mostSpecial_210 : decode cX13_mostSpecial 210 = .ok (.iinc 8 1, 3) := by decide +kernel
theorem dX13_mostSpecial_213 : decode cX13_mostSpecial 213 = .ok (.goto (-58), 3) := by decide +kernel
theorem dX13_mostSpecial_216 : decode cX13_mostSpecial 216 = .ok (.iload 7, 2) := by decide +kernel
theorem dX13_mostSpecial_218 : decode cX13_mostSpecial 218 = .ok (.ifCond .eq 32, 3) := by decide +kernel
theorem dX13_mostSpecial_221 : decode cX13_mostSpecial 221 = .ok (.aload_n 0, 1) := by decide +kernel
theorem dX13_mostSpecial_222 : decode cX13_mostSpecial 222 = .ok (.getfield 436, 3) := by decide +kernel
theorem dX13_mostSpecial_225 : decode cX13_mostSpecial 225 = .ok (.aload_n 0, 1) := by decide +kernel
theorem dX13_mostSpecial_226 : decode cX13_mostSpecial 226 = .ok (.getfield 637, 3) := by decide +kernel
theorem dX13_mostSpecial_229 : decode cX13_mostSpecial 229 = .ok (.iload 6, 2) := by decide +kernel
theorem dX13_mostSpecial_231 : decode cX13_mostSpecial 231 = .ok (.iaload, 1) := by decide +kernel
theorem dX13_mostSpecial_232 : decode cX13_mostSpecial 232 = .ok (.baload, 1) := by decide +kernel
theorem dX13_mostSpecial_233 : decode cX13_mostSpecial 233 = .ok (.ifCond .ne 17, 3) := by decide +kernel
theorem dX13_mostSpecial_236 : decode cX13_mostSpecial 236 = .ok (.aload_n 0, 1) := by decide +kernel
theorem dX13_mostSpecial_237 : decode cX13_mostSpecial 237 = .ok (.aload_n 0, 1) := by decide +kernel
theorem dX13_mostSpecial_238 : decode cX13_mostSpecial 238 = .ok (.getfield 637, 3) := by decide +kernel
theorem dX13_mostSpecial_241 : decode cX13_mostSpecial 241 = .ok (.iload 6, 2) := by decide +kernel
theorem dX13_mostSpecial_243 : decode cX13_mostSpecial 243 = .ok (.iaload, 1) := by decide +kernel
theorem dX13_mostSpecial_244 : decode cX13_mostSpecial 244 = .ok (.putfield 640, 3) := by decide +kernel
theorem dX13_mostSpecial_247 : decode cX13_mostSpecial 247 = .ok (.iinc 5 1, 3) := by decide +kernel
theorem dX13_mostSpecial_250 : decode cX13_mostSpecial 250 = .ok (.iinc 6 1, 3) := by decide +kernel
theorem dX13_mostSpecial_253 : decode cX13_mostSpecial 253 = .ok (.goto (-111), 3) := by decide +kernel
theorem dX13_mostSpecial_256 : decode cX13_mostSpecial 256 = .ok (.iload 5, 2) := by decide +kernel
theorem dX13_mostSpecial_258 : decode cX13_mostSpecial 258 = .ok (.ireturn, 1) := by decide +kernel
theorem dX13_selected_0 : decode cX13_selected 0 = .ok (.aload_n 0, 1) := by decide +kernel
theorem dX13_selected_1 : decode cX13_selected 1 = .ok (.getfield 433, 3) := by decide +kernel
theorem dX13_selected_4 : decode cX13_selected 4 = .ok (.iload_n 1, 1) := by decide +kernel
theorem dX13_selected_5 : decode cX13_selected 5 = .ok (.iaload, 1) := by decide +kernel
theorem dX13_selected_6 : decode cX13_selected 6 = .ok (.ifCond .ne 19, 3) := by decide +kernel
theorem dX13_selected_9 : decode cX13_selected 9 = .ok (.aload_n 0, 1) := by decide +kernel
theorem dX13_selected_10 : decode cX13_selected 10 = .ok (.getfield 436, 3) := by decide +kernel
theorem dX13_selected_13 : decode cX13_selected 13 = .ok (.iload_n 1, 1) := by decide +kernel
theorem dX13_selected_14 : decode cX13_selected 14 = .ok (.baload, 1) := by decide +kernel
theorem dX13_selected_15 : decode cX13_selected 15 = .ok (.ifCond .eq 8, 3) := by decide +kernel
theorem dX13_selected_18 : decode cX13_selected 18 = .ok (.bipush (-6), 2) := by decide +kernel
theorem dX13_selected_20 : decode cX13_selected 20 = .ok (.goto 4, 3) := by decide +kernel
theorem dX13_selected_23 : decode cX13_selected 23 = .ok (.iload_n 1, 1) := by decide +kernel
theorem dX13_selected_24 : decode cX13_selected 24 = .ok (.ireturn, 1) := by decide +kernel
theorem dX13_selected_25 : decode cX13_selected 25 = .ok (.aload_n 0, 1) := by decide +kernel
theorem dX13_selected_26 : decode cX13_selected 26 = .ok (.aload_n 0, 1) := by decide +kernel
theorem dX13_selected_27 : decode cX13_selected 27 = .ok (.iload_n 1, 1) := by decide +kernel
theorem dX13_selected_28 : decode cX13_selected 28 = .ok (.invokevirtual 599, 3) := by decide +kernel
theorem dX13_selected_31 : decode cX13_selected 31 = .ok (.invokevirtual 548, 3) := by decide +kernel
theorem dX13_selected_34 : decode cX13_selected 34 = .ok (.istore_n 3, 1) := by decide +kernel
theorem dX13_selected_35 : decode cX13_selected 35 = .ok (.iload_n 2, 1) := by decide +kernel
theorem dX13_selected_36 : decode cX13_selected 36 = .ok (.istore 4, 2) := by decide +kernel
theorem dX13_selected_38 : decode cX13_selected 38 = .ok (.iconst 0, 1) := by decide +kernel
theorem dX13_selected_39 : decode cX13_selected 39 = .ok (.istore 5, 2) := by decide +kernel
theorem dX13_selected_41 : decode cX13_selected 41 = .ok (.iload 4, 2) := by decide +kernel
theorem dX13_selected_43 : decode cX13_selected 43 = .ok (.bipush (-2), 2) := by decide +kernel
theorem dX13_selected_45 : decode cX13_selected 45 = .ok (.if_icmp .eq 87, 3) := by decide +kernel
theorem dX13_selected_48 : decode cX13_selected 48 = .ok (.iload 5, 2) := by decide +kernel
theorem dX13_selected_50 : decode cX13_selected 50 = .ok (.bipush 80, 2) := by decide +kernel
theorem dX13_selected_52 : decode cX13_selected 52 = .ok (.if_icmp .ge 80, 3) := by decide +kernel
theorem dX13_selected_55 : decode cX13_selected 55 = .ok (.aload_n 0, 1) := by decide +kernel
theorem dX13_selected_56 : decode cX13_selected 56 = .ok (.iload 4, 2) := by decide +kernel
theorem dX13_selected_58 : decode cX13_selected 58 = .ok (.iload_n 1, 1) := by decide +kernel
theorem dX13_selected_59 : decode cX13_selected 59 = .ok (.invokevirtual 627, 3) := by decide +kernel
theorem dX13_selected_62 : decode cX13_selected 62 = .ok (.istore 6, 2) := by decide +kernel
theorem dX13_selected_64 : decode cX13_selected 64 = .ok (.iload 6, 2) := by decide +kernel
theorem dX13_selected_66 : decode cX13_selected 66 = .ok (.bipush (-2), 2) := by decide +kernel
theorem dX13_selected_68 : decode cX13_selected 68 = .ok (.if_icmp .eq 50, 3) := by decide +kernel
theorem dX13_selected_71 : decode cX13_selected 71 = .ok (.aload_n 0, 1) := by decide +kernel
theorem dX13_selected_72 : decode cX13_selected 72 = .ok (.iload 6, 2) := by decide +kernel
theorem dX13_selected_74 : decode cX13_selected 74 = .ok (.invokevirtual 624, 3) := by decide +kernel
theorem dX13_selected_77 : decode cX13_selected 77 = .ok (.ifCond .eq 41, 3) := by decide +kernel
theorem dX13_selected_80 : decode cX13_selected 80 = .ok (.iload 6, 2) := by decide +kernel
theorem dX13_selected_82 : decode cX13_selected 82 = .ok (.iload_n 1, 1) := by decide +kernel
theorem dX13_selected_83 : decode cX13_selected 83 = .ok (.if_icmp .eq 17, 3) := by decide +kernel
theorem dX13_selected_86 : decode cX13_selected 86 = .ok (.iload_n 3, 1) := by decide +kernel
theorem dX13_selected_87 : decode cX13_selected 87 = .ok (.ifCond .ne 13, 3) := by decide +kernel
theorem dX13_selected_90 : decode cX13_selected 90 = .ok (.aload_n 0, 1) := by decide +kernel
theorem dX13_selected_91 : decode cX13_selected 91 = .ok (.iload 6, 2) := by decide +kernel
theorem dX13_selected_93 : decode cX13_selected 93 = .ok (.iload_n 1, 1) := by decide +kernel
theorem dX13_selected_94 : decode cX13_selected 94 = .ok (.invokevirtual 643, 3) := by decide +kernel
theorem dX13_selected_97 : decode cX13_selected 97 = .ok (.ifCond .eq 21, 3) := by decide +kernel
theorem dX13_selected_100 : decode cX13_selected 100 = .ok (.aload_n 0, 1) := by decide +kernel
theorem dX13_selected_101 : decode cX13_selected 101 = .ok (.getfield 436, 3) := by decide +kernel
theorem dX13_selected_104 : decode cX13_selected 104 = .ok (.iload 6, 2) := by decide +kernel
theorem dX13_selected_106 : decode cX13_selected 106 = .ok (.baload, 1) := by decide +kernel
theorem dX13_selected_107 : decode cX13_selected 107 = .ok (.ifCond .eq 8, 3) := by decide +kernel
theorem dX13_selected_110 : decode cX13_selected 110 = .ok (.bipush (-6), 2) := by decide +kernel
theorem dX13_selected_112 : decode cX13_selected 112 = .ok (.goto 5, 3) := by decide +kernel
theorem dX13_selected_115 : decode cX13_selected 115 = .ok (.iload 6, 2) := by decide +kernel
theorem dX13_selected_117 : decode cX13_selected 117 = .ok (.ireturn, 1) := by decide +kernel
theorem dX13_selected_118 : decode cX13_selected 118 = .ok (.aload_n 0, 1) := by decide +kernel
theorem dX13_selected_119 : decode cX13_selected 119 = .ok (.iload 4, 2) := by decide +kernel
theorem dX13_selected_121 : decode cX13_selected 121 = .ok (.invokevirtual 558, 3) := by decide +kernel
theorem dX13_selected_124 : decode cX13_selected 124 = .ok (.istore 4, 2) := by decide +kernel
theorem dX13_selected_126 : decode cX13_selected 126 = .ok (.iinc 5 1, 3) := by decide +kernel
theorem dX13_selected_129 : decode cX13_selected 129 = .ok (.goto (-88), 3) := by decide +kernel
theorem dX13_selected_132 : decode cX13_selected 132 = .ok (.aload_n 0, 1) := by decide +kernel
theorem dX13_selected_133 : decode cX13_selected 133 = .ok (.iload_n 2, 1) := by decide +kernel
theorem dX13_selected_134 : decode cX13_selected 134 = .ok (.iload_n 1, 1) := by decide +kernel
theorem dX13_selected_135 : decode cX13_selected 135 = .ok (.invokevirtual 646, 3) := by decide +kernel
theorem dX13_selected_138 : decode cX13_selected 138 = .ok (.istore 6, 2) := by decide +kernel
theorem dX13_selected_140 : decode cX13_selected 140 = .ok (.iload 6, 2) := by decide +kernel
theorem dX13_selected_142 : decode cX13_selected 142 = .ok (.iconst 1, 1) := by decide +kernel
theorem dX13_selected_143 : decode cX13_selected 143 = .ok (.if_icmp .ne 10, 3) := by decide +kernel
theorem dX13_selected_146 : decode cX13_selected 146 = .ok (.aload_n 0, 1) := by decide +kernel
theorem dX13_selected_147 : decode cX13_selected 147 = .ok (.getfield 640, 3) := by decide +kernel
theorem dX13_selected_150 : decode cX13_selected 150 = .ok (.goto 16, 3) := by decide +kernel
theorem dX13_selected_153 : decode cX13_selected 153 = .ok (.iload 6, 2) := by decide +kernel
theorem dX13_selected_155 : decode cX13_selected 155 = .ok (.iconst 1, 1) := by decide +kernel
