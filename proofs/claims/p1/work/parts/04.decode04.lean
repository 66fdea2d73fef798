theorem dX13_tokenize_116 : decode cX13_tokenize 116 = .ok (.iload_n 1, 1) := by decide +kernel
theorem dX13_tokenize_117 : decode cX13_tokenize 117 = .ok (.istore 5, 2) := by decide +kernel
theorem dX13_tokenize_119 : decode cX13_tokenize 119 = .ok (.aload_n 0, 1) := by decide +kernel
theorem dX13_tokenize_120 : decode cX13_tokenize 120 = .ok (.getfield 110, 3) := by decide +kernel
theorem dX13_tokenize_123 : decode cX13_tokenize 123 = .ok (.iload 4, 2) := by decide +kernel
theorem dX13_tokenize_125 : decode cX13_tokenize 125 = .ok (.iload 5, 2) := by decide +kernel
theorem dX13_tokenize_127 : decode cX13_tokenize 127 = .ok (.iastore, 1) := by decide +kernel
theorem dX13_tokenize_128 : decode cX13_tokenize 128 = .ok (.aload_n 0, 1) := by decide +kernel
theorem dX13_tokenize_129 : decode cX13_tokenize 129 = .ok (.getfield 103, 3) := by decide +kernel
theorem dX13_tokenize_132 : decode cX13_tokenize 132 = .ok (.iload 4, 2) := by decide +kernel
theorem dX13_tokenize_134 : decode cX13_tokenize 134 = .ok (.iaload, 1) := by decide +kernel
theorem dX13_tokenize_135 : decode cX13_tokenize 135 = .ok (.ifCond .eq 26, 3) := by decide +kernel
theorem dX13_tokenize_161 : decode cX13_tokenize 161 = .ok (.iconst 0, 1) := by decide +kernel
theorem dX13_tokenize_162 : decode cX13_tokenize 162 = .ok (.istore_n 3, 1) := by decide +kernel
theorem dX13_tokenize_163 : decode cX13_tokenize 163 = .ok (.iload 5, 2) := by decide +kernel
theorem dX13_tokenize_165 : decode cX13_tokenize 165 = .ok (.istore_n 1, 1) := by decide +kernel
theorem dX13_tokenize_166 : decode cX13_tokenize 166 = .ok (.iinc 2 1, 3) := by decide +kernel
theorem dX13_tokenize_169 : decode cX13_tokenize 169 = .ok (.goto (-163), 3) := by decide +kernel
theorem dX13_tokenize_172 : decode cX13_tokenize 172 = .ok (.aload_n 0, 1) := by decide +kernel
theorem dX13_tokenize_173 : decode cX13_tokenize 173 = .ok (.getfield 113, 3) := by decide +kernel
theorem dX13_tokenize_176 : decode cX13_tokenize 176 = .ok (.aload_n 0, 1) := by decide +kernel
theorem dX13_tokenize_177 : decode cX13_tokenize 177 = .ok (.getfield 84, 3) := by decide +kernel
theorem dX13_tokenize_180 : decode cX13_tokenize 180 = .ok (.iload_n 2, 1) := by decide +kernel
theorem dX13_tokenize_181 : decode cX13_tokenize 181 = .ok (.iastore, 1) := by decide +kernel
theorem dX13_tokenize_182 : decode cX13_tokenize 182 = .ok (.return_, 1) := by decide +kernel
theorem dX13_kindAt_0 : decode cX13_kindAt 0 = .ok (.aload_n 0, 1) := by decide +kernel
theorem dX13_kindAt_1 : decode cX13_kindAt 1 = .ok (.getfield 103, 3) := by decide +kernel
theorem dX13_kindAt_4 : decode cX13_kindAt 4 = .ok (.aload_n 0, 1) := by decide +kernel
theorem dX13_kindAt_5 : decode cX13_kindAt 5 = .ok (.getfield 84, 3) := by decide +kernel
theorem dX13_kindAt_8 : decode cX13_kindAt 8 = .ok (.sipush 702, 3) := by decide +kernel
theorem dX13_kindAt_11 : decode cX13_kindAt 11 = .ok (.imul, 1) := by decide +kernel
theorem dX13_kindAt_12 : decode cX13_kindAt 12 = .ok (.iload_n 1, 1) := by decide +kernel
theorem dX13_kindAt_13 : decode cX13_kindAt 13 = .ok (.iadd, 1) := by decide +kernel
theorem dX13_kindAt_14 : decode cX13_kindAt 14 = .ok (.iaload, 1) := by decide +kernel
theorem dX13_kindAt_15 : decode cX13_kindAt 15 = .ok (.ireturn, 1) := by decide +kernel
theorem dX13_parse_0 : decode cX13_parse 0 = .ok (.aload_n 0, 1) := by decide +kernel
theorem dX13_parse_1 : decode cX13_parse 1 = .ok (.iconst 0, 1) := by decide +kernel
theorem dX13_parse_2 : decode cX13_parse 2 = .ok (.putfield 135, 3) := by decide +kernel
theorem dX13_parse_5 : decode cX13_parse 5 = .ok (.aload_n 0, 1) := by decide +kernel
theorem dX13_parse_6 : decode cX13_parse 6 = .ok (.iconst 0, 1) := by decide +kernel
theorem dX13_parse_7 : decode cX13_parse 7 = .ok (.putfield 227, 3) := by decide +kernel
theorem dX13_parse_10 : decode cX13_parse 10 = .ok (.aload_n 0, 1) := by decide +kernel
theorem dX13_parse_11 : decode cX13_parse 11 = .ok (.getfield 230, 3) := by decide +kernel
theorem dX13_parse_14 : decode cX13_parse 14 = .ok (.aload_n 0, 1) := by decide +kernel
theorem dX13_parse_15 : decode cX13_parse 15 = .ok (.getfield 84, 3) := by decide +kernel
theorem dX13_parse_18 : decode cX13_parse 18 = .ok (.iconst 0, 1) := by decide +kernel
theorem dX13_parse_19 : decode cX13_parse 19 = .ok (.iastore, 1) := by decide +kernel
theorem dX13_parse_20 : decode cX13_parse 20 = .ok (.aload_n 0, 1) := by decide +kernel
theorem dX13_parse_21 : decode cX13_parse 21 = .ok (.getfield 170, 3) := by decide +kernel
theorem dX13_parse_24 : decode cX13_parse 24 = .ok (.aload_n 0, 1) := by decide +kernel
theorem dX13_parse_25 : decode cX13_parse 25 = .ok (.getfield 84, 3) := by decide +kernel
theorem dX13_parse_28 : decode cX13_parse 28 = .ok (.iconst 0, 1) := by decide +kernel
theorem dX13_parse_29 : decode cX13_parse 29 = .ok (.iastore, 1) := by decide +kernel
theorem dX13_parse_30 : decode cX13_parse 30 = .ok (.aload_n 0, 1) := by decide +kernel
theorem dX13_parse_31 : decode cX13_parse 31 = .ok (.getfield 129, 3) := by decide +kernel
theorem dX13_parse_34 : decode cX13_parse 34 = .ok (.ifCond .ne 21, 3) := by decide +kernel
theorem dX13_parse_37 : decode cX13_parse 37 = .ok (.aload_n 0, 1) := by decide +kernel
theorem dX13_parse_38 : decode cX13_parse 38 = .ok (.aload_n 0, 1) := by decide +kernel
theorem dX13_parse_39 : decode cX13_parse 39 = .ok (.getfield 135, 3) := by decide +kernel
theorem dX13_parse_42 : decode cX13_parse 42 = .ok (.invokevirtual 138, 3) := by decide +kernel
theorem dX13_parse_45 : decode cX13_parse 45 = .ok (.ifCond .eq 10, 3) := by decide +kernel
theorem dX13_parse_55 : decode cX13_parse 55 = .ok (.return_, 1) := by decide +kernel
theorem dX13_newMember_0 : decode cX13_newMember 0 = .ok (.aload_n 0, 1) := by decide +kernel
theorem dX13_newMember_1 : decode cX13_newMember 1 = .ok (.getfield 341, 3) := by decide +kernel
theorem dX13_newMember_4 : decode cX13_newMember 4 = .ok (.iload_n 1, 1) := by decide +kernel
theorem dX13_newMember_5 : decode cX13_newMember 5 = .ok (.iconst 0, 1) := by decide +kernel
theorem dX13_newMember_6 : decode cX13_newMember 6 = .ok (.bastore, 1) := by decide +kernel
theorem dX13_newMember_7 : decode cX13_newMember 7 = .ok (.aload_n 0, 1) := by decide +kernel
theorem dX13_newMember_8 : decode cX13_newMember 8 = .ok (.getfield 344, 3) := by decide +kernel
theorem dX13_newMember_11 : decode cX13_newMember 11 = .ok (.iload_n 1, 1) := by decide +kernel
theorem dX13_newMember_12 : decode cX13_newMember 12 = .ok (.iconst 0, 1) := by decide +kernel
theorem dX13_newMember_13 : decode cX13_newMember 13 = .ok (.bastore, 1) := by decide +kernel
theorem dX13_newMember_14 : decode cX13_newMember 14 = .ok (.aload_n 0, 1) := by decide +kernel
theorem dX13_newMember_15 : decode cX13_newMember 15 = .ok (.getfield 347, 3) := by decide +kernel
theorem dX13_newMember_18 : decode cX13_newMember 18 = .ok (.iload_n 1, 1) := by decide +kernel
theorem dX13_newMember_19 : decode cX13_newMember 19 = .ok (.iconst 0, 1) := by decide +kernel
theorem dX13_newMember_20 : decode cX13_newMember 20 = .ok (.bastore, 1) := by decide +kernel
theorem dX13_newMember_21 : decode cX13_newMember 21 = .ok (.aload_n 0, 1) := by decide +kernel
theorem dX13_newMember_22 : decode cX13_newMember 22 = .ok (.getfield 350, 3) := by decide +kernel
theorem dX13_newMember_25 : decode cX13_newMember 25 = .ok (.iload_n 1, 1) := by decide +kernel
theorem dX13_newMember_26 : decode cX13_newMember 26 = .ok (.iconst 0, 1) := by decide +kernel
theorem dX13_newMember_27 : decode cX13_newMember 27 = .ok (.bastore, 1) := by decide +kernel
theorem dX13_newMember_28 : decode cX13_newMember 28 = .ok (.aload_n 0, 1) := by decide +kernel
theorem dX13_newMember_29 : decode cX13_newMember 29 = .ok (.getfield 353, 3) := by decide +kernel
theorem dX13_newMember_32 : decode cX13_newMember 32 = .ok (.iload_n 1, 1) := by decide +kernel
theorem dX13_newMember_33 : decode cX13_newMember 33 = .ok (.iconst 0, 1) := by decide +kernel
theorem dX13_newMember_34 : decode cX13_newMember 34 = .ok (.bastore, 1) := by decide +kernel
theorem dX13_newMember_35 : decode cX13_newMember 35 = .ok (.aload_n 0, 1) := by decide +kernel
theorem dX13_newMember_36 : decode cX13_newMember 36 = .ok (.getfield 356, 3) := by decide +kernel
theorem dX13_newMember_39 : decode cX13_newMember 39 = .ok (.iload_n 1, 1) := by decide +kernel
theorem dX13_newMember_40 : decode cX13_newMember 40 = .ok (.lconst 0, 1) := by decide +kernel
theorem dX13_newMember_41 : decode cX13_newMember 41 = .ok (.lastore, 1) := by decide +kernel
theorem dX13_newMember_42 : decode cX13_newMember 42 = .ok (.aload_n 0, 1) := by decide +kernel
theorem dX13_newMember_43 : decode cX13_newMember 43 = .ok (.getfield 359, 3) := by decide +kernel
theorem dX13_newMember_46 : decode cX13_newMember 46 = .ok (.iload_n 1, 1) := by decide +kernel
theorem dX13_newMember_47 : decode cX13_newMember 47 = .ok (.lconst 1, 1) := by decide +kernel
theorem dX13_newMember_48 : decode cX13_newMember 48 = .ok (.lastore, 1) := by decide +kernel
theorem dX13_newMember_49 : decode cX13_newMember 49 = .ok (.aload_n 0, 1) := by decide +kernel
theorem dX13_newMember_50 : decode cX13_newMember 50 = .ok (.getfield 362, 3) := by decide +kernel
theorem dX13_newMember_53 : decode cX13_newMember 53 = .ok (.iload_n 1, 1) := by decide +kernel
theorem dX13_newMember_54 : decode cX13_newMember 54 = .ok (.iconst 0, 1) := by decide +kernel
theorem dX13_newMember_55 : decode cX13_newMember 55 = .ok (.iastore, 1) := by decide +kernel
theorem dX13_newMember_56 : decode cX13_newMember 56 = .ok (.aload_n 0, 1) := by decide +kernel
theorem dX13_newMember_57 : decode cX13_newMember 57 = .ok (.getfield 365, 3) := by decide +kernel
theorem dX13_newMember_60 : decode cX13_newMember 60 = .ok (.iload_n 1, 1) := by decide +kernel
theorem dX13_newMember_61 : decode cX13_newMember 61 = .ok (.bipush (-2), 2) := by decide +kernel
theorem dX13_newMember_63 : decode cX13_newMember 63 = .ok (.iastore, 1) := by decide +kernel
theorem dX13_newMember_64 : decode cX13_newMember 64 = .ok (.aload_n 0, 1) := by decide +kernel
theorem dX13_newMember_65 : decode cX13_newMember 65 = .ok (.getfield 368, 3) := by decide +kernel
theorem dX13_newMember_68 : decode cX13_newMember 68 = .ok (.iload_n 1, 1) := by decide +kernel
theorem dX13_newMember_69 : decode cX13_newMember 69 = .ok (.bipush (-2), 2) := by decide +kernel
theorem dX13_newMember_71 : decode cX13_newMember 71 = .ok (.iastore, 1) := by decide +kernel
theorem dX13_newMember_72 : decode cX13_newMember 72 = .ok (.aload_n 0, 1) := by decide +kernel
theorem dX13_newMember_73 : decode cX13_newMember 73 = .ok (.getfield 371, 3) := by decide +kernel
theorem dX13_newMember_76 : decode cX13_newMember 76 = .ok (.iload_n 1, 1) := by decide +kernel
theorem dX13_newMember_77 : decode cX13_newMember 77 = .ok (.iconst 0, 1) := by decide +kernel
theorem dX13_newMember_78 : decode cX13_newMember 78 = .ok (.iastore, 1) := by decide +kernel
theorem dX13_newMember_79 : decode cX13_newMember 79 = .ok (.aload_n 0, 1) := by decide +kernel
theorem dX13_newMember_80 : decode cX13_newMember 80 = .ok (.getfield 374, 3) := by decide +kernel
theorem dX13_newMember_83 : decode cX13_newMember 83 = .ok (.iload_n 1, 1) := by decide +kernel
theorem dX13_newMember_84 : decode cX13_newMember 84 = .ok (.iconst 0, 1) := by decide +kernel
theorem dX13_newMember_85 : decode cX13_newMember 85 = .ok (.iastore, 1) := by decide +kernel
theorem dX13_newMember_86 : decode cX13_newMember 86 = .ok (.aload_n 0, 1) := by decide +kernel
theorem dX13_newMember_87 : decode cX13_newMember 87 = .ok (.getfield 377, 3) := by decide +kernel
theorem dX13_newMember_90 : decode cX13_newMember 90 = .ok (.iload_n 1, 1) := by decide +kernel
theorem dX13_newMember_91 : decode cX13_newMember 91 = .ok (.iconst 0, 1) := by decide +kernel
theorem dX13_newMember_92 : decode cX13_newMember 92 = .ok (.bastore, 1) := by decide +kernel
theorem dX13_newMember_93 : decode cX13_newMember 93 = .ok (.aload_n 0, 1) := by decide +kernel
theorem dX13_newMember_94 : decode cX13_newMember 94 = .ok (.getfield 380, 3) := by decide +kernel
theorem dX13_newMember_97 : decode cX13_newMember 97 = .ok (.iload_n 1, 1) := by decide +kernel
theorem dX13_newMember_98 : decode cX13_newMember 98 = .ok (.iconst 0, 1) := by decide +kernel
theorem dX13_newMember_99 : decode cX13_newMember 99 = .ok (.iastore, 1) := by decide +kernel
theorem dX13_newMember_100 : decode cX13_newMember 100 = .ok (.aload_n 0, 1) := by decide +kernel
theorem dX13_newMember_101 : decode cX13_newMember 101 = .ok (.getfield 383, 3) := by decide +kernel
theorem dX13_newMember_104 : decode cX13_newMember 104 = .ok (.iload_n 1, 1) := by decide +kernel
theorem dX13_newMember_105 : decode cX13_newMember 105 = .ok (.lconst 0, 1) := by decide +kernel
theorem dX13_newMember_106 : decode cX13_newMember 106 = .ok (.lastore, 1) := by decide +kernel
theorem dX13_newMember_107 : decode cX13_newMember 107 = .ok (.aload_n 0, 1) := by decide +kernel
theorem dX13_newMember_108 : decode cX13_newMember 108 = .ok (.getfield 386, 3) := by decide +kernel
theorem dX13_newMember_111 : decode cX13_newMember 111 = .ok (.iload_n 1, 1) := by decide +kernel
theorem dX13_newMember_112 : decode cX13_newMember 112 = .ok (.bipush (-2), 2) := by decide +kernel
theorem dX13_newMember_114 : decode cX13_newMember 114 = .ok (.iastore, 1) := by decide +kernel
theorem dX13_newMember_115 : decode cX13_newMember 115 = .ok (.aload_n 0, 1) := by decide +kernel
theorem dX13_newMember_116 : decode cX13_newMember 116 = .ok (.getfield 389, 3) := by decide +kernel
theorem dX13_newMember_119 : decode cX13_newMember 119 = .ok (.iload_n 1, 1) := by decide +kernel
theorem dX13_newMember_120 : decode cX13_newMember 120 = .ok (.iconst 0, 1) := by decide +kernel
theorem dX13_newMember_121 : decode cX13_newMember 121 = .ok (.iastore, 1) := by decide +kernel
theorem dX13_newMember_122 : decode cX13_newMember 122 = .ok (.return_, 1) := by decide +kernel
theorem dX13_given_0 : decode cX13_given 0 = .ok (.aload_n 0, 1) := by decide +kernel
theorem dX13_given_1 : decode cX13_given 1 = .ok (.getfield 230, 3) := by decide +kernel
theorem dX13_given_4 : decode cX13_given 4 = .ok (.bipush 17, 2) := by decide +kernel
theorem dX13_given_6 : decode cX13_given 6 = .ok (.iconst 2, 1) := by decide +kernel
theorem dX13_given_7 : decode cX13_given 7 = .ok (.iastore, 1) := by decide +kernel
theorem dX13_given_8 : decode cX13_given 8 = .ok (.iconst 0, 1) := by decide +kernel
theorem dX13_given_9 : decode cX13_given 9 = .ok (.istore_n 1, 1) := by decide +kernel
theorem dX13_given_10 : decode cX13_given 10 = .ok (.iload_n 1, 1) := by decide +kernel
theorem dX13_given_11 : decode cX13_given 11 = .ok (.iconst 2, 1) := by decide +kernel
theorem dX13_given_12 : decode cX13_given 12 = .ok (.if_icmp .ge 153, 3) := by decide +kernel
theorem dX13_given_15 : decode cX13_given 15 = .ok (.sipush 204, 3) := by decide +kernel
theorem dX13_given_18 : decode cX13_given 18 = .ok (.iload_n 1, 1) := by decide +kernel
theorem dX13_given_19 : decode cX13_given 19 = .ok (.iadd, 1) := by decide +kernel
theorem dX13_given_20 : decode cX13_given 20 = .ok (.istore_n 2, 1) := by decide +kernel
theorem dX13_given_21 : decode cX13_given 21 = .ok (.aload_n 0, 1) := by decide +kernel
theorem dX13_given_22 : decode cX13_given 22 = .ok (.getfield 256, 3) := by decide +kernel
theorem dX13_given_25 : decode cX13_given 25 = .ok (.iload_n 2, 1) := by decide +kernel
theorem dX13_given_26 : decode cX13_given 26 = .ok (.iload_n 1, 1) := by decide +kernel
theorem dX13_given_27 : decode cX13_given 27 = .ok (.ifCond .ne 9, 3) := by decide +kernel
theorem dX13_given_30 : decode cX13_given 30 = .ok (.ldc2_w 522, 3) := by decide +kernel
theorem dX13_given_33 : decode cX13_given 33 = .ok (.goto 6, 3) := by decide +kernel
theorem dX13_given_36 : decode cX13_given 36 = .ok (.ldc2_w 524, 3) := by decide +kernel
theorem dX13_given_39 : decode cX13_given 39 = .ok (.lastore, 1) := by decide +kernel
theorem dX13_given_40 : decode cX13_given 40 = .ok (.aload_n 0, 1) := by decide +kernel
theorem dX13_given_41 : decode cX13_given 41 = .ok (.getfield 262, 3) := by decide +kernel
theorem dX13_given_44 : decode cX13_given 44 = .ok (.iload_n 2, 1) := by decide +kernel
theorem dX13_given_45 : decode cX13_given 45 = .ok (.iconst 1, 1) := by decide +kernel
theorem dX13_given_46 : decode cX13_given 46 = .ok (.bastore, 1) := by decide +kernel
theorem dX13_given_47 : decode cX13_given 47 = .ok (.aload_n 0, 1) := by decide +kernel
theorem dX13_given_48 : decode cX13_given 48 = .ok (.getfield 266, 3) := by decide +kernel
theorem dX13_given_51 : decode cX13_given 51 = .ok (.iload_n 2, 1) := by decide +kernel
theorem dX13_given_52 : decode cX13_given 52 = .ok (.iconst 0, 1) := by decide +kernel
theorem dX13_given_53 : decode cX13_given 53 = .ok (.iastore, 1) := by decide +kernel
theorem dX13_given_54 : decode cX13_given 54 = .ok (.aload_n 0, 1) := by decide +kernel
theorem dX13_given_55 : decode cX13_given 55 = .ok (.getfield 275, 3) := by decide +kernel
theorem dX13_given_58 : decode cX13_given 58 = .ok (.iload_n 2, 1) := by decide +kernel
theorem dX13_given_59 : decode cX13_given 59 = .ok (.iconst 0, 1) := by decide +kernel
theorem dX13_given_60 : decode cX13_given 60 = .ok (.iastore, 1) := by decide +kernel
theorem dX13_given_61 : decode cX13_given 61 = .ok (.iload_n 1, 1) := by decide +kernel
theorem dX13_given_62 : decode cX13_given 62 = .ok (.iconst 1, 1) := by decide +kernel
theorem dX13_given_63 : decode cX13_given 63 = .ok (.if_icmp .ne 55, 3) := by decide +kernel
theorem dX13_given_66 : decode cX13_given 66 = .ok (.iload_n 2, 1) := by decide +kernel
theorem dX13_given_67 : decode cX13_given 67 = .ok (.bipush 34, 2) := by decide +kernel
theorem dX13_given_69 : decode cX13_given 69 = .ok (.imul, 1) := by decide +kernel
theorem dX13_given_70 : decode cX13_given 70 = .ok (.istore_n 3, 1) := by decide +kernel
theorem dX13_given_71 : decode cX13_given 71 = .ok (.aload_n 0, 1) := by decide +kernel
theorem dX13_given_72 : decode cX13_given 72 = .ok (.iload_n 3, 1) := by decide +kernel
theorem dX13_given_73 : decode cX13_given 73 = .ok (.invokevirtual 396, 3) := by decide +kernel
theorem dX13_given_76 : decode cX13_given 76 = .ok (.aload_n 0, 1) := by decide +kernel
theorem dX13_given_77 : decode cX13_given 77 = .ok (.getfield 402, 3) := by decide +kernel
theorem dX13_given_80 : decode cX13_given 80 = .ok (.iload_n 3, 1) := by decide +kernel
theorem dX13_given_81 : decode cX13_given 81 = .ok (.iconst 0, 1) := by decide +kernel
theorem dX13_given_82 : decode cX13_given 82 = .ok (.iastore, 1) := by decide +kernel
theorem dX13_given_83 : decode cX13_given 83 = .ok (.aload_n 0, 1) := by decide +kernel
theorem dX13_given_84 : decode cX13_given 84 = .ok (.getfield 433, 3) := by decide +kernel
theorem dX13_given_87 : decode cX13_given 87 = .ok (.iload_n 3, 1) := by decide +kernel
theorem dX13_given_88 : decode cX13_given 88 = .ok (.iconst 3, 1) := by decide +kernel
theorem dX13_given_89 : decode cX13_given 89 = .ok (.iastore, 1) := by decide +kernel
theorem dX13_given_90 : decode cX13_given 90 = .ok (.aload_n 0, 1) := by decide +kernel
theorem dX13_given_91 : decode cX13_given 91 = .ok (.getfield 356, 3) := by decide +kernel
theorem dX13_given_94 : decode cX13_given 94 = .ok (.iload_n 3, 1) := by decide +kernel
theorem dX13_given_95 : decode cX13_given 95 = .ok (.ldc_w 526, 3) := by decide +kernel
theorem dX13_given_98 : decode cX13_given 98 = .ok (.invokestatic 145, 3) := by decide +kernel
theorem dX13_given_101 : decode cX13_given 101 = .ok (.lastore, 1) := by decide +kernel
theorem dX13_given_102 : decode cX13_given 102 = .ok (.aload_n 0, 1) := by decide +kernel
theorem dX13_given_103 : decode cX13_given 103 = .ok (.getfield 359, 3) := by decide +kernel
theorem dX13_given_106 : decode cX13_given 106 = .ok (.iload_n 3, 1) := by decide +kernel
theorem dX13_given_107 : decode cX13_given 107 = .ok (.ldc2_w 43, 3) := by decide +kernel
theorem dX13_given_110 : decode cX13_given 110 = .ok (.lastore, 1) := by decide +kernel
theorem dX13_given_111 : decode cX13_given 111 = .ok (.aload_n 0, 1) := by decide +kernel
theorem dX13_given_112 : decode cX13_given 112 = .ok (.getfield 275, 3) := by decide +kernel
theorem dX13_given_115 : decode cX13_given 115 = .ok (.iload_n 2, 1) := by decide +kernel
theorem dX13_given_116 : decode cX13_given 116 = .ok (.iconst 1, 1) := by decide +kernel
theorem dX13_given_117 : decode cX13_given 117 = .ok (.iastore, 1) := by decide +kernel
theorem dX13_given_118 : decode cX13_given 118 = .ok (.iload_n 2, 1) := by decide +kernel
theorem dX13_given_119 : decode cX13_given 119 = .ok (.bipush 34, 2) := by decide +kernel
theorem dX13_given_121 : decode cX13_given 121 = .ok (.imul, 1) := by decide +kernel
theorem dX13_given_122 : decode cX13_given 122 = .ok (.aload_n 0, 1) := by decide +kernel
theorem dX13_given_123 : decode cX13_given 123 = .ok (.getfield 275, 3) := by decide +kernel
theorem dX13_given_126 : decode cX13_given 126 = .ok (.iload_n 2, 1) := by decide +kernel
theorem dX13_given_127 : decode cX13_given 127 = .ok (.iaload, 1) := by decide +kernel
theorem dX13_given_128 : decode cX13_given 128 = .ok (.iadd, 1) := by decide +kernel
theorem dX13_given_129 : decode cX13_given 129 = .ok (.istore_n 3, 1) := by decide +kernel
theorem dX13_given_130 : decode cX13_given 130 = .ok (.aload_n 0, 1) := by decide +kernel
theorem dX13_given_131 : decode cX13_given 131 = .ok (.iload_n 3, 1) := by decide +kernel
theorem dX13_given_132 : decode cX13_given 132 = .ok (.invokevirtual 396, 3) := by decide +kernel
theorem dX13_given_135 : decode cX13_given 135 = .ok (.aload_n 0, 1) := by decide +kernel
theorem dX13_given_136 : decode cX13_given 136 = .ok (.getfield 402, 3) := by decide +kernel
theorem dX13_given_139 : decode cX13_given 139 = .ok (.iload_n 3, 1) := by decide +kernel
theorem dX13_given_140 : decode cX13_given 140 = .ok (.iconst 2, 1) := by decide +kernel
theorem dX13_given_141 : decode cX13_given 141 = .ok (.iastore, 1) := by decide +kernel
theorem dX13_given_142 : decode cX13_given 142 = .ok (.aload_n 0, 1) := by decide +kernel
theorem dX13_given_143 : decode cX13_given 143 = .ok (.getfield 433, 3) := by decide +kernel
theorem dX13_given_146 : decode cX13_given 146 = .ok (.iload_n 3, 1) := by decide +kernel
theorem dX13_given_147 : decode cX13_given 147 = .ok (.iconst 3, 1) := by decide +kernel
theorem dX13_given_148 : decode cX13_given 148 = .ok (.iastore, 1) := by decide +kernel
theorem dX13_given_149 : decode cX13_given 149 = .ok (.aload_n 0, 1) := by decide +kernel
theorem dX13_given_150 : decode cX13_given 150 = .ok (.getfield 275, 3) := by decide +kernel
theorem dX13_given_153 : decode cX13_given 153 = .ok (.iload_n 2, 1) := by decide +kernel
theorem dX13_given_154 : decode cX13_given 154 = .ok (.dup2, 1) := by decide +kernel
theorem dX13_given_155 : decode cX13_given 155 = .ok (.iaload, 1) := by decide +kernel
theorem dX13_given_156 : decode cX13_given 156 = .ok (.iconst 1, 1) := by decide +kernel
theorem dX13_given_157 : decode cX13_given 157 = .ok (.iadd, 1) := by decide +kernel
theorem dX13_given_158 : decode cX13_given 158 = .ok (.iastore, 1) := by decide +kernel
theorem dX13_given_159 : decode cX13_given 159 = .ok (.iinc 1 1, 3) := by decide +kernel
theorem dX13_given_162 : decode cX13_given 162 = .ok (.goto (-152), 3) := by decide +kernel
theorem dX13_given_165 : decode cX13_given 165 = .ok (.aload_n 0, 1) := by decide +kernel
theorem dX13_given_166 : decode cX13_given 166 = .ok (.sipush 7343, 3) := by decide +kernel
theorem dX13_given_169 : decode cX13_given 169 = .ok (.invokevirtual 396, 3) := by decide +kernel
theorem dX13_given_172 : decode cX13_given 172 = .ok (.aload_n 0, 1) := by decide +kernel
theorem dX13_given_173 : decode cX13_given 173 = .ok (.getfield 402, 3) := by decide +kernel
theorem dX13_given_176 : decode cX13_given 176 = .ok (.sipush 7343, 3) := by decide +kernel
theorem dX13_given_179 : decode cX13_given 179 = .ok (.iconst 1, 1) := by decide +kernel
theorem dX13_given_180 : decode cX13_given 180 = .ok (.iastore, 1) := by decide +kernel
theorem dX13_given_181 : decode cX13_given 181 = .ok (.return_, 1) := by decide +kernel
theorem dX13_heads_0 : decode cX13_heads 0 = .ok (.iconst 0, 1) := by decide +kernel
theorem dX13_heads_1 : decode cX13_heads 1 = .ok (.istore_n 1, 1) := by decide +kernel
theorem dX13_heads_2 : decode cX13_heads 2 = .ok (.iload_n 1, 1) := by decide +kernel
theorem dX13_heads_3 : decode cX13_heads 3 = .ok (.aload_n 0, 1) := by decide +kernel
theorem dX13_heads_4 : decode cX13_heads 4 = .ok (.getfield 230, 3) := by decide +kernel
theorem dX13_heads_7 : decode cX13_heads 7 = .ok (.aload_n 0, 1) := by decide +kernel
theorem dX13_heads_8 : decode cX13_heads 8 = .ok (.getfield 84, 3) := by decide +kernel
theorem dX13_heads_11 : decode cX13_heads 11 = .ok (.iaload, 1) := by decide +kernel
theorem dX13_heads_12 : decode cX13_heads 12 = .ok (.if_icmp .ge 29, 3) := by decide +kernel
theorem dX13_heads_41 : decode cX13_heads 41 = .ok (.iconst 0, 1) := by decide +kernel
theorem dX13_heads_42 : decode cX13_heads 42 = .ok (.istore_n 1, 1) := by decide +kernel
theorem dX13_heads_43 : decode cX13_heads 43 = .ok (.iload_n 1, 1) := by decide +kernel
theorem dX13_heads_44 : decode cX13_heads 44 = .ok (.aload_n 0, 1) := by decide +kernel
theorem dX13_heads_45 : decode cX13_heads 45 = .ok (.getfield 230, 3) := by decide +kernel
theorem dX13_heads_48 : decode cX13_heads 48 = .ok (.aload_n 0, 1) := by decide +kernel
theorem dX13_heads_49 : decode cX13_heads 49 = .ok (.getfield 84, 3) := by decide +kernel
theorem dX13_heads_52 : decode cX13_heads 52 = .ok (.iaload, 1) := by decide +kernel
theorem dX13_heads_53 : decode cX13_heads 53 = .ok (.if_icmp .ge 46, 3) := by decide +kernel
theorem dX13_heads_99 : decode cX13_heads 99 = .ok (.return_, 1) := by decide +kernel
theorem dX13_membersOf_0 : decode cX13_membersOf 0 = .ok (.iconst 0, 1) := by decide +kernel
theorem dX13_membersOf_1 : decode cX13_membersOf 1 = .ok (.istore_n 1, 1) := by decide +kernel
theorem dX13_membersOf_2 : decode cX13_membersOf 2 = .ok (.iload_n 1, 1) := by decide +kernel
theorem dX13_membersOf_3 : decode cX13_membersOf 3 = .ok (.aload_n 0, 1) := by decide +kernel
theorem dX13_membersOf_4 : decode cX13_membersOf 4 = .ok (.getfield 230, 3) := by decide +kernel
theorem dX13_membersOf_7 : decode cX13_membersOf 7 = .ok (.aload_n 0, 1) := by decide +kernel
theorem dX13_membersOf_8 : decode cX13_membersOf 8 = .ok (.getfield 84, 3) := by decide +kernel
theorem dX13_membersOf_11 : decode cX13_membersOf 11 = .ok (.iaload, 1) := by decide +kernel
theorem dX13_membersOf_12 : decode cX13_membersOf 12 = .ok (.if_icmp .ge 308, 3) := by decide +kernel
theorem dX13_membersOf_320 : decode cX13_membersOf 320 = .ok (.return_, 1) := by decide +kernel
theorem dX13_againstAbove_0 : decode cX13_againstAbove 0 = .ok (.iconst 0, 1) := by decide +kernel
theorem dX13_againstAbove_1 : decode cX13_againstAbove 1 = .ok (.istore_n 1, 1) := by decide +kernel
theorem dX13_againstAbove_2 : decode cX13_againstAbove 2 = .ok (.iload_n 1, 1) := by decide +kernel
theorem dX13_againstAbove_3 : decode cX13_againstAbove 3 = .ok (.aload_n 0, 1) := by decide +kernel
theorem dX13_againstAbove_4 : decode cX13_againstAbove 4 = .ok (.getfield 230, 3) := by decide +kernel
theorem dX13_againstAbove_7 : decode cX13_againstAbove 7 = .ok (.aload_n 0, 1) := by decide +kernel
theorem dX13_againstAbove_8 : decode cX13_againstAbove 8 = .ok (.getfield 84, 3) := by decide +kernel
theorem dX13_againstAbove_11 : decode cX13_againstAbove 11 = .ok (.iaload, 1) := by decide +kernel
theorem dX13_againstAbove_12 : decode cX13_againstAbove 12 = .ok (.if_icmp .ge 123, 3) := by decide +kernel
theorem dX13_againstAbove_135 : decode cX13_againstAbove 135 = .ok (.return_, 1) := by decide +kernel
theorem dX13_makersAndBridges_0 : decode cX13_makersAndBridges 0 = .ok (.iconst 0, 1) := by decide +kernel
theorem dX13_makersAndBridges_1 : decode cX13_makersAndBridges 1 = .ok (.istore_n 1, 1) := by decide +kernel
theorem dX13_makersAndBridges_2 : decode cX13_makersAndBridges 2 = .ok (.iload_n 1, 1) := by decide +kernel
theorem dX13_makersAndBridges_3 : decode cX13_makersAndBridges 3 = .ok (.aload_n 0, 1) := by decide +kernel
theorem dX13_makersAndBridges_4 : decode cX13_makersAndBridges 4 = .ok (.getfield 230, 3) := by decide +kernel
theorem dX13_makersAndBridges_7 : decode cX13_makersAndBridges 7 = .ok (.aload_n 0, 1) := by decide +kernel
theorem dX13_makersAndBridges_8 : decode cX13_makersAndBridges 8 = .ok (.getfield 84, 3) := by decide +kernel
theorem dX13_makersAndBridges_11 : decode cX13_makersAndBridges 11 = .ok (.iaload, 1) := by decide +kernel
theorem dX13_makersAndBridges_12 : decode cX13_makersAndBridges 12 = .ok (.if_icmp .ge 170, 3) := by decide +kernel
theorem dX13_makersAndBridges_182 : decode cX13_makersAndBridges 182 = .ok (.iconst 0, 1) := by decide +kernel
theorem dX13_makersAndBridges_183 : decode cX13_makersAndBridges 183 = .ok (.istore_n 1, 1) := by decide +kernel
theorem dX13_makersAndBridges_184 : decode cX13_makersAndBridges 184 = .ok (.iload_n 1, 1) := by decide +kernel
theorem dX13_makersAndBridges_185 : decode cX13_makersAndBridges 185 = .ok (.aload_n 0, 1) := by decide +kernel
theorem dX13_makersAndBridges_186 : decode cX13_makersAndBridges 186 = .ok (.getfield 230, 3) := by decide +kernel
theorem dX13_makersAndBridges_189 : decode cX13_makersAndBridges 189 = .ok (.aload_n 0, 1) := by decide +kernel
theorem dX13_makersAndBridges_190 : decode cX13_makersAndBridges 190 = .ok (.getfield 84, 3) := by decide +kernel
theorem dX13_makersAndBridges_193 : decode cX13_makersAndBridges 193 = .ok (.iaload, 1) := by decide +kernel
theorem dX13_makersAndBridges_194 : decode cX13_makersAndBridges 194 = .ok (.if_icmp .ge 29, 3) := by decide +kernel
theorem dX13_makersAndBridges_223 : decode cX13_makersAndBridges 223 = .ok (.return_, 1) := by decide +kernel
theorem dX13_lacking_0 : decode cX13_lacking 0 = .ok (.iconst 0, 1) := by decide +kernel
theorem dX13_lacking_1 : decode cX13_lacking 1 = .ok (.istore_n 1, 1) := by decide +kernel
theorem dX13_lacking_2 : decode cX13_lacking 2 = .ok (.iload_n 1, 1) := by decide +kernel
theorem dX13_lacking_3 : decode cX13_lacking 3 = .ok (.aload_n 0, 1) := by decide +kernel
theorem dX13_lacking_4 : decode cX13_lacking 4 = .ok (.getfield 230, 3) := by decide +kernel
theorem dX13_lacking_7 : decode cX13_lacking 7 = .ok (.aload_n 0, 1) := by decide +kernel
theorem dX13_lacking_8 : decode cX13_lacking 8 = .ok (.getfield 84, 3) := by decide +kernel
theorem dX13_lacking_11 : decode cX13_lacking 11 = .ok (.iaload, 1) := by decide +kernel
theorem dX13_lacking_12 : decode cX13_lacking 12 = .ok (.if_icmp .ge 123, 3) := by decide +kernel
theorem dX13_lacking_135 : decode cX13_lacking 135 = .ok (.return_, 1) := by decide +kernel
theorem dX13_constants_0 : decode cX13_constants 0 = .ok (.iconst 0, 1) := by decide +kernel
theorem dX13_constants_1 : decode cX13_constants 1 = .ok (.istore_n 1, 1) := by decide +kernel
theorem dX13_constants_2 : decode cX13_constants 2 = .ok (.iload_n 1, 1) := by decide +kernel
theorem dX13_constants_3 : decode cX13_constants 3 = .ok (.aload_n 0, 1) := by decide +kernel
theorem dX13_constants_4 : decode cX13_constants 4 = .ok (.getfield 230, 3) := by decide +kernel
theorem dX13_constants_7 : decode cX13_constants 7 = .ok (.aload_n 0, 1) := by decide +kernel
theorem dX13_constants_8 : decode cX13_constants 8 = .ok (.getfield 84, 3) := by decide +kernel
theorem dX13_constants_11 : decode cX13_constants 11 = .ok (.iaload, 1) := by decide +kernel
theorem dX13_constants_12 : decode cX13_constants 12 = .ok (.if_icmp .ge 164, 3) := by decide +kernel
theorem dX13_constants_176 : decode cX13_constants 176 = .ok (.return_, 1) := by decide +kernel
theorem dX13_bodies_0 : decode cX13_bodies 0 = .ok (.iconst 0, 1) := by decide +kernel
theorem dX13_bodies_1 : decode cX13_bodies 1 = .ok (.istore_n 1, 1) := by decide +kernel
theorem dX13_bodies_2 : decode cX13_bodies 2 = .ok (.iload_n 1, 1) := by decide +kernel
theorem dX13_bodies_3 : decode cX13_bodies 3 = .ok (.aload_n 0, 1) := by decide +kernel
theorem dX13_bodies_4 : decode cX13_bodies 4 = .ok (.getfield 230, 3) := by decide +kernel
theorem dX13_bodies_7 : decode cX13_bodies 7 = .ok (.aload_n 0, 1) := by decide +kernel
theorem dX13_bodies_8 : decode cX13_bodies 8 = .ok (.getfield 84, 3) := by decide +kernel
theorem dX13_bodies_11 : decode cX13_bodies 11 = .ok (.iaload, 1) := by decide +kernel
theorem dX13_bodies_12 : decode cX13_bodies 12 = .ok (.if_icmp .ge 76, 3) := by decide +kernel
theorem dX13_bodies_88 : decode cX13_bodies 88 = .ok (.return_, 1) := by decide +kernel
theorem dX13_usesOfAll_0 : decode cX13_usesOfAll 0 = .ok (.aload_n 0, 1) := by decide +kernel
theorem dX13_usesOfAll_1 : decode cX13_usesOfAll 1 = .ok (.getfield 863, 3) := by decide +kernel
theorem dX13_usesOfAll_4 : decode cX13_usesOfAll 4 = .ok (.aload_n 0, 1) := by decide +kernel
theorem dX13_usesOfAll_5 : decode cX13_usesOfAll 5 = .ok (.getfield 84, 3) := by decide +kernel
theorem dX13_usesOfAll_8 : decode cX13_usesOfAll 8 = .ok (.iconst 0, 1) := by decide +kernel
theorem dX13_usesOfAll_9 : decode cX13_usesOfAll 9 = .ok (.iastore, 1) := by decide +kernel
theorem dX13_usesOfAll_10 : decode cX13_usesOfAll 10 = .ok (.iconst 0, 1) := by decide +kernel
theorem dX13_usesOfAll_11 : decode cX13_usesOfAll 11 = .ok (.istore_n 1, 1) := by decide +kernel
theorem dX13_usesOfAll_12 : decode cX13_usesOfAll 12 = .ok (.iload_n 1, 1) := by decide +kernel
theorem dX13_usesOfAll_13 : decode cX13_usesOfAll 13 = .ok (.aload_n 0, 1) := by decide +kernel
theorem dX13_usesOfAll_14 : decode cX13_usesOfAll 14 = .ok (.getfield 230, 3) := by decide +kernel
theorem dX13_usesOfAll_17 : decode cX13_usesOfAll 17 = .ok (.aload_n 0, 1) := by decide +kernel
theorem dX13_usesOfAll_18 : decode cX13_usesOfAll 18 = .ok (.getfield 84, 3) := by decide +kernel
theorem dX13_usesOfAll_21 : decode cX13_usesOfAll 21 = .ok (.iaload, 1) := by decide +kernel
theorem dX13_usesOfAll_22 : decode cX13_usesOfAll 22 = .ok (.if_icmp .ge 22, 3) := by decide +kernel
theorem dX13_usesOfAll_44 : decode cX13_usesOfAll 44 = .ok (.return_, 1) := by decide +kernel
theorem dX13_make_0 : decode cX13_make 0 = .ok (.aload_n 0, 1) := by decide +kernel
theorem dX13_make_1 : decode cX13_make 1 = .ok (.iload_n 1, 1) := by decide +kernel
theorem dX13_make_2 : decode cX13_make 2 = .ok (.invokevirtual 944, 3) := by decide +kernel
theorem dX13_make_5 : decode cX13_make 5 = .ok (.ifCond .ne 5, 3) := by decide +kernel
theorem dX13_make_8 : decode cX13_make 8 = .ok (.iconst (-1), 1) := by decide +kernel
theorem dX13_make_9 : decode cX13_make 9 = .ok (.ireturn, 1) := by decide +kernel
theorem dX13_make_10 : decode cX13_make 10 = .ok (.aload_n 0, 1) := by decide +kernel
theorem dX13_make_11 : decode cX13_make 11 = .ok (.getfield 947, 3) := by decide +kernel
theorem dX13_make_14 : decode cX13_make 14 = .ok (.iload_n 1, 1) := by decide +kernel
theorem dX13_make_15 : decode cX13_make 15 = .ok (.iaload, 1) := by decide +kernel
theorem dX13_make_16 : decode cX13_make 16 = .ok (.bipush 8, 2) := by decide +kernel
theorem dX13_make_18 : decode cX13_make 18 = .ok (.if_icmp .eq 12, 3) := by decide +kernel
theorem dX13_make_21 : decode cX13_make 21 = .ok (.aload_n 0, 1) := by decide +kernel
theorem dX13_make_22 : decode cX13_make 22 = .ok (.getfield 950, 3) := by decide +kernel
theorem dX13_make_25 : decode cX13_make 25 = .ok (.bipush 16, 2) := by decide +kernel
theorem dX13_make_27 : decode cX13_make 27 = .ok (.if_icmp .ne 6, 3) := by decide +kernel
theorem dX13_make_33 : decode cX13_make 33 = .ok (.aload_n 0, 1) := by decide +kernel
theorem dX13_make_34 : decode cX13_make 34 = .ok (.aload_n 0, 1) := by decide +kernel
theorem dX13_make_35 : decode cX13_make 35 = .ok (.getfield 950, 3) := by decide +kernel
theorem dX13_make_38 : decode cX13_make 38 = .ok (.putfield 84, 3) := by decide +kernel
theorem dX13_make_41 : decode cX13_make 41 = .ok (.iconst 0, 1) := by decide +kernel
theorem dX13_make_42 : decode cX13_make 42 = .ok (.istore_n 2, 1) := by decide +kernel
theorem dX13_make_43 : decode cX13_make 43 = .ok (.iload_n 2, 1) := by decide +kernel
theorem dX13_make_44 : decode cX13_make 44 = .ok (.aload_n 0, 1) := by decide +kernel
theorem dX13_make_45 : decode cX13_make 45 = .ok (.getfield 57, 3) := by decide +kernel
theorem dX13_make_48 : decode cX13_make 48 = .ok (.if_icmp .ge 31, 3) := by decide +kernel
theorem dX13_make_79 : decode cX13_make 79 = .ok (.aload_n 0, 1) := by decide +kernel
theorem dX13_make_80 : decode cX13_make 80 = .ok (.getfield 81, 3) := by decide +kernel
theorem dX13_make_83 : decode cX13_make 83 = .ok (.aload_n 0, 1) := by decide +kernel
theorem dX13_make_84 : decode cX13_make 84 = .ok (.getfield 84, 3) := by decide +kernel
theorem dX13_make_87 : decode cX13_make 87 = .ok (.aload_n 0, 1) := by decide +kernel
theorem dX13_make_88 : decode cX13_make 88 = .ok (.getfield 57, 3) := by decide +kernel
theorem dX13_make_91 : decode cX13_make 91 = .ok (.iastore, 1) := by decide +kernel
theorem dX13_make_92 : decode cX13_make 92 = .ok (.aload_n 0, 1) := by decide +kernel
theorem dX13_make_93 : decode cX13_make 93 = .ok (.getfield 538, 3) := by decide +kernel
theorem dX13_make_96 : decode cX13_make 96 = .ok (.aload_n 0, 1) := by decide +kernel
theorem dX13_make_97 : decode cX13_make 97 = .ok (.getfield 84, 3) := by decide +kernel
theorem dX13_make_100 : decode cX13_make 100 = .ok (.iload_n 1, 1) := by decide +kernel
theorem dX13_make_101 : decode cX13_make 101 = .ok (.iastore, 1) := by decide +kernel
theorem dX13_make_102 : decode cX13_make 102 = .ok (.aload_n 0, 1) := by decide +kernel
theorem dX13_make_103 : decode cX13_make 103 = .ok (.iconst 0, 1) := by decide +kernel
theorem dX13_make_104 : decode cX13_make 104 = .ok (.putfield 57, 3) := by decide +kernel
theorem dX13_make_107 : decode cX13_make 107 = .ok (.aload_n 0, 1) := by decide +kernel
theorem dX13_make_108 : decode cX13_make 108 = .ok (.iconst 0, 1) := by decide +kernel
theorem dX13_make_109 : decode cX13_make 109 = .ok (.putfield 129, 3) := by decide +kernel
theorem dX13_make_112 : decode cX13_make 112 = .ok (.aload_n 0, 1) := by decide +kernel
theorem dX13_make_113 : decode cX13_make 113 = .ok (.bipush (-2), 2) := by decide +kernel
theorem dX13_make_115 : decode cX13_make 115 = .ok (.putfield 132, 3) := by decide +kernel
theorem dX13_make_118 : decode cX13_make 118 = .ok (.aload_n 0, 1) := by decide +kernel
theorem dX13_make_119 : decode cX13_make 119 = .ok (.invokevirtual 953, 3) := by decide +kernel
theorem dX13_make_122 : decode cX13_make 122 = .ok (.aload_n 0, 1) := by decide +kernel
theorem dX13_make_123 : decode cX13_make 123 = .ok (.invokevirtual 956, 3) := by decide +kernel
theorem dX13_make_126 : decode cX13_make 126 = .ok (.aload_n 0, 1) := by decide +kernel
theorem dX13_make_127 : decode cX13_make 127 = .ok (.getfield 129, 3) := by decide +kernel
theorem dX13_make_130 : decode cX13_make 130 = .ok (.ifCond .ne 7, 3) := by decide +kernel
theorem dX13_make_133 : decode cX13_make 133 = .ok (.aload_n 0, 1) := by decide +kernel
theorem dX13_make_134 : decode cX13_make 134 = .ok (.invokevirtual 959, 3) := by decide +kernel
theorem dX13_make_137 : decode cX13_make 137 = .ok (.aload_n 0, 1) := by decide +kernel
theorem dX13_make_138 : decode cX13_make 138 = .ok (.aload_n 0, 1) := by decide +kernel
theorem dX13_make_139 : decode cX13_make 139 = .ok (.getfield 129, 3) := by decide +kernel
theorem dX13_make_142 : decode cX13_make 142 = .ok (.ifCond .ne 8, 3) := by decide +kernel
theorem dX13_make_145 : decode cX13_make 145 = .ok (.bipush (-2), 2) := by decide +kernel
theorem dX13_make_147 : decode cX13_make 147 = .ok (.goto 7, 3) := by decide +kernel
theorem dX13_make_154 : decode cX13_make 154 = .ok (.putfield 962, 3) := by decide +kernel
theorem dX13_make_157 : decode cX13_make 157 = .ok (.aload_n 0, 1) := by decide +kernel
theorem dX13_make_158 : decode cX13_make 158 = .ok (.getfield 129, 3) := by decide +kernel
theorem dX13_make_161 : decode cX13_make 161 = .ok (.ifCond .eq 11, 3) := by decide +kernel
theorem dX13_make_172 : decode cX13_make 172 = .ok (.aload_n 0, 1) := by decide +kernel
theorem dX13_make_173 : decode cX13_make 173 = .ok (.getfield 965, 3) := by decide +kernel
theorem dX13_make_176 : decode cX13_make 176 = .ok (.bipush 8, 2) := by decide +kernel
theorem dX13_make_178 : decode cX13_make 178 = .ok (.iload_n 1, 1) := by decide +kernel
theorem dX13_make_179 : decode cX13_make 179 = .ok (.imul, 1) := by decide +kernel
theorem dX13_make_180 : decode cX13_make 180 = .ok (.aload_n 0, 1) := by decide +kernel
theorem dX13_make_181 : decode cX13_make 181 = .ok (.getfield 947, 3) := by decide +kernel
theorem dX13_make_184 : decode cX13_make 184 = .ok (.iload_n 1, 1) := by decide +kernel
theorem dX13_make_185 : decode cX13_make 185 = .ok (.iaload, 1) := by decide +kernel
theorem dX13_make_186 : decode cX13_make 186 = .ok (.iadd, 1) := by decide +kernel
theorem dX13_make_187 : decode cX13_make 187 = .ok (.aload_n 0, 1) := by decide +kernel
theorem dX13_make_188 : decode cX13_make 188 = .ok (.getfield 84, 3) := by decide +kernel
theorem dX13_make_191 : decode cX13_make 191 = .ok (.iastore, 1) := by decide +kernel
theorem dX13_make_192 : decode cX13_make 192 = .ok (.aload_n 0, 1) := by decide +kernel
theorem dX13_make_193 : decode cX13_make 193 = .ok (.getfield 947, 3) := by decide +kernel
theorem dX13_make_196 : decode cX13_make 196 = .ok (.iload_n 1, 1) := by decide +kernel
theorem dX13_make_197 : decode cX13_make 197 = .ok (.dup2, 1) := by decide +kernel
theorem dX13_make_198 : decode cX13_make 198 = .ok (.iaload, 1) := by decide +kernel
theorem dX13_make_199 : decode cX13_make 199 = .ok (.iconst 1, 1) := by decide +kernel
theorem dX13_make_200 : decode cX13_make 200 = .ok (.iadd, 1) := by decide +kernel
theorem dX13_make_201 : decode cX13_make 201 = .ok (.iastore, 1) := by decide +kernel
theorem dX13_make_202 : decode cX13_make 202 = .ok (.aload_n 0, 1) := by decide +kernel
theorem dX13_make_203 : decode cX13_make 203 = .ok (.dup, 1) := by decide +kernel
theorem dX13_make_204 : decode cX13_make 204 = .ok (.getfield 950, 3) := by decide +kernel
theorem dX13_make_207 : decode cX13_make 207 = .ok (.iconst 1, 1) := by decide +kernel
theorem dX13_make_208 : decode cX13_make 208 = .ok (.iadd, 1) := by decide +kernel
theorem dX13_make_209 : decode cX13_make 209 = .ok (.putfield 950, 3) := by decide +kernel
theorem dX13_make_212 : decode cX13_make 212 = .ok (.aload_n 0, 1) := by decide +kernel
theorem dX13_make_213 : decode cX13_make 213 = .ok (.getfield 947, 3) := by decide +kernel
theorem dX13_make_216 : decode cX13_make 216 = .ok (.iload_n 1, 1) := by decide +kernel
theorem dX13_make_217 : decode cX13_make 217 = .ok (.iaload, 1) := by decide +kernel
theorem dX13_make_218 : decode cX13_make 218 = .ok (.iconst 1, 1) := by decide +kernel
theorem dX13_make_219 : decode cX13_make 219 = .ok (.isub, 1) := by decide +kernel
theorem dX13_make_220 : decode cX13_make 220 = .ok (.ireturn, 1) := by decide +kernel
theorem dX13_judgeAll_0 : decode cX13_judgeAll 0 = .ok (.aload_n 0, 1) := by decide +kernel
theorem dX13_judgeAll_1 : decode cX13_judgeAll 1 = .ok (.aload_n 0, 1) := by decide +kernel
theorem dX13_judgeAll_2 : decode cX13_judgeAll 2 = .ok (.getfield 84, 3) := by decide +kernel
theorem dX13_judgeAll_5 : decode cX13_judgeAll 5 = .ok (.putfield 528, 3) := by decide +kernel
theorem dX13_judgeAll_8 : decode cX13_judgeAll 8 = .ok (.aload_n 0, 1) := by decide +kernel
theorem dX13_judgeAll_9 : decode cX13_judgeAll 9 = .ok (.invokevirtual 968, 3) := by decide +kernel
theorem dX13_judgeAll_12 : decode cX13_judgeAll 12 = .ok (.aload_n 0, 1) := by decide +kernel
theorem dX13_judgeAll_13 : decode cX13_judgeAll 13 = .ok (.getfield 129, 3) := by decide +kernel
theorem dX13_judgeAll_16 : decode cX13_judgeAll 16 = .ok (.ifCond .ne 7, 3) := by decide +kernel
theorem dX13_judgeAll_19 : decode cX13_judgeAll 19 = .ok (.aload_n 0, 1) := by decide +kernel
theorem dX13_judgeAll_20 : decode cX13_judgeAll 20 = .ok (.invokevirtual 971, 3) := by decide +kernel
theorem dX13_judgeAll_23 : decode cX13_judgeAll 23 = .ok (.aload_n 0, 1) := by decide +kernel
theorem dX13_judgeAll_24 : decode cX13_judgeAll 24 = .ok (.getfield 129, 3) := by decide +kernel
theorem dX13_judgeAll_27 : decode cX13_judgeAll 27 = .ok (.ifCond .ne 7, 3) := by decide +kernel
theorem dX13_judgeAll_30 : decode cX13_judgeAll 30 = .ok (.aload_n 0, 1) := by decide +kernel
theorem dX13_judgeAll_31 : decode cX13_judgeAll 31 = .ok (.invokevirtual 974, 3) := by decide +kernel
theorem dX13_judgeAll_34 : decode cX13_judgeAll 34 = .ok (.aload_n 0, 1) := by decide +kernel
theorem dX13_judgeAll_35 : decode cX13_judgeAll 35 = .ok (.getfield 129, 3) := by decide +kernel
theorem dX13_judgeAll_38 : decode cX13_judgeAll 38 = .ok (.ifCond .ne 7, 3) := by decide +kernel
theorem dX13_judgeAll_41 : decode cX13_judgeAll 41 = .ok (.aload_n 0, 1) := by decide +kernel
theorem dX13_judgeAll_42 : decode cX13_judgeAll 42 = .ok (.invokevirtual 977, 3) := by decide +kernel
theorem dX13_judgeAll_45 : decode cX13_judgeAll 45 = .ok (.aload_n 0, 1) := by decide +kernel
theorem dX13_judgeAll_46 : decode cX13_judgeAll 46 = .ok (.getfield 129, 3) := by decide +kernel
theorem dX13_judgeAll_49 : decode cX13_judgeAll 49 = .ok (.ifCond .ne 7, 3) := by decide +kernel
theorem dX13_judgeAll_52 : decode cX13_judgeAll 52 = .ok (.aload_n 0, 1) := by decide +kernel
theorem dX13_judgeAll_53 : decode cX13_judgeAll 53 = .ok (.invokevirtual 980, 3) := by decide +kernel
theorem dX13_judgeAll_56 : decode cX13_judgeAll 56 = .ok (.aload_n 0, 1) := by decide +kernel
theorem dX13_judgeAll_57 : decode cX13_judgeAll 57 = .ok (.getfield 129, 3) := by decide +kernel
theorem dX13_judgeAll_60 : decode cX13_judgeAll 60 = .ok (.ifCond .ne 11, 3) := by decide +kernel
theorem dX13_judgeAll_63 : decode cX13_judgeAll 63 = .ok (.aload_n 0, 1) := by decide +kernel
theorem dX13_judgeAll_64 : decode cX13_judgeAll 64 = .ok (.invokevirtual 983, 3) := by decide +kernel
theorem dX13_judgeAll_67 : decode cX13_judgeAll 67 = .ok (.aload_n 0, 1) := by decide +kernel
theorem dX13_judgeAll_68 : decode cX13_judgeAll 68 = .ok (.invokevirtual 986, 3) := by decide +kernel
theorem dX13_judgeAll_71 : decode cX13_judgeAll 71 = .ok (.aload_n 0, 1) := by decide +kernel
theorem dX13_judgeAll_72 : decode cX13_judgeAll 72 = .ok (.getfield 129, 3) := by decide +kernel
theorem dX13_judgeAll_75 : decode cX13_judgeAll 75 = .ok (.ifCond .ne 7, 3) := by decide +kernel
theorem dX13_judgeAll_78 : decode cX13_judgeAll 78 = .ok (.aload_n 0, 1) := by decide +kernel
theorem dX13_judgeAll_79 : decode cX13_judgeAll 79 = .ok (.invokevirtual 989, 3) := by decide +kernel
theorem dX13_judgeAll_82 : decode cX13_judgeAll 82 = .ok (.aload_n 0, 1) := by decide +kernel
theorem dX13_judgeAll_83 : decode cX13_judgeAll 83 = .ok (.bipush (-2), 2) := by decide +kernel
theorem dX13_judgeAll_85 : decode cX13_judgeAll 85 = .ok (.putfield 528, 3) := by decide +kernel
theorem dX13_judgeAll_88 : decode cX13_judgeAll 88 = .ok (.return_, 1) := by decide +kernel
theorem dX13_isLib_0 : decode cX13_isLib 0 = .ok (.iload_n 1, 1) := by decide +kernel
theorem dX13_isLib_1 : decode cX13_isLib 1 = .ok (.ifCond .lt 12, 3) := by decide +kernel
theorem dX13_isLib_4 : decode cX13_isLib 4 = .ok (.iload_n 1, 1) := by decide +kernel
theorem dX13_isLib_5 : decode cX13_isLib 5 = .ok (.iconst 5, 1) := by decide +kernel
theorem dX13_isLib_6 : decode cX13_isLib 6 = .ok (.if_icmp .ge 7, 3) := by decide +kernel
theorem dX13_isLib_9 : decode cX13_isLib 9 = .ok (.iconst 1, 1) := by decide +kernel
theorem dX13_isLib_10 : decode cX13_isLib 10 = .ok (.goto 4, 3) := by decide +kernel
theorem dX13_isLib_13 : decode cX13_isLib 13 = .ok (.iconst 0, 1) := by decide +kernel
theorem dX13_isLib_14 : decode cX13_isLib 14 = .ok (.ireturn, 1) := by decide +kernel
theorem dX13_slotAt_0 : decode cX13_slotAt 0 = .ok (.aload_n 0, 1) := by decide +kernel
theorem dX13_slotAt_1 : decode cX13_slotAt 1 = .ok (.iload_n 1, 1) := by decide +kernel
theorem dX13_slotAt_2 : decode cX13_slotAt 2 = .ok (.invokevirtual 944, 3) := by decide +kernel
theorem dX13_slotAt_5 : decode cX13_slotAt 5 = .ok (.ifCond .eq 31, 3) := by decide +kernel
theorem dX13_slotAt_8 : decode cX13_slotAt 8 = .ok (.iload_n 2, 1) := by decide +kernel
theorem dX13_slotAt_9 : decode cX13_slotAt 9 = .ok (.ifCond .lt 27, 3) := by decide +kernel
theorem dX13_slotAt_12 : decode cX13_slotAt 12 = .ok (.iload_n 2, 1) := by decide +kernel
theorem dX13_slotAt_13 : decode cX13_slotAt 13 = .ok (.aload_n 0, 1) := by decide +kernel
theorem dX13_slotAt_14 : decode cX13_slotAt 14 = .ok (.getfield 947, 3) := by decide +kernel
theorem dX13_slotAt_17 : decode cX13_slotAt 17 = .ok (.iload_n 1, 1) := by decide +kernel
theorem dX13_slotAt_18 : decode cX13_slotAt 18 = .ok (.iaload, 1) := by decide +kernel
theorem dX13_slotAt_19 : decode cX13_slotAt 19 = .ok (.if_icmp .ge 17, 3) := by decide +kernel
theorem dX13_slotAt_36 : decode cX13_slotAt 36 = .ok (.bipush (-2), 2) := by decide +kernel
theorem dX13_slotAt_38 : decode cX13_slotAt 38 = .ok (.ireturn, 1) := by decide +kernel
theorem dX13_place_0 : decode cX13_place 0 = .ok (.aload_n 0, 1) := by decide +kernel
theorem dX13_place_1 : decode cX13_place 1 = .ok (.getfield 962, 3) := by decide +kernel
theorem dX13_place_4 : decode cX13_place 4 = .ok (.ireturn, 1) := by decide +kernel
theorem dX13_builds_0 : decode cX13_builds 0 = .ok (.aload_n 0, 1) := by decide +kernel
theorem dX13_builds_1 : decode cX13_builds 1 = .ok (.iload_n 1, 1) := by decide +kernel
theorem dX13_builds_2 : decode cX13_builds 2 = .ok (.invokevirtual 944, 3) := by decide +kernel
theorem dX13_builds_5 : decode cX13_builds 5 = .ok (.ifCond .eq 12, 3) := by decide +kernel
theorem dX13_builds_8 : decode cX13_builds 8 = .ok (.aload_n 0, 1) := by decide +kernel
theorem dX13_builds_9 : decode cX13_builds 9 = .ok (.getfield 947, 3) := by decide +kernel
theorem dX13_builds_12 : decode cX13_builds 12 = .ok (.iload_n 1, 1) := by decide +kernel
theorem dX13_builds_13 : decode cX13_builds 13 = .ok (.iaload, 1) := by decide +kernel
theorem dX13_builds_14 : decode cX13_builds 14 = .ok (.goto 4, 3) := by decide +kernel
theorem dX13_builds_17 : decode cX13_builds 17 = .ok (.iconst (-1), 1) := by decide +kernel
theorem dX13_builds_18 : decode cX13_builds 18 = .ok (.ireturn, 1) := by decide +kernel
theorem dX13_text_0 : decode cX13_text 0 = .ok (.aload_n 0, 1) := by decide +kernel
theorem dX13_text_1 : decode cX13_text 1 = .ok (.iload_n 1, 1) := by decide +kernel
theorem dX13_text_2 : decode cX13_text 2 = .ok (.iload_n 2, 1) := by decide +kernel
theorem dX13_text_3 : decode cX13_text 3 = .ok (.invokevirtual 992, 3) := by decide +kernel
theorem dX13_text_6 : decode cX13_text 6 = .ok (.istore_n 3, 1) := by decide +kernel
theorem dX13_text_7 : decode cX13_text 7 = .ok (.iload_n 3, 1) := by decide +kernel
theorem dX13_text_8 : decode cX13_text 8 = .ok (.bipush (-2), 2) := by decide +kernel
theorem dX13_text_10 : decode cX13_text 10 = .ok (.if_icmp .ne 5, 3) := by decide +kernel
theorem dX13_text_13 : decode cX13_text 13 = .ok (.iconst (-1), 1) := by decide +kernel
theorem dX13_text_14 : decode cX13_text 14 = .ok (.ireturn, 1) := by decide +kernel
theorem dX13_pick_0 : decode cX13_pick 0 = .ok (.aload_n 0, 1) := by decide +kernel
theorem dX13_pick_1 : decode cX13_pick 1 = .ok (.iload_n 1, 1) := by decide +kernel
theorem dX13_pick_2 : decode cX13_pick 2 = .ok (.invokevirtual 944, 3) := by decide +kernel
theorem dX13_pick_5 : decode cX13_pick 5 = .ok (.ifCond .eq 20, 3) := by decide +kernel
theorem dX13_pick_8 : decode cX13_pick 8 = .ok (.iload_n 2, 1) := by decide +kernel
theorem dX13_pick_9 : decode cX13_pick 9 = .ok (.bipush (-2), 2) := by decide +kernel
theorem dX13_pick_11 : decode cX13_pick 11 = .ok (.if_icmp .eq 16, 3) := by decide +kernel
theorem dX13_pick_14 : decode cX13_pick 14 = .ok (.aload_n 0, 1) := by decide +kernel
theorem dX13_pick_15 : decode cX13_pick 15 = .ok (.iload_n 1, 1) := by decide +kernel
theorem dX13_pick_16 : decode cX13_pick 16 = .ok (.iload_n 2, 1) := by decide +kernel
theorem dX13_pick_17 : decode cX13_pick 17 = .ok (.invokevirtual 992, 3) := by decide +kernel
theorem dX13_pick_20 : decode cX13_pick 20 = .ok (.bipush (-2), 2) := by decide +kernel
theorem dX13_pick_22 : decode cX13_pick 22 = .ok (.if_icmp .ne 5, 3) := by decide +kernel
theorem dX13_pick_25 : decode cX13_pick 25 = .ok (.iconst (-1), 1) := by decide +kernel
theorem dX13_pick_26 : decode cX13_pick 26 = .ok (.ireturn, 1) := by decide +kernel
theorem dX13_pick_27 : decode cX13_pick 27 = .ok (.aload_n 0, 1) := by decide +kernel
theorem dX13_pick_28 : decode cX13_pick 28 = .ok (.iload_n 1, 1) := by decide +kernel
theorem dX13_pick_29 : decode cX13_pick 29 = .ok (.invokevirtual 995, 3) := by decide +kernel
theorem dX13_pick_32 : decode cX13_pick 32 = .ok (.istore_n 3, 1) := by decide +kernel
theorem dX13_pick_33 : decode cX13_pick 33 = .ok (.aload_n 0, 1) := by decide +kernel
theorem dX13_pick_34 : decode cX13_pick 34 = .ok (.getfield 535, 3) := by decide +kernel
theorem dX13_pick_37 : decode cX13_pick 37 = .ok (.iload_n 1, 1) := by decide +kernel
theorem dX13_pick_38 : decode cX13_pick 38 = .ok (.iload_n 2, 1) := by decide +kernel
theorem dX13_pick_39 : decode cX13_pick 39 = .ok (.bipush (-2), 2) := by decide +kernel
theorem dX13_pick_41 : decode cX13_pick 41 = .ok (.if_icmp .ne 8, 3) := by decide +kernel
theorem dX13_pick_44 : decode cX13_pick 44 = .ok (.bipush (-2), 2) := by decide +kernel
theorem dX13_pick_46 : decode cX13_pick 46 = .ok (.goto 9, 3) := by decide +kernel
theorem dX13_pick_55 : decode cX13_pick 55 = .ok (.iastore, 1) := by decide +kernel
theorem dX13_pick_56 : decode cX13_pick 56 = .ok (.aload_n 0, 1) := by decide +kernel
theorem dX13_pick_57 : decode cX13_pick 57 = .ok (.invokevirtual 998, 3) := by decide +kernel
theorem dX13_pick_60 : decode cX13_pick 60 = .ok (.iload_n 3, 1) := by decide +kernel
theorem dX13_pick_61 : decode cX13_pick 61 = .ok (.ireturn, 1) := by decide +kernel
theorem dX13_picked_0 : decode cX13_picked 0 = .ok (.aload_n 0, 1) := by decide +kernel
theorem dX13_picked_1 : decode cX13_picked 1 = .ok (.iload_n 1, 1) := by decide +kernel
theorem dX13_picked_2 : decode cX13_picked 2 = .ok (.invokevirtual 944, 3) := by decide +kernel
theorem dX13_picked_5 : decode cX13_picked 5 = .ok (.ifCond .ne 7, 3) := by decide +kernel
theorem dX13_picked_8 : decode cX13_picked 8 = .ok (.iconst (-1), 1) := by decide +kernel
theorem dX13_picked_9 : decode cX13_picked 9 = .ok (.goto 29, 3) := by decide +kernel
theorem dX13_picked_12 : decode cX13_picked 12 = .ok (.aload_n 0, 1) := by decide +kernel
theorem dX13_picked_13 : decode cX13_picked 13 = .ok (.getfield 535, 3) := by decide +kernel
theorem dX13_picked_16 : decode cX13_picked 16 = .ok (.iload_n 1, 1) := by decide +kernel
theorem dX13_picked_17 : decode cX13_picked 17 = .ok (.iaload, 1) := by decide +kernel
theorem dX13_picked_18 : decode cX13_picked 18 = .ok (.bipush (-2), 2) := by decide +kernel
theorem dX13_picked_20 : decode cX13_picked 20 = .ok (.if_icmp .ne 8, 3) := by decide +kernel
theorem dX13_picked_23 : decode cX13_picked 23 = .ok (.bipush (-2), 2) := by decide +kernel
theorem dX13_picked_25 : decode cX13_picked 25 = .ok (.goto 13, 3) := by decide +kernel
theorem dX13_picked_38 : decode cX13_picked 38 = .ok (.ireturn, 1) := by decide +kernel
theorem dX13_classes_0 : decode cX13_classes 0 = .ok (.aload_n 0, 1) := by decide +kernel
theorem dX13_classes_1 : decode cX13_classes 1 = .ok (.iload_n 1, 1) := by decide +kernel
theorem dX13_classes_2 : decode cX13_classes 2 = .ok (.iload_n 2, 1) := by decide +kernel
theorem dX13_classes_3 : decode cX13_classes 3 = .ok (.invokevirtual 992, 3) := by decide +kernel
theorem dX13_classes_6 : decode cX13_classes 6 = .ok (.istore_n 3, 1) := by decide +kernel
theorem dX13_classes_7 : decode cX13_classes 7 = .ok (.iload_n 3, 1) := by decide +kernel
theorem dX13_classes_8 : decode cX13_classes 8 = .ok (.bipush (-2), 2) := by decide +kernel
theorem dX13_classes_10 : decode cX13_classes 10 = .ok (.if_icmp .ne 7, 3) := by decide +kernel
theorem dX13_classes_13 : decode cX13_classes 13 = .ok (.iconst (-1), 1) := by decide +kernel
theorem dX13_classes_14 : decode cX13_classes 14 = .ok (.goto 9, 3) := by decide +kernel
theorem dX13_classes_23 : decode cX13_classes 23 = .ok (.ireturn, 1) := by decide +kernel
theorem dX13_classAt_0 : decode cX13_classAt 0 = .ok (.aload_n 0, 1) := by decide +kernel
theorem dX13_classAt_1 : decode cX13_classAt 1 = .ok (.iload_n 1, 1) := by decide +kernel
theorem dX13_classAt_2 : decode cX13_classAt 2 = .ok (.iload_n 2, 1) := by decide +kernel
theorem dX13_classAt_3 : decode cX13_classAt 3 = .ok (.invokevirtual 992, 3) := by decide +kernel
theorem dX13_classAt_6 : decode cX13_classAt 6 = .ok (.istore 4, 2) := by decide +kernel
theorem dX13_classAt_8 : decode cX13_classAt 8 = .ok (.iload 4, 2) := by decide +kernel
theorem dX13_classAt_10 : decode cX13_classAt 10 = .ok (.bipush (-2), 2) := by decide +kernel
theorem dX13_classAt_12 : decode cX13_classAt 12 = .ok (.if_icmp .eq 18, 3) := by decide +kernel
theorem dX13_classAt_30 : decode cX13_classAt 30 = .ok (.bipush (-2), 2) := by decide +kernel
theorem dX13_classAt_32 : decode cX13_classAt 32 = .ok (.goto 10, 3) := by decide +kernel
theorem dX13_classAt_42 : decode cX13_classAt 42 = .ok (.ireturn, 1) := by decide +kernel
theorem dX13_members_0 : decode cX13_members 0 = .ok (.aload_n 0, 1) := by decide +kernel
theorem dX13_members_1 : decode cX13_members 1 = .ok (.iload_n 1, 1) := by decide +kernel
theorem dX13_members_2 : decode cX13_members 2 = .ok (.iload_n 2, 1) := by decide +kernel
theorem dX13_members_3 : decode cX13_members 3 = .ok (.iload_n 3, 1) := by decide +kernel
theorem dX13_members_4 : decode cX13_members 4 = .ok (.invokevirtual 1004, 3) := by decide +kernel
theorem dX13_members_7 : decode cX13_members 7 = .ok (.istore 4, 2) := by decide +kernel
theorem dX13_members_9 : decode cX13_members 9 = .ok (.iload 4, 2) := by decide +kernel
theorem dX13_members_11 : decode cX13_members 11 = .ok (.bipush (-2), 2) := by decide +kernel
theorem dX13_members_13 : decode cX13_members 13 = .ok (.if_icmp .ne 7, 3) := by decide +kernel
theorem dX13_members_16 : decode cX13_members 16 = .ok (.iconst (-1), 1) := by decide +kernel
theorem dX13_members_17 : decode cX13_members 17 = .ok (.goto 9, 3) := by decide +kernel
theorem dX13_members_26 : decode cX13_members 26 = .ok (.ireturn, 1) := by decide +kernel
theorem dX13_shape_0 : decode cX13_shape 0 = .ok (.aload_n 0, 1) := by decide +kernel
theorem dX13_shape_1 : decode cX13_shape 1 = .ok (.iload_n 1, 1) := by decide +kernel
theorem dX13_shape_2 : decode cX13_shape 2 = .ok (.iload_n 2, 1) := by decide +kernel
theorem dX13_shape_3 : decode cX13_shape 3 = .ok (.iload_n 3, 1) := by decide +kernel
theorem dX13_shape_4 : decode cX13_shape 4 = .ok (.invokevirtual 1004, 3) := by decide +kernel
theorem dX13_shape_7 : decode cX13_shape 7 = .ok (.istore 5, 2) := by decide +kernel
theorem dX13_shape_9 : decode cX13_shape 9 = .ok (.iload 5, 2) := by decide +kernel
theorem dX13_shape_11 : decode cX13_shape 11 = .ok (.bipush (-2), 2) := by decide +kernel
theorem dX13_shape_13 : decode cX13_shape 13 = .ok (.if_icmp .eq 8, 3) := by decide +kernel
theorem dX13_shape_21 : decode cX13_shape 21 = .ok (.bipush (-2), 2) := by decide +kernel
theorem dX13_shape_23 : decode cX13_shape 23 = .ok (.goto 11, 3) := by decide +kernel
theorem dX13_shape_34 : decode cX13_shape 34 = .ok (.istore 6, 2) := by decide +kernel
theorem dX13_shape_36 : decode cX13_shape 36 = .ok (.iload 5, 2) := by decide +kernel
theorem dX13_shape_38 : decode cX13_shape 38 = .ok (.bipush (-2), 2) := by decide +kernel
theorem dX13_shape_40 : decode cX13_shape 40 = .ok (.if_icmp .eq 17, 3) := by decide +kernel
theorem dX13_shape_57 : decode cX13_shape 57 = .ok (.iconst (-1), 1) := by decide +kernel
theorem dX13_shape_58 : decode cX13_shape 58 = .ok (.ireturn, 1) := by decide +kernel
theorem dX13_uses_0 : decode cX13_uses 0 = .ok (.aload_n 0, 1) := by decide +kernel
theorem dX13_uses_1 : decode cX13_uses 1 = .ok (.iload_n 1, 1) := by decide +kernel
theorem dX13_uses_2 : decode cX13_uses 2 = .ok (.iload_n 2, 1) := by decide +kernel
theorem dX13_uses_3 : decode cX13_uses 3 = .ok (.invokevirtual 992, 3) := by decide +kernel
theorem dX13_uses_6 : decode cX13_uses 6 = .ok (.istore_n 3, 1) := by decide +kernel
theorem dX13_uses_7 : decode cX13_uses 7 = .ok (.iload_n 3, 1) := by decide +kernel
theorem dX13_uses_8 : decode cX13_uses 8 = .ok (.bipush (-2), 2) := by decide +kernel
theorem dX13_uses_10 : decode cX13_uses 10 = .ok (.if_icmp .ne 7, 3) := by decide +kernel
theorem dX13_uses_13 : decode cX13_uses 13 = .ok (.iconst (-1), 1) := by decide +kernel
theorem dX13_uses_14 : decode cX13_uses 14 = .ok (.goto 9, 3) := by decide +kernel
theorem dX13_uses_23 : decode cX13_uses 23 = .ok (.ireturn, 1) := by decide +kernel
theorem dX13_useAt_0 : decode cX13_useAt 0 = .ok (.aload_n 0, 1) := by decide +kernel
theorem dX13_useAt_1 : decode cX13_useAt 1 = .ok (.iload_n 1, 1) := by decide +kernel
theorem dX13_useAt_2 : decode cX13_useAt 2 = .ok (.iload_n 2, 1) := by decide +kernel
theorem dX13_useAt_3 : decode cX13_useAt 3 = .ok (.invokevirtual 992, 3) := by decide +kernel
theorem dX13_useAt_6 : decode cX13_useAt 6 = .ok (.istore 4, 2) := by decide +kernel
theorem dX13_useAt_8 : decode cX13_useAt 8 = .ok (.iload 4, 2) := by decide +kernel
theorem dX13_useAt_10 : decode cX13_useAt 10 = .ok (.bipush (-2), 2) := by decide +kernel
theorem dX13_useAt_12 : decode cX13_useAt 12 = .ok (.if_icmp .eq 18, 3) := by decide +kernel
theorem dX13_useAt_30 : decode cX13_useAt 30 = .ok (.bipush (-2), 2) := by decide +kernel
theorem dX13_useAt_32 : decode cX13_useAt 32 = .ok (.goto 11, 3) := by decide +kernel
theorem dX13_useAt_43 : decode cX13_useAt 43 = .ok (.ireturn, 1) := by decide +kernel
theorem dX13_use_0 : decode cX13_use 0 = .ok (.aload_n 0, 1) := by decide +kernel
theorem dX13_use_1 : decode cX13_use 1 = .ok (.iload_n 1, 1) := by decide +kernel
theorem dX13_use_2 : decode cX13_use 2 = .ok (.iload_n 2, 1) := by decide +kernel
theorem dX13_use_3 : decode cX13_use 3 = .ok (.iload_n 3, 1) := by decide +kernel
theorem dX13_use_4 : decode cX13_use 4 = .ok (.invokevirtual 1062, 3) := by decide +kernel
theorem dX13_use_7 : decode cX13_use 7 = .ok (.istore 5, 2) := by decide +kernel
theorem dX13_use_9 : decode cX13_use 9 = .ok (.iload 5, 2) := by decide +kernel
theorem dX13_use_11 : decode cX13_use 11 = .ok (.bipush (-2), 2) := by decide +kernel
theorem dX13_use_13 : decode cX13_use 13 = .ok (.if_icmp .eq 14, 3) := by decide +kernel
theorem dX13_use_27 : decode cX13_use 27 = .ok (.iconst (-1), 1) := by decide +kernel
theorem dX13_use_28 : decode cX13_use 28 = .ok (.goto 28, 3) := by decide +kernel
theorem dX13_use_56 : decode cX13_use 56 = .ok (.ireturn, 1) := by decide +kernel
theorem dX13_tell_0 : decode cX13_tell 0 = .ok (.aload_n 0, 1) := by decide +kernel
theorem dX13_tell_1 : decode cX13_tell 1 = .ok (.iload_n 1, 1) := by decide +kernel
theorem dX13_tell_2 : decode cX13_tell 2 = .ok (.iload_n 2, 1) := by decide +kernel
theorem dX13_tell_3 : decode cX13_tell 3 = .ok (.iload_n 3, 1) := by decide +kernel
theorem dX13_tell_4 : decode cX13_tell 4 = .ok (.invokevirtual 1062, 3) := by decide +kernel
theorem dX13_tell_7 : decode cX13_tell 7 = .ok (.istore 4, 2) := by decide +kernel
theorem dX13_tell_9 : decode cX13_tell 9 = .ok (.iload 4, 2) := by decide +kernel
theorem dX13_tell_11 : decode cX13_tell 11 = .ok (.bipush (-2), 2) := by decide +kernel
theorem dX13_tell_13 : decode cX13_tell 13 = .ok (.if_icmp .ne 5, 3) := by decide +kernel
theorem dX13_tell_16 : decode cX13_tell 16 = .ok (.iconst (-1), 1) := by decide +kernel
theorem dX13_tell_17 : decode cX13_tell 17 = .ok (.ireturn, 1) := by decide +kernel
