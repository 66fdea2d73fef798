theorem dX13_fieldOf_57 : decode cX13_fieldOf 57 = .ok (.iadd, 1) := by decide +kernel
theorem dX13_fieldOf_58 : decode cX13_fieldOf 58 = .ok (.iaload, 1) := by decide +kernel
theorem dX13_fieldOf_59 : decode cX13_fieldOf 59 = .ok (.goto 4, 3) := by decide +kernel
theorem dX13_fieldOf_62 : decode cX13_fieldOf 62 = .ok (.iconst 0, 1) := by decide +kernel
theorem dX13_fieldOf_63 : decode cX13_fieldOf 63 = .ok (.ireturn, 1) := by decide +kernel
theorem dX13_differs_0 : decode cX13_differs 0 = .ok (.iconst 5, 1) := by decide +kernel
theorem dX13_differs_1 : decode cX13_differs 1 = .ok (.aload_n 0, 1) := by decide +kernel
theorem dX13_differs_2 : decode cX13_differs 2 = .ok (.getfield 1376, 3) := by decide +kernel
theorem dX13_differs_5 : decode cX13_differs 5 = .ok (.imul, 1) := by decide +kernel
theorem dX13_differs_6 : decode cX13_differs 6 = .ok (.istore 6, 2) := by decide +kernel
theorem dX13_differs_8 : decode cX13_differs 8 = .ok (.aload_n 0, 1) := by decide +kernel
theorem dX13_differs_9 : decode cX13_differs 9 = .ok (.getfield 1379, 3) := by decide +kernel
theorem dX13_differs_12 : decode cX13_differs 12 = .ok (.iload 6, 2) := by decide +kernel
theorem dX13_differs_14 : decode cX13_differs 14 = .ok (.iload_n 1, 1) := by decide +kernel
theorem dX13_differs_15 : decode cX13_differs 15 = .ok (.iastore, 1) := by decide +kernel
theorem dX13_differs_16 : decode cX13_differs 16 = .ok (.aload_n 0, 1) := by decide +kernel
theorem dX13_differs_17 : decode cX13_differs 17 = .ok (.getfield 1379, 3) := by decide +kernel
theorem dX13_differs_20 : decode cX13_differs 20 = .ok (.iload 6, 2) := by decide +kernel
theorem dX13_differs_22 : decode cX13_differs 22 = .ok (.iconst 1, 1) := by decide +kernel
theorem dX13_differs_23 : decode cX13_differs 23 = .ok (.iadd, 1) := by decide +kernel
theorem dX13_differs_24 : decode cX13_differs 24 = .ok (.iload_n 2, 1) := by decide +kernel
theorem dX13_differs_25 : decode cX13_differs 25 = .ok (.bipush (-2), 2) := by decide +kernel
theorem dX13_differs_27 : decode cX13_differs 27 = .ok (.if_icmp .ne 8, 3) := by decide +kernel
theorem dX13_differs_30 : decode cX13_differs 30 = .ok (.bipush (-2), 2) := by decide +kernel
theorem dX13_differs_32 : decode cX13_differs 32 = .ok (.goto 7, 3) := by decide +kernel
theorem dX13_differs_35 : decode cX13_differs 35 = .ok (.iload_n 2, 1) := by decide +kernel
theorem dX13_differs_36 : decode cX13_differs 36 = .ok (.bipush 12, 2) := by decide +kernel
theorem dX13_differs_38 : decode cX13_differs 38 = .ok (.irem, 1) := by decide +kernel
theorem dX13_differs_39 : decode cX13_differs 39 = .ok (.iastore, 1) := by decide +kernel
theorem dX13_differs_40 : decode cX13_differs 40 = .ok (.aload_n 0, 1) := by decide +kernel
theorem dX13_differs_41 : decode cX13_differs 41 = .ok (.getfield 1379, 3) := by decide +kernel
theorem dX13_differs_44 : decode cX13_differs 44 = .ok (.iload 6, 2) := by decide +kernel
theorem dX13_differs_46 : decode cX13_differs 46 = .ok (.iconst 2, 1) := by decide +kernel
theorem dX13_differs_47 : decode cX13_differs 47 = .ok (.iadd, 1) := by decide +kernel
theorem dX13_differs_48 : decode cX13_differs 48 = .ok (.iload_n 3, 1) := by decide +kernel
theorem dX13_differs_49 : decode cX13_differs 49 = .ok (.bipush (-2), 2) := by decide +kernel
theorem dX13_differs_51 : decode cX13_differs 51 = .ok (.if_icmp .ne 8, 3) := by decide +kernel
theorem dX13_differs_54 : decode cX13_differs 54 = .ok (.bipush (-2), 2) := by decide +kernel
theorem dX13_differs_56 : decode cX13_differs 56 = .ok (.goto 7, 3) := by decide +kernel
theorem dX13_differs_59 : decode cX13_differs 59 = .ok (.iload_n 3, 1) := by decide +kernel
theorem dX13_differs_60 : decode cX13_differs 60 = .ok (.bipush 12, 2) := by decide +kernel
theorem dX13_differs_62 : decode cX13_differs 62 = .ok (.irem, 1) := by decide +kernel
theorem dX13_differs_63 : decode cX13_differs 63 = .ok (.iastore, 1) := by decide +kernel
theorem dX13_differs_64 : decode cX13_differs 64 = .ok (.aload_n 0, 1) := by decide +kernel
theorem dX13_differs_65 : decode cX13_differs 65 = .ok (.getfield 1379, 3) := by decide +kernel
theorem dX13_differs_68 : decode cX13_differs 68 = .ok (.iload 6, 2) := by decide +kernel
theorem dX13_differs_70 : decode cX13_differs 70 = .ok (.iconst 3, 1) := by decide +kernel
theorem dX13_differs_71 : decode cX13_differs 71 = .ok (.iadd, 1) := by decide +kernel
theorem dX13_differs_72 : decode cX13_differs 72 = .ok (.aload_n 0, 1) := by decide +kernel
theorem dX13_differs_73 : decode cX13_differs 73 = .ok (.iload 4, 2) := by decide +kernel
theorem dX13_differs_75 : decode cX13_differs 75 = .ok (.invokevirtual 1382, 3) := by decide +kernel
theorem dX13_differs_78 : decode cX13_differs 78 = .ok (.iastore, 1) := by decide +kernel
theorem dX13_differs_79 : decode cX13_differs 79 = .ok (.aload_n 0, 1) := by decide +kernel
theorem dX13_differs_80 : decode cX13_differs 80 = .ok (.getfield 1379, 3) := by decide +kernel
theorem dX13_differs_83 : decode cX13_differs 83 = .ok (.iload 6, 2) := by decide +kernel
theorem dX13_differs_85 : decode cX13_differs 85 = .ok (.iconst 4, 1) := by decide +kernel
theorem dX13_differs_86 : decode cX13_differs 86 = .ok (.iadd, 1) := by decide +kernel
theorem dX13_differs_87 : decode cX13_differs 87 = .ok (.aload_n 0, 1) := by decide +kernel
theorem dX13_differs_88 : decode cX13_differs 88 = .ok (.iload 5, 2) := by decide +kernel
theorem dX13_differs_90 : decode cX13_differs 90 = .ok (.invokevirtual 1382, 3) := by decide +kernel
theorem dX13_differs_93 : decode cX13_differs 93 = .ok (.iastore, 1) := by decide +kernel
theorem dX13_differs_94 : decode cX13_differs 94 = .ok (.aload_n 0, 1) := by decide +kernel
theorem dX13_differs_95 : decode cX13_differs 95 = .ok (.dup, 1) := by decide +kernel
theorem dX13_differs_96 : decode cX13_differs 96 = .ok (.getfield 1376, 3) := by decide +kernel
theorem dX13_differs_99 : decode cX13_differs 99 = .ok (.iconst 1, 1) := by decide +kernel
theorem dX13_differs_100 : decode cX13_differs 100 = .ok (.iadd, 1) := by decide +kernel
theorem dX13_differs_101 : decode cX13_differs 101 = .ok (.putfield 1376, 3) := by decide +kernel
theorem dX13_differs_104 : decode cX13_differs 104 = .ok (.return_, 1) := by decide +kernel
theorem dX13_toldPlace_0 : decode cX13_toldPlace 0 = .ok (.iload_n 1, 1) := by decide +kernel
theorem dX13_toldPlace_1 : decode cX13_toldPlace 1 = .ok (.bipush (-2), 2) := by decide +kernel
theorem dX13_toldPlace_3 : decode cX13_toldPlace 3 = .ok (.if_icmp .ne 6, 3) := by decide +kernel
theorem dX13_toldPlace_6 : decode cX13_toldPlace 6 = .ok (.bipush (-2), 2) := by decide +kernel
theorem dX13_toldPlace_8 : decode cX13_toldPlace 8 = .ok (.ireturn, 1) := by decide +kernel
theorem dX13_toldPlace_9 : decode cX13_toldPlace 9 = .ok (.aload_n 0, 1) := by decide +kernel
theorem dX13_toldPlace_10 : decode cX13_toldPlace 10 = .ok (.iload_n 1, 1) := by decide +kernel
theorem dX13_toldPlace_11 : decode cX13_toldPlace 11 = .ok (.invokevirtual 599, 3) := by decide +kernel
theorem dX13_toldPlace_14 : decode cX13_toldPlace 14 = .ok (.istore_n 2, 1) := by decide +kernel
theorem dX13_toldPlace_15 : decode cX13_toldPlace 15 = .ok (.iconst 0, 1) := by decide +kernel
theorem dX13_toldPlace_16 : decode cX13_toldPlace 16 = .ok (.istore_n 3, 1) := by decide +kernel
theorem dX13_toldPlace_17 : decode cX13_toldPlace 17 = .ok (.iload_n 2, 1) := by decide +kernel
theorem dX13_toldPlace_18 : decode cX13_toldPlace 18 = .ok (.bipush 34, 2) := by decide +kernel
theorem dX13_toldPlace_20 : decode cX13_toldPlace 20 = .ok (.imul, 1) := by decide +kernel
theorem dX13_toldPlace_21 : decode cX13_toldPlace 21 = .ok (.istore 4, 2) := by decide +kernel
theorem dX13_toldPlace_23 : decode cX13_toldPlace 23 = .ok (.iload 4, 2) := by decide +kernel
theorem dX13_toldPlace_25 : decode cX13_toldPlace 25 = .ok (.iload_n 1, 1) := by decide +kernel
theorem dX13_toldPlace_26 : decode cX13_toldPlace 26 = .ok (.if_icmp .ge 28, 3) := by decide +kernel
theorem dX13_toldPlace_29 : decode cX13_toldPlace 29 = .ok (.iload_n 3, 1) := by decide +kernel
theorem dX13_toldPlace_30 : decode cX13_toldPlace 30 = .ok (.aload_n 0, 1) := by decide +kernel
theorem dX13_toldPlace_31 : decode cX13_toldPlace 31 = .ok (.getfield 402, 3) := by decide +kernel
theorem dX13_toldPlace_34 : decode cX13_toldPlace 34 = .ok (.iload 4, 2) := by decide +kernel
theorem dX13_toldPlace_36 : decode cX13_toldPlace 36 = .ok (.iaload, 1) := by decide +kernel
theorem dX13_toldPlace_37 : decode cX13_toldPlace 37 = .ok (.iconst 3, 1) := by decide +kernel
theorem dX13_toldPlace_38 : decode cX13_toldPlace 38 = .ok (.if_icmp .ne 7, 3) := by decide +kernel
theorem dX13_toldPlace_41 : decode cX13_toldPlace 41 = .ok (.iconst 0, 1) := by decide +kernel
theorem dX13_toldPlace_42 : decode cX13_toldPlace 42 = .ok (.goto 4, 3) := by decide +kernel
theorem dX13_toldPlace_45 : decode cX13_toldPlace 45 = .ok (.iconst 1, 1) := by decide +kernel
theorem dX13_toldPlace_46 : decode cX13_toldPlace 46 = .ok (.iadd, 1) := by decide +kernel
theorem dX13_toldPlace_47 : decode cX13_toldPlace 47 = .ok (.istore_n 3, 1) := by decide +kernel
theorem dX13_toldPlace_48 : decode cX13_toldPlace 48 = .ok (.iinc 4 1, 3) := by decide +kernel
theorem dX13_toldPlace_51 : decode cX13_toldPlace 51 = .ok (.goto (-28), 3) := by decide +kernel
theorem dX13_toldPlace_54 : decode cX13_toldPlace 54 = .ok (.iload_n 3, 1) := by decide +kernel
theorem dX13_toldPlace_55 : decode cX13_toldPlace 55 = .ok (.ireturn, 1) := by decide +kernel
theorem dX13_differ_0 : decode cX13_differ 0 = .ok (.aload_n 0, 1) := by decide +kernel
theorem dX13_differ_1 : decode cX13_differ 1 = .ok (.iload_n 1, 1) := by decide +kernel
theorem dX13_differ_2 : decode cX13_differ 2 = .ok (.iload_n 2, 1) := by decide +kernel
theorem dX13_differ_3 : decode cX13_differ 3 = .ok (.invokevirtual 992, 3) := by decide +kernel
theorem dX13_differ_6 : decode cX13_differ 6 = .ok (.istore 4, 2) := by decide +kernel
theorem dX13_differ_8 : decode cX13_differ 8 = .ok (.aload_n 0, 1) := by decide +kernel
theorem dX13_differ_9 : decode cX13_differ 9 = .ok (.iload_n 1, 1) := by decide +kernel
theorem dX13_differ_10 : decode cX13_differ 10 = .ok (.iload_n 3, 1) := by decide +kernel
theorem dX13_differ_11 : decode cX13_differ 11 = .ok (.invokevirtual 992, 3) := by decide +kernel
theorem dX13_differ_14 : decode cX13_differ 14 = .ok (.istore 5, 2) := by decide +kernel
theorem dX13_differ_16 : decode cX13_differ 16 = .ok (.iload 4, 2) := by decide +kernel
theorem dX13_differ_18 : decode cX13_differ 18 = .ok (.bipush (-2), 2) := by decide +kernel
theorem dX13_differ_20 : decode cX13_differ 20 = .ok (.if_icmp .eq 10, 3) := by decide +kernel
theorem dX13_differ_23 : decode cX13_differ 23 = .ok (.iload 5, 2) := by decide +kernel
theorem dX13_differ_25 : decode cX13_differ 25 = .ok (.bipush (-2), 2) := by decide +kernel
theorem dX13_differ_27 : decode cX13_differ 27 = .ok (.if_icmp .ne 5, 3) := by decide +kernel
theorem dX13_differ_30 : decode cX13_differ 30 = .ok (.iconst (-1), 1) := by decide +kernel
theorem dX13_differ_31 : decode cX13_differ 31 = .ok (.ireturn, 1) := by decide +kernel
theorem dX13_differ_32 : decode cX13_differ 32 = .ok (.aload_n 0, 1) := by decide +kernel
theorem dX13_differ_33 : decode cX13_differ 33 = .ok (.iload 4, 2) := by decide +kernel
theorem dX13_differ_35 : decode cX13_differ 35 = .ok (.iload 5, 2) := by decide +kernel
theorem dX13_differ_37 : decode cX13_differ 37 = .ok (.invokevirtual 1385, 3) := by decide +kernel
theorem dX13_differ_40 : decode cX13_differ 40 = .ok (.aload_n 0, 1) := by decide +kernel
theorem dX13_differ_41 : decode cX13_differ 41 = .ok (.getfield 1376, 3) := by decide +kernel
theorem dX13_differ_44 : decode cX13_differ 44 = .ok (.ireturn, 1) := by decide +kernel
theorem dX13_compare_0 : decode cX13_compare 0 = .ok (.aload_n 0, 1) := by decide +kernel
theorem dX13_compare_1 : decode cX13_compare 1 = .ok (.iconst 0, 1) := by decide +kernel
theorem dX13_compare_2 : decode cX13_compare 2 = .ok (.putfield 1376, 3) := by decide +kernel
theorem dX13_compare_5 : decode cX13_compare 5 = .ok (.iconst 0, 1) := by decide +kernel
theorem dX13_compare_6 : decode cX13_compare 6 = .ok (.istore_n 3, 1) := by decide +kernel
theorem dX13_compare_7 : decode cX13_compare 7 = .ok (.iload_n 3, 1) := by decide +kernel
theorem dX13_compare_8 : decode cX13_compare 8 = .ok (.aload_n 0, 1) := by decide +kernel
theorem dX13_compare_9 : decode cX13_compare 9 = .ok (.getfield 230, 3) := by decide +kernel
theorem dX13_compare_12 : decode cX13_compare 12 = .ok (.iload_n 1, 1) := by decide +kernel
theorem dX13_compare_13 : decode cX13_compare 13 = .ok (.iaload, 1) := by decide +kernel
theorem dX13_compare_14 : decode cX13_compare 14 = .ok (.if_icmp .ge 142, 3) := by decide +kernel
theorem dX13_compare_17 : decode cX13_compare 17 = .ok (.iload_n 1, 1) := by decide +kernel
theorem dX13_compare_18 : decode cX13_compare 18 = .ok (.bipush 12, 2) := by decide +kernel
theorem dX13_compare_20 : decode cX13_compare 20 = .ok (.imul, 1) := by decide +kernel
theorem dX13_compare_21 : decode cX13_compare 21 = .ok (.iload_n 3, 1) := by decide +kernel
theorem dX13_compare_22 : decode cX13_compare 22 = .ok (.iadd, 1) := by decide +kernel
theorem dX13_compare_23 : decode cX13_compare 23 = .ok (.istore 4, 2) := by decide +kernel
theorem dX13_compare_25 : decode cX13_compare 25 = .ok (.aload_n 0, 1) := by decide +kernel
theorem dX13_compare_26 : decode cX13_compare 26 = .ok (.iload_n 2, 1) := by decide +kernel
theorem dX13_compare_27 : decode cX13_compare 27 = .ok (.aload_n 0, 1) := by decide +kernel
theorem dX13_compare_28 : decode cX13_compare 28 = .ok (.getfield 256, 3) := by decide +kernel
theorem dX13_compare_31 : decode cX13_compare 31 = .ok (.iload 4, 2) := by decide +kernel
theorem dX13_compare_33 : decode cX13_compare 33 = .ok (.laload, 1) := by decide +kernel
theorem dX13_compare_34 : decode cX13_compare 34 = .ok (.invokevirtual 531, 3) := by decide +kernel
theorem dX13_compare_37 : decode cX13_compare 37 = .ok (.istore 5, 2) := by decide +kernel
theorem dX13_compare_39 : decode cX13_compare 39 = .ok (.iload 5, 2) := by decide +kernel
theorem dX13_compare_41 : decode cX13_compare 41 = .ok (.bipush (-2), 2) := by decide +kernel
theorem dX13_compare_43 : decode cX13_compare 43 = .ok (.if_icmp .ne 19, 3) := by decide +kernel
theorem dX13_compare_46 : decode cX13_compare 46 = .ok (.aload_n 0, 1) := by decide +kernel
theorem dX13_compare_47 : decode cX13_compare 47 = .ok (.iconst 1, 1) := by decide +kernel
theorem dX13_compare_48 : decode cX13_compare 48 = .ok (.iload 4, 2) := by decide +kernel
theorem dX13_compare_50 : decode cX13_compare 50 = .ok (.bipush (-2), 2) := by decide +kernel
theorem dX13_compare_52 : decode cX13_compare 52 = .ok (.bipush (-2), 2) := by decide +kernel
theorem dX13_compare_54 : decode cX13_compare 54 = .ok (.bipush (-2), 2) := by decide +kernel
theorem dX13_compare_56 : decode cX13_compare 56 = .ok (.invokevirtual 1388, 3) := by decide +kernel
theorem dX13_compare_59 : decode cX13_compare 59 = .ok (.goto 91, 3) := by decide +kernel
theorem dX13_compare_62 : decode cX13_compare 62 = .ok (.aload_n 0, 1) := by decide +kernel
theorem dX13_compare_63 : decode cX13_compare 63 = .ok (.iload 4, 2) := by decide +kernel
theorem dX13_compare_65 : decode cX13_compare 65 = .ok (.invokevirtual 548, 3) := by decide +kernel
theorem dX13_compare_68 : decode cX13_compare 68 = .ok (.aload_n 0, 1) := by decide +kernel
theorem dX13_compare_69 : decode cX13_compare 69 = .ok (.iload 5, 2) := by decide +kernel
theorem dX13_compare_71 : decode cX13_compare 71 = .ok (.invokevirtual 548, 3) := by decide +kernel
theorem dX13_compare_74 : decode cX13_compare 74 = .ok (.if_icmp .eq 19, 3) := by decide +kernel
theorem dX13_compare_77 : decode cX13_compare 77 = .ok (.aload_n 0, 1) := by decide +kernel
theorem dX13_compare_78 : decode cX13_compare 78 = .ok (.iconst 2, 1) := by decide +kernel
theorem dX13_compare_79 : decode cX13_compare 79 = .ok (.iload 4, 2) := by decide +kernel
theorem dX13_compare_81 : decode cX13_compare 81 = .ok (.iload 5, 2) := by decide +kernel
theorem dX13_compare_83 : decode cX13_compare 83 = .ok (.bipush (-2), 2) := by decide +kernel
theorem dX13_compare_85 : decode cX13_compare 85 = .ok (.bipush (-2), 2) := by decide +kernel
theorem dX13_compare_87 : decode cX13_compare 87 = .ok (.invokevirtual 1388, 3) := by decide +kernel
theorem dX13_compare_90 : decode cX13_compare 90 = .ok (.goto 60, 3) := by decide +kernel
theorem dX13_compare_93 : decode cX13_compare 93 = .ok (.aload_n 0, 1) := by decide +kernel
theorem dX13_compare_94 : decode cX13_compare 94 = .ok (.iload 4, 2) := by decide +kernel
theorem dX13_compare_96 : decode cX13_compare 96 = .ok (.iload 5, 2) := by decide +kernel
theorem dX13_compare_98 : decode cX13_compare 98 = .ok (.invokevirtual 1392, 3) := by decide +kernel
theorem dX13_compare_101 : decode cX13_compare 101 = .ok (.aload_n 0, 1) := by decide +kernel
theorem dX13_compare_102 : decode cX13_compare 102 = .ok (.iload 4, 2) := by decide +kernel
theorem dX13_compare_104 : decode cX13_compare 104 = .ok (.iload 5, 2) := by decide +kernel
theorem dX13_compare_106 : decode cX13_compare 106 = .ok (.invokevirtual 1395, 3) := by decide +kernel
theorem dX13_compare_109 : decode cX13_compare 109 = .ok (.aload_n 0, 1) := by decide +kernel
theorem dX13_compare_110 : decode cX13_compare 110 = .ok (.iload 4, 2) := by decide +kernel
theorem dX13_compare_112 : decode cX13_compare 112 = .ok (.iload 5, 2) := by decide +kernel
theorem dX13_compare_114 : decode cX13_compare 114 = .ok (.invokevirtual 1398, 3) := by decide +kernel
theorem dX13_compare_117 : decode cX13_compare 117 = .ok (.aload_n 0, 1) := by decide +kernel
theorem dX13_compare_118 : decode cX13_compare 118 = .ok (.iload 4, 2) := by decide +kernel
theorem dX13_compare_120 : decode cX13_compare 120 = .ok (.iload 5, 2) := by decide +kernel
theorem dX13_compare_122 : decode cX13_compare 122 = .ok (.invokevirtual 1401, 3) := by decide +kernel
theorem dX13_compare_125 : decode cX13_compare 125 = .ok (.aload_n 0, 1) := by decide +kernel
theorem dX13_compare_126 : decode cX13_compare 126 = .ok (.iload 4, 2) := by decide +kernel
theorem dX13_compare_128 : decode cX13_compare 128 = .ok (.iload 5, 2) := by decide +kernel
theorem dX13_compare_130 : decode cX13_compare 130 = .ok (.invokevirtual 1404, 3) := by decide +kernel
theorem dX13_compare_133 : decode cX13_compare 133 = .ok (.ifCond .ne 17, 3) := by decide +kernel
theorem dX13_compare_136 : decode cX13_compare 136 = .ok (.aload_n 0, 1) := by decide +kernel
theorem dX13_compare_137 : decode cX13_compare 137 = .ok (.bipush 60, 2) := by decide +kernel
theorem dX13_compare_139 : decode cX13_compare 139 = .ok (.iload 4, 2) := by decide +kernel
theorem dX13_compare_141 : decode cX13_compare 141 = .ok (.iload 5, 2) := by decide +kernel
theorem dX13_compare_143 : decode cX13_compare 143 = .ok (.bipush (-2), 2) := by decide +kernel
theorem dX13_compare_145 : decode cX13_compare 145 = .ok (.bipush (-2), 2) := by decide +kernel
theorem dX13_compare_147 : decode cX13_compare 147 = .ok (.invokevirtual 1388, 3) := by decide +kernel
theorem dX13_compare_150 : decode cX13_compare 150 = .ok (.iinc 3 1, 3) := by decide +kernel
theorem dX13_compare_153 : decode cX13_compare 153 = .ok (.goto (-146), 3) := by decide +kernel
theorem dX13_compare_156 : decode cX13_compare 156 = .ok (.iconst 0, 1) := by decide +kernel
theorem dX13_compare_157 : decode cX13_compare 157 = .ok (.istore_n 3, 1) := by decide +kernel
theorem dX13_compare_158 : decode cX13_compare 158 = .ok (.iload_n 3, 1) := by decide +kernel
theorem dX13_compare_159 : decode cX13_compare 159 = .ok (.aload_n 0, 1) := by decide +kernel
theorem dX13_compare_160 : decode cX13_compare 160 = .ok (.getfield 230, 3) := by decide +kernel
theorem dX13_compare_163 : decode cX13_compare 163 = .ok (.iload_n 2, 1) := by decide +kernel
theorem dX13_compare_164 : decode cX13_compare 164 = .ok (.iaload, 1) := by decide +kernel
theorem dX13_compare_165 : decode cX13_compare 165 = .ok (.if_icmp .ge 48, 3) := by decide +kernel
theorem dX13_compare_168 : decode cX13_compare 168 = .ok (.iload_n 2, 1) := by decide +kernel
theorem dX13_compare_169 : decode cX13_compare 169 = .ok (.bipush 12, 2) := by decide +kernel
theorem dX13_compare_171 : decode cX13_compare 171 = .ok (.imul, 1) := by decide +kernel
theorem dX13_compare_172 : decode cX13_compare 172 = .ok (.iload_n 3, 1) := by decide +kernel
theorem dX13_compare_173 : decode cX13_compare 173 = .ok (.iadd, 1) := by decide +kernel
theorem dX13_compare_174 : decode cX13_compare 174 = .ok (.istore 4, 2) := by decide +kernel
theorem dX13_compare_176 : decode cX13_compare 176 = .ok (.aload_n 0, 1) := by decide +kernel
theorem dX13_compare_177 : decode cX13_compare 177 = .ok (.iload_n 1, 1) := by decide +kernel
theorem dX13_compare_178 : decode cX13_compare 178 = .ok (.aload_n 0, 1) := by decide +kernel
theorem dX13_compare_179 : decode cX13_compare 179 = .ok (.getfield 256, 3) := by decide +kernel
theorem dX13_compare_182 : decode cX13_compare 182 = .ok (.iload 4, 2) := by decide +kernel
theorem dX13_compare_184 : decode cX13_compare 184 = .ok (.laload, 1) := by decide +kernel
theorem dX13_compare_185 : decode cX13_compare 185 = .ok (.invokevirtual 531, 3) := by decide +kernel
theorem dX13_compare_188 : decode cX13_compare 188 = .ok (.bipush (-2), 2) := by decide +kernel
theorem dX13_compare_190 : decode cX13_compare 190 = .ok (.if_icmp .ne 17, 3) := by decide +kernel
theorem dX13_compare_193 : decode cX13_compare 193 = .ok (.aload_n 0, 1) := by decide +kernel
theorem dX13_compare_194 : decode cX13_compare 194 = .ok (.bipush 70, 2) := by decide +kernel
theorem dX13_compare_196 : decode cX13_compare 196 = .ok (.bipush (-2), 2) := by decide +kernel
theorem dX13_compare_198 : decode cX13_compare 198 = .ok (.iload 4, 2) := by decide +kernel
theorem dX13_compare_200 : decode cX13_compare 200 = .ok (.bipush (-2), 2) := by decide +kernel
theorem dX13_compare_202 : decode cX13_compare 202 = .ok (.bipush (-2), 2) := by decide +kernel
theorem dX13_compare_204 : decode cX13_compare 204 = .ok (.invokevirtual 1388, 3) := by decide +kernel
theorem dX13_compare_207 : decode cX13_compare 207 = .ok (.iinc 3 1, 3) := by decide +kernel
theorem dX13_compare_210 : decode cX13_compare 210 = .ok (.goto (-52), 3) := by decide +kernel
theorem dX13_compare_213 : decode cX13_compare 213 = .ok (.return_, 1) := by decide +kernel
theorem dX13_either_0 : decode cX13_either 0 = .ok (.iload_n 2, 1) := by decide +kernel
theorem dX13_either_1 : decode cX13_either 1 = .ok (.iload_n 3, 1) := by decide +kernel
theorem dX13_either_2 : decode cX13_either 2 = .ok (.if_icmp .eq 26, 3) := by decide +kernel
theorem dX13_either_5 : decode cX13_either 5 = .ok (.aload_n 0, 1) := by decide +kernel
theorem dX13_either_6 : decode cX13_either 6 = .ok (.iload_n 3, 1) := by decide +kernel
theorem dX13_either_7 : decode cX13_either 7 = .ok (.ifCond .eq 7, 3) := by decide +kernel
theorem dX13_either_10 : decode cX13_either 10 = .ok (.iload_n 1, 1) := by decide +kernel
theorem dX13_either_11 : decode cX13_either 11 = .ok (.goto 6, 3) := by decide +kernel
theorem dX13_either_14 : decode cX13_either 14 = .ok (.iload_n 1, 1) := by decide +kernel
theorem dX13_either_15 : decode cX13_either 15 = .ok (.iconst 1, 1) := by decide +kernel
theorem dX13_either_16 : decode cX13_either 16 = .ok (.iadd, 1) := by decide +kernel
theorem dX13_either_17 : decode cX13_either 17 = .ok (.iload 4, 2) := by decide +kernel
theorem dX13_either_19 : decode cX13_either 19 = .ok (.iload 5, 2) := by decide +kernel
theorem dX13_either_21 : decode cX13_either 21 = .ok (.bipush (-2), 2) := by decide +kernel
theorem dX13_either_23 : decode cX13_either 23 = .ok (.bipush (-2), 2) := by decide +kernel
theorem dX13_either_25 : decode cX13_either 25 = .ok (.invokevirtual 1388, 3) := by decide +kernel
theorem dX13_either_28 : decode cX13_either 28 = .ok (.return_, 1) := by decide +kernel
theorem dX13_compareHeads_0 : decode cX13_compareHeads 0 = .ok (.aload_n 0, 1) := by decide +kernel
theorem dX13_compareHeads_1 : decode cX13_compareHeads 1 = .ok (.iconst 3, 1) := by decide +kernel
theorem dX13_compareHeads_2 : decode cX13_compareHeads 2 = .ok (.aload_n 0, 1) := by decide +kernel
theorem dX13_compareHeads_3 : decode cX13_compareHeads 3 = .ok (.getfield 262, 3) := by decide +kernel
theorem dX13_compareHeads_6 : decode cX13_compareHeads 6 = .ok (.iload_n 1, 1) := by decide +kernel
theorem dX13_compareHeads_7 : decode cX13_compareHeads 7 = .ok (.baload, 1) := by decide +kernel
theorem dX13_compareHeads_8 : decode cX13_compareHeads 8 = .ok (.ifCond .ne 7, 3) := by decide +kernel
theorem dX13_compareHeads_11 : decode cX13_compareHeads 11 = .ok (.iconst 1, 1) := by decide +kernel
theorem dX13_compareHeads_12 : decode cX13_compareHeads 12 = .ok (.goto 4, 3) := by decide +kernel
theorem dX13_compareHeads_15 : decode cX13_compareHeads 15 = .ok (.iconst 0, 1) := by decide +kernel
theorem dX13_compareHeads_16 : decode cX13_compareHeads 16 = .ok (.aload_n 0, 1) := by decide +kernel
theorem dX13_compareHeads_17 : decode cX13_compareHeads 17 = .ok (.getfield 262, 3) := by decide +kernel
theorem dX13_compareHeads_20 : decode cX13_compareHeads 20 = .ok (.iload_n 2, 1) := by decide +kernel
theorem dX13_compareHeads_21 : decode cX13_compareHeads 21 = .ok (.baload, 1) := by decide +kernel
theorem dX13_compareHeads_22 : decode cX13_compareHeads 22 = .ok (.ifCond .ne 7, 3) := by decide +kernel
theorem dX13_compareHeads_25 : decode cX13_compareHeads 25 = .ok (.iconst 1, 1) := by decide +kernel
theorem dX13_compareHeads_26 : decode cX13_compareHeads 26 = .ok (.goto 4, 3) := by decide +kernel
theorem dX13_compareHeads_29 : decode cX13_compareHeads 29 = .ok (.iconst 0, 1) := by decide +kernel
theorem dX13_compareHeads_30 : decode cX13_compareHeads 30 = .ok (.iload_n 1, 1) := by decide +kernel
theorem dX13_compareHeads_31 : decode cX13_compareHeads 31 = .ok (.iload_n 2, 1) := by decide +kernel
theorem dX13_compareHeads_32 : decode cX13_compareHeads 32 = .ok (.invokevirtual 1407, 3) := by decide +kernel
theorem dX13_compareHeads_35 : decode cX13_compareHeads 35 = .ok (.aload_n 0, 1) := by decide +kernel
theorem dX13_compareHeads_36 : decode cX13_compareHeads 36 = .ok (.iconst 5, 1) := by decide +kernel
theorem dX13_compareHeads_37 : decode cX13_compareHeads 37 = .ok (.aload_n 0, 1) := by decide +kernel
theorem dX13_compareHeads_38 : decode cX13_compareHeads 38 = .ok (.getfield 266, 3) := by decide +kernel
theorem dX13_compareHeads_41 : decode cX13_compareHeads 41 = .ok (.iload_n 1, 1) := by decide +kernel
theorem dX13_compareHeads_42 : decode cX13_compareHeads 42 = .ok (.iaload, 1) := by decide +kernel
theorem dX13_compareHeads_43 : decode cX13_compareHeads 43 = .ok (.iconst 1, 1) := by decide +kernel
theorem dX13_compareHeads_44 : decode cX13_compareHeads 44 = .ok (.if_icmp .ne 7, 3) := by decide +kernel
theorem dX13_compareHeads_47 : decode cX13_compareHeads 47 = .ok (.iconst 1, 1) := by decide +kernel
theorem dX13_compareHeads_48 : decode cX13_compareHeads 48 = .ok (.goto 4, 3) := by decide +kernel
theorem dX13_compareHeads_51 : decode cX13_compareHeads 51 = .ok (.iconst 0, 1) := by decide +kernel
theorem dX13_compareHeads_52 : decode cX13_compareHeads 52 = .ok (.aload_n 0, 1) := by decide +kernel
theorem dX13_compareHeads_53 : decode cX13_compareHeads 53 = .ok (.getfield 266, 3) := by decide +kernel
theorem dX13_compareHeads_56 : decode cX13_compareHeads 56 = .ok (.iload_n 2, 1) := by decide +kernel
theorem dX13_compareHeads_57 : decode cX13_compareHeads 57 = .ok (.iaload, 1) := by decide +kernel
theorem dX13_compareHeads_58 : decode cX13_compareHeads 58 = .ok (.iconst 1, 1) := by decide +kernel
theorem dX13_compareHeads_59 : decode cX13_compareHeads 59 = .ok (.if_icmp .ne 7, 3) := by decide +kernel
theorem dX13_compareHeads_62 : decode cX13_compareHeads 62 = .ok (.iconst 1, 1) := by decide +kernel
theorem dX13_compareHeads_63 : decode cX13_compareHeads 63 = .ok (.goto 4, 3) := by decide +kernel
theorem dX13_compareHeads_66 : decode cX13_compareHeads 66 = .ok (.iconst 0, 1) := by decide +kernel
theorem dX13_compareHeads_67 : decode cX13_compareHeads 67 = .ok (.iload_n 1, 1) := by decide +kernel
theorem dX13_compareHeads_68 : decode cX13_compareHeads 68 = .ok (.iload_n 2, 1) := by decide +kernel
theorem dX13_compareHeads_69 : decode cX13_compareHeads 69 = .ok (.invokevirtual 1407, 3) := by decide +kernel
theorem dX13_compareHeads_72 : decode cX13_compareHeads 72 = .ok (.aload_n 0, 1) := by decide +kernel
theorem dX13_compareHeads_73 : decode cX13_compareHeads 73 = .ok (.bipush 7, 2) := by decide +kernel
theorem dX13_compareHeads_75 : decode cX13_compareHeads 75 = .ok (.aload_n 0, 1) := by decide +kernel
theorem dX13_compareHeads_76 : decode cX13_compareHeads 76 = .ok (.getfield 266, 3) := by decide +kernel
theorem dX13_compareHeads_79 : decode cX13_compareHeads 79 = .ok (.iload_n 1, 1) := by decide +kernel
theorem dX13_compareHeads_80 : decode cX13_compareHeads 80 = .ok (.iaload, 1) := by decide +kernel
theorem dX13_compareHeads_81 : decode cX13_compareHeads 81 = .ok (.iconst 2, 1) := by decide +kernel
theorem dX13_compareHeads_82 : decode cX13_compareHeads 82 = .ok (.if_icmp .ne 7, 3) := by decide +kernel
theorem dX13_compareHeads_85 : decode cX13_compareHeads 85 = .ok (.iconst 1, 1) := by decide +kernel
theorem dX13_compareHeads_86 : decode cX13_compareHeads 86 = .ok (.goto 4, 3) := by decide +kernel
theorem dX13_compareHeads_89 : decode cX13_compareHeads 89 = .ok (.iconst 0, 1) := by decide +kernel
theorem dX13_compareHeads_90 : decode cX13_compareHeads 90 = .ok (.aload_n 0, 1) := by decide +kernel
theorem dX13_compareHeads_91 : decode cX13_compareHeads 91 = .ok (.getfield 266, 3) := by decide +kernel
theorem dX13_compareHeads_94 : decode cX13_compareHeads 94 = .ok (.iload_n 2, 1) := by decide +kernel
theorem dX13_compareHeads_95 : decode cX13_compareHeads 95 = .ok (.iaload, 1) := by decide +kernel
theorem dX13_compareHeads_96 : decode cX13_compareHeads 96 = .ok (.iconst 2, 1) := by decide +kernel
theorem dX13_compareHeads_97 : decode cX13_compareHeads 97 = .ok (.if_icmp .ne 7, 3) := by decide +kernel
theorem dX13_compareHeads_100 : decode cX13_compareHeads 100 = .ok (.iconst 1, 1) := by decide +kernel
theorem dX13_compareHeads_101 : decode cX13_compareHeads 101 = .ok (.goto 4, 3) := by decide +kernel
theorem dX13_compareHeads_104 : decode cX13_compareHeads 104 = .ok (.iconst 0, 1) := by decide +kernel
theorem dX13_compareHeads_105 : decode cX13_compareHeads 105 = .ok (.iload_n 1, 1) := by decide +kernel
theorem dX13_compareHeads_106 : decode cX13_compareHeads 106 = .ok (.iload_n 2, 1) := by decide +kernel
theorem dX13_compareHeads_107 : decode cX13_compareHeads 107 = .ok (.invokevirtual 1407, 3) := by decide +kernel
theorem dX13_compareHeads_110 : decode cX13_compareHeads 110 = .ok (.aload_n 0, 1) := by decide +kernel
theorem dX13_compareHeads_111 : decode cX13_compareHeads 111 = .ok (.getfield 269, 3) := by decide +kernel
theorem dX13_compareHeads_114 : decode cX13_compareHeads 114 = .ok (.iload_n 1, 1) := by decide +kernel
theorem dX13_compareHeads_115 : decode cX13_compareHeads 115 = .ok (.laload, 1) := by decide +kernel
theorem dX13_compareHeads_116 : decode cX13_compareHeads 116 = .ok (.lconst 0, 1) := by decide +kernel
theorem dX13_compareHeads_117 : decode cX13_compareHeads 117 = .ok (.lcmp, 1) := by decide +kernel
theorem dX13_compareHeads_118 : decode cX13_compareHeads 118 = .ok (.ifCond .ne 9, 3) := by decide +kernel
theorem dX13_compareHeads_121 : decode cX13_compareHeads 121 = .ok (.ldc2_w 522, 3) := by decide +kernel
theorem dX13_compareHeads_124 : decode cX13_compareHeads 124 = .ok (.goto 9, 3) := by decide +kernel
theorem dX13_compareHeads_127 : decode cX13_compareHeads 127 = .ok (.aload_n 0, 1) := by decide +kernel
theorem dX13_compareHeads_128 : decode cX13_compareHeads 128 = .ok (.getfield 269, 3) := by decide +kernel
theorem dX13_compareHeads_131 : decode cX13_compareHeads 131 = .ok (.iload_n 1, 1) := by decide +kernel
theorem dX13_compareHeads_132 : decode cX13_compareHeads 132 = .ok (.laload, 1) := by decide +kernel
theorem dX13_compareHeads_133 : decode cX13_compareHeads 133 = .ok (.lstore_n 3, 1) := by decide +kernel
theorem dX13_compareHeads_134 : decode cX13_compareHeads 134 = .ok (.aload_n 0, 1) := by decide +kernel
theorem dX13_compareHeads_135 : decode cX13_compareHeads 135 = .ok (.getfield 269, 3) := by decide +kernel
theorem dX13_compareHeads_138 : decode cX13_compareHeads 138 = .ok (.iload_n 2, 1) := by decide +kernel
theorem dX13_compareHeads_139 : decode cX13_compareHeads 139 = .ok (.laload, 1) := by decide +kernel
theorem dX13_compareHeads_140 : decode cX13_compareHeads 140 = .ok (.lconst 0, 1) := by decide +kernel
theorem dX13_compareHeads_141 : decode cX13_compareHeads 141 = .ok (.lcmp, 1) := by decide +kernel
theorem dX13_compareHeads_142 : decode cX13_compareHeads 142 = .ok (.ifCond .ne 9, 3) := by decide +kernel
theorem dX13_compareHeads_145 : decode cX13_compareHeads 145 = .ok (.ldc2_w 522, 3) := by decide +kernel
theorem dX13_compareHeads_148 : decode cX13_compareHeads 148 = .ok (.goto 9, 3) := by decide +kernel
theorem dX13_compareHeads_151 : decode cX13_compareHeads 151 = .ok (.aload_n 0, 1) := by decide +kernel
theorem dX13_compareHeads_152 : decode cX13_compareHeads 152 = .ok (.getfield 269, 3) := by decide +kernel
theorem dX13_compareHeads_155 : decode cX13_compareHeads 155 = .ok (.iload_n 2, 1) := by decide +kernel
theorem dX13_compareHeads_156 : decode cX13_compareHeads 156 = .ok (.laload, 1) := by decide +kernel
theorem dX13_compareHeads_157 : decode cX13_compareHeads 157 = .ok (.lstore 5, 2) := by decide +kernel
theorem dX13_compareHeads_159 : decode cX13_compareHeads 159 = .ok (.aload_n 0, 1) := by decide +kernel
theorem dX13_compareHeads_160 : decode cX13_compareHeads 160 = .ok (.iload_n 1, 1) := by decide +kernel
theorem dX13_compareHeads_161 : decode cX13_compareHeads 161 = .ok (.invokevirtual 548, 3) := by decide +kernel
theorem dX13_compareHeads_164 : decode cX13_compareHeads 164 = .ok (.ifCond .ne 22, 3) := by decide +kernel
theorem dX13_compareHeads_167 : decode cX13_compareHeads 167 = .ok (.lload_n 3, 1) := by decide +kernel
theorem dX13_compareHeads_168 : decode cX13_compareHeads 168 = .ok (.lload 5, 2) := by decide +kernel
theorem dX13_compareHeads_170 : decode cX13_compareHeads 170 = .ok (.lcmp, 1) := by decide +kernel
theorem dX13_compareHeads_171 : decode cX13_compareHeads 171 = .ok (.ifCond .eq 15, 3) := by decide +kernel
theorem dX13_compareHeads_174 : decode cX13_compareHeads 174 = .ok (.aload_n 0, 1) := by decide +kernel
theorem dX13_compareHeads_175 : decode cX13_compareHeads 175 = .ok (.bipush 9, 2) := by decide +kernel
theorem dX13_compareHeads_177 : decode cX13_compareHeads 177 = .ok (.iload_n 1, 1) := by decide +kernel
theorem dX13_compareHeads_178 : decode cX13_compareHeads 178 = .ok (.iload_n 2, 1) := by decide +kernel
theorem dX13_compareHeads_179 : decode cX13_compareHeads 179 = .ok (.bipush (-2), 2) := by decide +kernel
theorem dX13_compareHeads_181 : decode cX13_compareHeads 181 = .ok (.bipush (-2), 2) := by decide +kernel
theorem dX13_compareHeads_183 : decode cX13_compareHeads 183 = .ok (.invokevirtual 1388, 3) := by decide +kernel
theorem dX13_compareHeads_186 : decode cX13_compareHeads 186 = .ok (.iconst 0, 1) := by decide +kernel
theorem dX13_compareHeads_187 : decode cX13_compareHeads 187 = .ok (.istore 7, 2) := by decide +kernel
theorem dX13_compareHeads_189 : decode cX13_compareHeads 189 = .ok (.iload 7, 2) := by decide +kernel
theorem dX13_compareHeads_191 : decode cX13_compareHeads 191 = .ok (.aload_n 0, 1) := by decide +kernel
theorem dX13_compareHeads_192 : decode cX13_compareHeads 192 = .ok (.getfield 283, 3) := by decide +kernel
theorem dX13_compareHeads_195 : decode cX13_compareHeads 195 = .ok (.iload_n 1, 1) := by decide +kernel
theorem dX13_compareHeads_196 : decode cX13_compareHeads 196 = .ok (.iaload, 1) := by decide +kernel
theorem dX13_compareHeads_197 : decode cX13_compareHeads 197 = .ok (.if_icmp .ge 51, 3) := by decide +kernel
theorem dX13_compareHeads_200 : decode cX13_compareHeads 200 = .ok (.aload_n 0, 1) := by decide +kernel
theorem dX13_compareHeads_201 : decode cX13_compareHeads 201 = .ok (.getfield 288, 3) := by decide +kernel
theorem dX13_compareHeads_204 : decode cX13_compareHeads 204 = .ok (.iconst 4, 1) := by decide +kernel
theorem dX13_compareHeads_205 : decode cX13_compareHeads 205 = .ok (.iload_n 2, 1) := by decide +kernel
theorem dX13_compareHeads_206 : decode cX13_compareHeads 206 = .ok (.imul, 1) := by decide +kernel
theorem dX13_compareHeads_207 : decode cX13_compareHeads 207 = .ok (.aload_n 0, 1) := by decide +kernel
theorem dX13_compareHeads_208 : decode cX13_compareHeads 208 = .ok (.getfield 283, 3) := by decide +kernel
theorem dX13_compareHeads_211 : decode cX13_compareHeads 211 = .ok (.iload_n 2, 1) := by decide +kernel
theorem dX13_compareHeads_212 : decode cX13_compareHeads 212 = .ok (.iaload, 1) := by decide +kernel
theorem dX13_compareHeads_213 : decode cX13_compareHeads 213 = .ok (.aload_n 0, 1) := by decide +kernel
theorem dX13_compareHeads_214 : decode cX13_compareHeads 214 = .ok (.getfield 288, 3) := by decide +kernel
theorem dX13_compareHeads_217 : decode cX13_compareHeads 217 = .ok (.iconst 4, 1) := by decide +kernel
theorem dX13_compareHeads_218 : decode cX13_compareHeads 218 = .ok (.iload_n 1, 1) := by decide +kernel
theorem dX13_compareHeads_219 : decode cX13_compareHeads 219 = .ok (.imul, 1) := by decide +kernel
theorem dX13_compareHeads_220 : decode cX13_compareHeads 220 = .ok (.iload 7, 2) := by decide +kernel
theorem dX13_compareHeads_222 : decode cX13_compareHeads 222 = .ok (.iadd, 1) := by decide +kernel
theorem dX13_compareHeads_223 : decode cX13_compareHeads 223 = .ok (.laload, 1) := by decide +kernel
theorem dX13_compareHeads_224 : decode cX13_compareHeads 224 = .ok (.invokestatic 595, 3) := by decide +kernel
theorem dX13_compareHeads_227 : decode cX13_compareHeads 227 = .ok (.ifCond .ne 15, 3) := by decide +kernel
theorem dX13_compareHeads_230 : decode cX13_compareHeads 230 = .ok (.aload_n 0, 1) := by decide +kernel
theorem dX13_compareHeads_231 : decode cX13_compareHeads 231 = .ok (.bipush 10, 2) := by decide +kernel
theorem dX13_compareHeads_233 : decode cX13_compareHeads 233 = .ok (.iload_n 1, 1) := by decide +kernel
theorem dX13_compareHeads_234 : decode cX13_compareHeads 234 = .ok (.iload_n 2, 1) := by decide +kernel
theorem dX13_compareHeads_235 : decode cX13_compareHeads 235 = .ok (.bipush (-2), 2) := by decide +kernel
theorem dX13_compareHeads_237 : decode cX13_compareHeads 237 = .ok (.bipush (-2), 2) := by decide +kernel
theorem dX13_compareHeads_239 : decode cX13_compareHeads 239 = .ok (.invokevirtual 1388, 3) := by decide +kernel
theorem dX13_compareHeads_242 : decode cX13_compareHeads 242 = .ok (.iinc 7 1, 3) := by decide +kernel
theorem dX13_compareHeads_245 : decode cX13_compareHeads 245 = .ok (.goto (-56), 3) := by decide +kernel
theorem dX13_compareHeads_248 : decode cX13_compareHeads 248 = .ok (.iconst 0, 1) := by decide +kernel
theorem dX13_compareHeads_249 : decode cX13_compareHeads 249 = .ok (.istore 7, 2) := by decide +kernel
theorem dX13_compareHeads_251 : decode cX13_compareHeads 251 = .ok (.iload 7, 2) := by decide +kernel
theorem dX13_compareHeads_253 : decode cX13_compareHeads 253 = .ok (.aload_n 0, 1) := by decide +kernel
theorem dX13_compareHeads_254 : decode cX13_compareHeads 254 = .ok (.getfield 283, 3) := by decide +kernel
theorem dX13_compareHeads_257 : decode cX13_compareHeads 257 = .ok (.iload_n 2, 1) := by decide +kernel
theorem dX13_compareHeads_258 : decode cX13_compareHeads 258 = .ok (.iaload, 1) := by decide +kernel
theorem dX13_compareHeads_259 : decode cX13_compareHeads 259 = .ok (.if_icmp .ge 51, 3) := by decide +kernel
theorem dX13_compareHeads_262 : decode cX13_compareHeads 262 = .ok (.aload_n 0, 1) := by decide +kernel
theorem dX13_compareHeads_263 : decode cX13_compareHeads 263 = .ok (.getfield 288, 3) := by decide +kernel
theorem dX13_compareHeads_266 : decode cX13_compareHeads 266 = .ok (.iconst 4, 1) := by decide +kernel
theorem dX13_compareHeads_267 : decode cX13_compareHeads 267 = .ok (.iload_n 1, 1) := by decide +kernel
theorem dX13_compareHeads_268 : decode cX13_compareHeads 268 = .ok (.imul, 1) := by decide +kernel
theorem dX13_compareHeads_269 : decode cX13_compareHeads 269 = .ok (.aload_n 0, 1) := by decide +kernel
theorem dX13_compareHeads_270 : decode cX13_compareHeads 270 = .ok (.getfield 283, 3) := by decide +kernel
theorem dX13_compareHeads_273 : decode cX13_compareHeads 273 = .ok (.iload_n 1, 1) := by decide +kernel
theorem dX13_compareHeads_274 : decode cX13_compareHeads 274 = .ok (.iaload, 1) := by decide +kernel
theorem dX13_compareHeads_275 : decode cX13_compareHeads 275 = .ok (.aload_n 0, 1) := by decide +kernel
theorem dX13_compareHeads_276 : decode cX13_compareHeads 276 = .ok (.getfield 288, 3) := by decide +kernel
theorem dX13_compareHeads_279 : decode cX13_compareHeads 279 = .ok (.iconst 4, 1) := by decide +kernel
theorem dX13_compareHeads_280 : decode cX13_compareHeads 280 = .ok (.iload_n 2, 1) := by decide +kernel
theorem dX13_compareHeads_281 : decode cX13_compareHeads 281 = .ok (.imul, 1) := by decide +kernel
theorem dX13_compareHeads_282 : decode cX13_compareHeads 282 = .ok (.iload 7, 2) := by decide +kernel
theorem dX13_compareHeads_284 : decode cX13_compareHeads 284 = .ok (.iadd, 1) := by decide +kernel
theorem dX13_compareHeads_285 : decode cX13_compareHeads 285 = .ok (.laload, 1) := by decide +kernel
theorem dX13_compareHeads_286 : decode cX13_compareHeads 286 = .ok (.invokestatic 595, 3) := by decide +kernel
theorem dX13_compareHeads_289 : decode cX13_compareHeads 289 = .ok (.ifCond .ne 15, 3) := by decide +kernel
theorem dX13_compareHeads_292 : decode cX13_compareHeads 292 = .ok (.aload_n 0, 1) := by decide +kernel
theorem dX13_compareHeads_293 : decode cX13_compareHeads 293 = .ok (.bipush 11, 2) := by decide +kernel
theorem dX13_compareHeads_295 : decode cX13_compareHeads 295 = .ok (.iload_n 1, 1) := by decide +kernel
theorem dX13_compareHeads_296 : decode cX13_compareHeads 296 = .ok (.iload_n 2, 1) := by decide +kernel
theorem dX13_compareHeads_297 : decode cX13_compareHeads 297 = .ok (.bipush (-2), 2) := by decide +kernel
theorem dX13_compareHeads_299 : decode cX13_compareHeads 299 = .ok (.bipush (-2), 2) := by decide +kernel
theorem dX13_compareHeads_301 : decode cX13_compareHeads 301 = .ok (.invokevirtual 1388, 3) := by decide +kernel
theorem dX13_compareHeads_304 : decode cX13_compareHeads 304 = .ok (.iinc 7 1, 3) := by decide +kernel
theorem dX13_compareHeads_307 : decode cX13_compareHeads 307 = .ok (.goto (-56), 3) := by decide +kernel
theorem dX13_compareHeads_310 : decode cX13_compareHeads 310 = .ok (.aload_n 0, 1) := by decide +kernel
theorem dX13_compareHeads_311 : decode cX13_compareHeads 311 = .ok (.getfield 272, 3) := by decide +kernel
theorem dX13_compareHeads_314 : decode cX13_compareHeads 314 = .ok (.iload_n 1, 1) := by decide +kernel
theorem dX13_compareHeads_315 : decode cX13_compareHeads 315 = .ok (.laload, 1) := by decide +kernel
theorem dX13_compareHeads_316 : decode cX13_compareHeads 316 = .ok (.aload_n 0, 1) := by decide +kernel
theorem dX13_compareHeads_317 : decode cX13_compareHeads 317 = .ok (.getfield 272, 3) := by decide +kernel
theorem dX13_compareHeads_320 : decode cX13_compareHeads 320 = .ok (.iload_n 2, 1) := by decide +kernel
theorem dX13_compareHeads_321 : decode cX13_compareHeads 321 = .ok (.laload, 1) := by decide +kernel
theorem dX13_compareHeads_322 : decode cX13_compareHeads 322 = .ok (.lcmp, 1) := by decide +kernel
theorem dX13_compareHeads_323 : decode cX13_compareHeads 323 = .ok (.ifCond .eq 15, 3) := by decide +kernel
theorem dX13_compareHeads_326 : decode cX13_compareHeads 326 = .ok (.aload_n 0, 1) := by decide +kernel
theorem dX13_compareHeads_327 : decode cX13_compareHeads 327 = .ok (.bipush 12, 2) := by decide +kernel
theorem dX13_compareHeads_329 : decode cX13_compareHeads 329 = .ok (.iload_n 1, 1) := by decide +kernel
theorem dX13_compareHeads_330 : decode cX13_compareHeads 330 = .ok (.iload_n 2, 1) := by decide +kernel
theorem dX13_compareHeads_331 : decode cX13_compareHeads 331 = .ok (.bipush (-2), 2) := by decide +kernel
theorem dX13_compareHeads_333 : decode cX13_compareHeads 333 = .ok (.bipush (-2), 2) := by decide +kernel
theorem dX13_compareHeads_335 : decode cX13_compareHeads 335 = .ok (.invokevirtual 1388, 3) := by decide +kernel
theorem dX13_compareHeads_338 : decode cX13_compareHeads 338 = .ok (.aload_n 0, 1) := by decide +kernel
theorem dX13_compareHeads_339 : decode cX13_compareHeads 339 = .ok (.getfield 314, 3) := by decide +kernel
theorem dX13_compareHeads_342 : decode cX13_compareHeads 342 = .ok (.iload_n 1, 1) := by decide +kernel
theorem dX13_compareHeads_343 : decode cX13_compareHeads 343 = .ok (.iaload, 1) := by decide +kernel
theorem dX13_compareHeads_344 : decode cX13_compareHeads 344 = .ok (.ifCond .ne 7, 3) := by decide +kernel
theorem dX13_compareHeads_347 : decode cX13_compareHeads 347 = .ok (.iconst 1, 1) := by decide +kernel
theorem dX13_compareHeads_348 : decode cX13_compareHeads 348 = .ok (.goto 4, 3) := by decide +kernel
theorem dX13_compareHeads_351 : decode cX13_compareHeads 351 = .ok (.iconst 0, 1) := by decide +kernel
theorem dX13_compareHeads_352 : decode cX13_compareHeads 352 = .ok (.istore 7, 2) := by decide +kernel
theorem dX13_compareHeads_354 : decode cX13_compareHeads 354 = .ok (.aload_n 0, 1) := by decide +kernel
theorem dX13_compareHeads_355 : decode cX13_compareHeads 355 = .ok (.getfield 314, 3) := by decide +kernel
theorem dX13_compareHeads_358 : decode cX13_compareHeads 358 = .ok (.iload_n 1, 1) := by decide +kernel
theorem dX13_compareHeads_359 : decode cX13_compareHeads 359 = .ok (.iaload, 1) := by decide +kernel
theorem dX13_compareHeads_360 : decode cX13_compareHeads 360 = .ok (.aload_n 0, 1) := by decide +kernel
theorem dX13_compareHeads_361 : decode cX13_compareHeads 361 = .ok (.getfield 314, 3) := by decide +kernel
theorem dX13_compareHeads_364 : decode cX13_compareHeads 364 = .ok (.iload_n 2, 1) := by decide +kernel
theorem dX13_compareHeads_365 : decode cX13_compareHeads 365 = .ok (.iaload, 1) := by decide +kernel
theorem dX13_compareHeads_366 : decode cX13_compareHeads 366 = .ok (.if_icmp .ne 7, 3) := by decide +kernel
theorem dX13_compareHeads_369 : decode cX13_compareHeads 369 = .ok (.iconst 1, 1) := by decide +kernel
theorem dX13_compareHeads_370 : decode cX13_compareHeads 370 = .ok (.goto 4, 3) := by decide +kernel
theorem dX13_compareHeads_373 : decode cX13_compareHeads 373 = .ok (.iconst 0, 1) := by decide +kernel
theorem dX13_compareHeads_374 : decode cX13_compareHeads 374 = .ok (.istore 8, 2) := by decide +kernel
theorem dX13_compareHeads_376 : decode cX13_compareHeads 376 = .ok (.iconst 0, 1) := by decide +kernel
theorem dX13_compareHeads_377 : decode cX13_compareHeads 377 = .ok (.istore 9, 2) := by decide +kernel
theorem dX13_compareHeads_379 : decode cX13_compareHeads 379 = .ok (.iload 9, 2) := by decide +kernel
theorem dX13_compareHeads_381 : decode cX13_compareHeads 381 = .ok (.aload_n 0, 1) := by decide +kernel
theorem dX13_compareHeads_382 : decode cX13_compareHeads 382 = .ok (.getfield 314, 3) := by decide +kernel
theorem dX13_compareHeads_385 : decode cX13_compareHeads 385 = .ok (.iload_n 1, 1) := by decide +kernel
theorem dX13_compareHeads_386 : decode cX13_compareHeads 386 = .ok (.iaload, 1) := by decide +kernel
theorem dX13_compareHeads_387 : decode cX13_compareHeads 387 = .ok (.if_icmp .ge 93, 3) := by decide +kernel
theorem dX13_compareHeads_390 : decode cX13_compareHeads 390 = .ok (.iload 7, 2) := by decide +kernel
theorem dX13_compareHeads_392 : decode cX13_compareHeads 392 = .ok (.ifCond .ne 35, 3) := by decide +kernel
theorem dX13_compareHeads_395 : decode cX13_compareHeads 395 = .ok (.aload_n 0, 1) := by decide +kernel
theorem dX13_compareHeads_396 : decode cX13_compareHeads 396 = .ok (.getfield 319, 3) := by decide +kernel
theorem dX13_compareHeads_399 : decode cX13_compareHeads 399 = .ok (.bipush 8, 2) := by decide +kernel
theorem dX13_compareHeads_401 : decode cX13_compareHeads 401 = .ok (.iload_n 2, 1) := by decide +kernel
theorem dX13_compareHeads_402 : decode cX13_compareHeads 402 = .ok (.imul, 1) := by decide +kernel
theorem dX13_compareHeads_403 : decode cX13_compareHeads 403 = .ok (.aload_n 0, 1) := by decide +kernel
theorem dX13_compareHeads_404 : decode cX13_compareHeads 404 = .ok (.getfield 314, 3) := by decide +kernel
theorem dX13_compareHeads_407 : decode cX13_compareHeads 407 = .ok (.iload_n 2, 1) := by decide +kernel
theorem dX13_compareHeads_408 : decode cX13_compareHeads 408 = .ok (.iaload, 1) := by decide +kernel
theorem dX13_compareHeads_409 : decode cX13_compareHeads 409 = .ok (.aload_n 0, 1) := by decide +kernel
theorem dX13_compareHeads_410 : decode cX13_compareHeads 410 = .ok (.getfield 319, 3) := by decide +kernel
theorem dX13_compareHeads_413 : decode cX13_compareHeads 413 = .ok (.bipush 8, 2) := by decide +kernel
theorem dX13_compareHeads_415 : decode cX13_compareHeads 415 = .ok (.iload_n 1, 1) := by decide +kernel
theorem dX13_compareHeads_416 : decode cX13_compareHeads 416 = .ok (.imul, 1) := by decide +kernel
theorem dX13_compareHeads_417 : decode cX13_compareHeads 417 = .ok (.iload 9, 2) := by decide +kernel
theorem dX13_compareHeads_419 : decode cX13_compareHeads 419 = .ok (.iadd, 1) := by decide +kernel
theorem dX13_compareHeads_420 : decode cX13_compareHeads 420 = .ok (.laload, 1) := by decide +kernel
theorem dX13_compareHeads_421 : decode cX13_compareHeads 421 = .ok (.invokestatic 595, 3) := by decide +kernel
theorem dX13_compareHeads_424 : decode cX13_compareHeads 424 = .ok (.ifCond .ne 7, 3) := by decide +kernel
theorem dX13_compareHeads_427 : decode cX13_compareHeads 427 = .ok (.iconst 1, 1) := by decide +kernel
theorem dX13_compareHeads_428 : decode cX13_compareHeads 428 = .ok (.goto 4, 3) := by decide +kernel
theorem dX13_compareHeads_431 : decode cX13_compareHeads 431 = .ok (.iconst 0, 1) := by decide +kernel
theorem dX13_compareHeads_432 : decode cX13_compareHeads 432 = .ok (.istore 7, 2) := by decide +kernel
theorem dX13_compareHeads_434 : decode cX13_compareHeads 434 = .ok (.iload 8, 2) := by decide +kernel
theorem dX13_compareHeads_436 : decode cX13_compareHeads 436 = .ok (.ifCond .eq 35, 3) := by decide +kernel
theorem dX13_compareHeads_439 : decode cX13_compareHeads 439 = .ok (.aload_n 0, 1) := by decide +kernel
theorem dX13_compareHeads_440 : decode cX13_compareHeads 440 = .ok (.getfield 319, 3) := by decide +kernel
theorem dX13_compareHeads_443 : decode cX13_compareHeads 443 = .ok (.bipush 8, 2) := by decide +kernel
theorem dX13_compareHeads_445 : decode cX13_compareHeads 445 = .ok (.iload_n 1, 1) := by decide +kernel
theorem dX13_compareHeads_446 : decode cX13_compareHeads 446 = .ok (.imul, 1) := by decide +kernel
theorem dX13_compareHeads_447 : decode cX13_compareHeads 447 = .ok (.iload 9, 2) := by decide +kernel
theorem dX13_compareHeads_449 : decode cX13_compareHeads 449 = .ok (.iadd, 1) := by decide +kernel
theorem dX13_compareHeads_450 : decode cX13_compareHeads 450 = .ok (.laload, 1) := by decide +kernel
theorem dX13_compareHeads_451 : decode cX13_compareHeads 451 = .ok (.aload_n 0, 1) := by decide +kernel
theorem dX13_compareHeads_452 : decode cX13_compareHeads 452 = .ok (.getfield 319, 3) := by decide +kernel
theorem dX13_compareHeads_455 : decode cX13_compareHeads 455 = .ok (.bipush 8, 2) := by decide +kernel
theorem dX13_compareHeads_457 : decode cX13_compareHeads 457 = .ok (.iload_n 2, 1) := by decide +kernel
theorem dX13_compareHeads_458 : decode cX13_compareHeads 458 = .ok (.imul, 1) := by decide +kernel
theorem dX13_compareHeads_459 : decode cX13_compareHeads 459 = .ok (.iload 9, 2) := by decide +kernel
theorem dX13_compareHeads_461 : decode cX13_compareHeads 461 = .ok (.iadd, 1) := by decide +kernel
theorem dX13_compareHeads_462 : decode cX13_compareHeads 462 = .ok (.laload, 1) := by decide +kernel
theorem dX13_compareHeads_463 : decode cX13_compareHeads 463 = .ok (.lcmp, 1) := by decide +kernel
theorem dX13_compareHeads_464 : decode cX13_compareHeads 464 = .ok (.ifCond .ne 7, 3) := by decide +kernel
theorem dX13_compareHeads_467 : decode cX13_compareHeads 467 = .ok (.iconst 1, 1) := by decide +kernel
theorem dX13_compareHeads_468 : decode cX13_compareHeads 468 = .ok (.goto 4, 3) := by decide +kernel
theorem dX13_compareHeads_471 : decode cX13_compareHeads 471 = .ok (.iconst 0, 1) := by decide +kernel
theorem dX13_compareHeads_472 : decode cX13_compareHeads 472 = .ok (.istore 8, 2) := by decide +kernel
theorem dX13_compareHeads_474 : decode cX13_compareHeads 474 = .ok (.iinc 9 1, 3) := by decide +kernel
theorem dX13_compareHeads_477 : decode cX13_compareHeads 477 = .ok (.goto (-98), 3) := by decide +kernel
theorem dX13_compareHeads_480 : decode cX13_compareHeads 480 = .ok (.iload 8, 2) := by decide +kernel
theorem dX13_compareHeads_482 : decode cX13_compareHeads 482 = .ok (.ifCond .ne 34, 3) := by decide +kernel
theorem dX13_compareHeads_485 : decode cX13_compareHeads 485 = .ok (.aload_n 0, 1) := by decide +kernel
theorem dX13_compareHeads_486 : decode cX13_compareHeads 486 = .ok (.aload_n 0, 1) := by decide +kernel
theorem dX13_compareHeads_487 : decode cX13_compareHeads 487 = .ok (.getfield 314, 3) := by decide +kernel
theorem dX13_compareHeads_490 : decode cX13_compareHeads 490 = .ok (.iload_n 2, 1) := by decide +kernel
theorem dX13_compareHeads_491 : decode cX13_compareHeads 491 = .ok (.iaload, 1) := by decide +kernel
theorem dX13_compareHeads_492 : decode cX13_compareHeads 492 = .ok (.ifCond .le 13, 3) := by decide +kernel
theorem dX13_compareHeads_495 : decode cX13_compareHeads 495 = .ok (.iload 7, 2) := by decide +kernel
theorem dX13_compareHeads_497 : decode cX13_compareHeads 497 = .ok (.ifCond .eq 8, 3) := by decide +kernel
theorem dX13_compareHeads_500 : decode cX13_compareHeads 500 = .ok (.bipush 13, 2) := by decide +kernel
theorem dX13_compareHeads_502 : decode cX13_compareHeads 502 = .ok (.goto 5, 3) := by decide +kernel
theorem dX13_compareHeads_505 : decode cX13_compareHeads 505 = .ok (.bipush 14, 2) := by decide +kernel
theorem dX13_compareHeads_507 : decode cX13_compareHeads 507 = .ok (.iload_n 1, 1) := by decide +kernel
theorem dX13_compareHeads_508 : decode cX13_compareHeads 508 = .ok (.iload_n 2, 1) := by decide +kernel
theorem dX13_compareHeads_509 : decode cX13_compareHeads 509 = .ok (.bipush (-2), 2) := by decide +kernel
theorem dX13_compareHeads_511 : decode cX13_compareHeads 511 = .ok (.bipush (-2), 2) := by decide +kernel
theorem dX13_compareHeads_513 : decode cX13_compareHeads 513 = .ok (.invokevirtual 1388, 3) := by decide +kernel
theorem dX13_compareHeads_516 : decode cX13_compareHeads 516 = .ok (.return_, 1) := by decide +kernel
theorem dX13_eitherOf_0 : decode cX13_eitherOf 0 = .ok (.iload_n 2, 1) := by decide +kernel
theorem dX13_eitherOf_1 : decode cX13_eitherOf 1 = .ok (.iload_n 3, 1) := by decide +kernel
theorem dX13_eitherOf_2 : decode cX13_eitherOf 2 = .ok (.if_icmp .eq 34, 3) := by decide +kernel
theorem dX13_eitherOf_5 : decode cX13_eitherOf 5 = .ok (.aload_n 0, 1) := by decide +kernel
theorem dX13_eitherOf_6 : decode cX13_eitherOf 6 = .ok (.iload_n 3, 1) := by decide +kernel
theorem dX13_eitherOf_7 : decode cX13_eitherOf 7 = .ok (.ifCond .eq 7, 3) := by decide +kernel
theorem dX13_eitherOf_10 : decode cX13_eitherOf 10 = .ok (.iload_n 1, 1) := by decide +kernel
theorem dX13_eitherOf_11 : decode cX13_eitherOf 11 = .ok (.goto 6, 3) := by decide +kernel
theorem dX13_eitherOf_14 : decode cX13_eitherOf 14 = .ok (.iload_n 1, 1) := by decide +kernel
theorem dX13_eitherOf_15 : decode cX13_eitherOf 15 = .ok (.iconst 1, 1) := by decide +kernel
theorem dX13_eitherOf_16 : decode cX13_eitherOf 16 = .ok (.iadd, 1) := by decide +kernel
theorem dX13_eitherOf_17 : decode cX13_eitherOf 17 = .ok (.aload_n 0, 1) := by decide +kernel
theorem dX13_eitherOf_18 : decode cX13_eitherOf 18 = .ok (.iload 4, 2) := by decide +kernel
theorem dX13_eitherOf_20 : decode cX13_eitherOf 20 = .ok (.invokevirtual 599, 3) := by decide +kernel
theorem dX13_eitherOf_23 : decode cX13_eitherOf 23 = .ok (.aload_n 0, 1) := by decide +kernel
theorem dX13_eitherOf_24 : decode cX13_eitherOf 24 = .ok (.iload 5, 2) := by decide +kernel
theorem dX13_eitherOf_26 : decode cX13_eitherOf 26 = .ok (.invokevirtual 599, 3) := by decide +kernel
theorem dX13_eitherOf_29 : decode cX13_eitherOf 29 = .ok (.iload 4, 2) := by decide +kernel
theorem dX13_eitherOf_31 : decode cX13_eitherOf 31 = .ok (.iload 5, 2) := by decide +kernel
theorem dX13_eitherOf_33 : decode cX13_eitherOf 33 = .ok (.invokevirtual 1388, 3) := by decide +kernel
theorem dX13_eitherOf_36 : decode cX13_eitherOf 36 = .ok (.return_, 1) := by decide +kernel
theorem dX13_accessOf_0 : decode cX13_accessOf 0 = .ok (.aload_n 0, 1) := by decide +kernel
theorem dX13_accessOf_1 : decode cX13_accessOf 1 = .ok (.getfield 433, 3) := by decide +kernel
theorem dX13_accessOf_4 : decode cX13_accessOf 4 = .ok (.iload_n 2, 1) := by decide +kernel
theorem dX13_accessOf_5 : decode cX13_accessOf 5 = .ok (.iaload, 1) := by decide +kernel
theorem dX13_accessOf_6 : decode cX13_accessOf 6 = .ok (.aload_n 0, 1) := by decide +kernel
theorem dX13_accessOf_7 : decode cX13_accessOf 7 = .ok (.getfield 433, 3) := by decide +kernel
theorem dX13_accessOf_10 : decode cX13_accessOf 10 = .ok (.iload_n 3, 1) := by decide +kernel
theorem dX13_accessOf_11 : decode cX13_accessOf 11 = .ok (.iaload, 1) := by decide +kernel
theorem dX13_accessOf_12 : decode cX13_accessOf 12 = .ok (.if_icmp .eq 41, 3) := by decide +kernel
theorem dX13_accessOf_15 : decode cX13_accessOf 15 = .ok (.aload_n 0, 1) := by decide +kernel
theorem dX13_accessOf_16 : decode cX13_accessOf 16 = .ok (.aload_n 0, 1) := by decide +kernel
theorem dX13_accessOf_17 : decode cX13_accessOf 17 = .ok (.getfield 433, 3) := by decide +kernel
theorem dX13_accessOf_20 : decode cX13_accessOf 20 = .ok (.iload_n 3, 1) := by decide +kernel
theorem dX13_accessOf_21 : decode cX13_accessOf 21 = .ok (.iaload, 1) := by decide +kernel
theorem dX13_accessOf_22 : decode cX13_accessOf 22 = .ok (.aload_n 0, 1) := by decide +kernel
theorem dX13_accessOf_23 : decode cX13_accessOf 23 = .ok (.getfield 433, 3) := by decide +kernel
theorem dX13_accessOf_26 : decode cX13_accessOf 26 = .ok (.iload_n 2, 1) := by decide +kernel
theorem dX13_accessOf_27 : decode cX13_accessOf 27 = .ok (.iaload, 1) := by decide +kernel
theorem dX13_accessOf_28 : decode cX13_accessOf 28 = .ok (.if_icmp .ge 7, 3) := by decide +kernel
theorem dX13_accessOf_31 : decode cX13_accessOf 31 = .ok (.iload_n 1, 1) := by decide +kernel
theorem dX13_accessOf_32 : decode cX13_accessOf 32 = .ok (.goto 6, 3) := by decide +kernel
theorem dX13_accessOf_35 : decode cX13_accessOf 35 = .ok (.iload_n 1, 1) := by decide +kernel
theorem dX13_accessOf_36 : decode cX13_accessOf 36 = .ok (.iconst 1, 1) := by decide +kernel
theorem dX13_accessOf_37 : decode cX13_accessOf 37 = .ok (.iadd, 1) := by decide +kernel
theorem dX13_accessOf_38 : decode cX13_accessOf 38 = .ok (.aload_n 0, 1) := by decide +kernel
theorem dX13_accessOf_39 : decode cX13_accessOf 39 = .ok (.iload_n 2, 1) := by decide +kernel
theorem dX13_accessOf_40 : decode cX13_accessOf 40 = .ok (.invokevirtual 599, 3) := by decide +kernel
theorem dX13_accessOf_43 : decode cX13_accessOf 43 = .ok (.aload_n 0, 1) := by decide +kernel
theorem dX13_accessOf_44 : decode cX13_accessOf 44 = .ok (.iload_n 3, 1) := by decide +kernel
theorem dX13_accessOf_45 : decode cX13_accessOf 45 = .ok (.invokevirtual 599, 3) := by decide +kernel
theorem dX13_accessOf_48 : decode cX13_accessOf 48 = .ok (.iload_n 2, 1) := by decide +kernel
theorem dX13_accessOf_49 : decode cX13_accessOf 49 = .ok (.iload_n 3, 1) := by decide +kernel
theorem dX13_accessOf_50 : decode cX13_accessOf 50 = .ok (.invokevirtual 1388, 3) := by decide +kernel
theorem dX13_accessOf_53 : decode cX13_accessOf 53 = .ok (.return_, 1) := by decide +kernel
theorem dX13_compareFields_0 : decode cX13_compareFields 0 = .ok (.iconst 0, 1) := by decide +kernel
theorem dX13_compareFields_1 : decode cX13_compareFields 1 = .ok (.istore_n 3, 1) := by decide +kernel
theorem dX13_compareFields_2 : decode cX13_compareFields 2 = .ok (.iload_n 3, 1) := by decide +kernel
theorem dX13_compareFields_3 : decode cX13_compareFields 3 = .ok (.aload_n 0, 1) := by decide +kernel
theorem dX13_compareFields_4 : decode cX13_compareFields 4 = .ok (.getfield 275, 3) := by decide +kernel
theorem dX13_compareFields_7 : decode cX13_compareFields 7 = .ok (.iload_n 1, 1) := by decide +kernel
theorem dX13_compareFields_8 : decode cX13_compareFields 8 = .ok (.iaload, 1) := by decide +kernel
theorem dX13_compareFields_9 : decode cX13_compareFields 9 = .ok (.if_icmp .ge 251, 3) := by decide +kernel
theorem dX13_compareFields_12 : decode cX13_compareFields 12 = .ok (.iload_n 1, 1) := by decide +kernel
theorem dX13_compareFields_13 : decode cX13_compareFields 13 = .ok (.bipush 34, 2) := by decide +kernel
theorem dX13_compareFields_15 : decode cX13_compareFields 15 = .ok (.imul, 1) := by decide +kernel
theorem dX13_compareFields_16 : decode cX13_compareFields 16 = .ok (.iload_n 3, 1) := by decide +kernel
theorem dX13_compareFields_17 : decode cX13_compareFields 17 = .ok (.iadd, 1) := by decide +kernel
theorem dX13_compareFields_18 : decode cX13_compareFields 18 = .ok (.istore 4, 2) := by decide +kernel
theorem dX13_compareFields_20 : decode cX13_compareFields 20 = .ok (.aload_n 0, 1) := by decide +kernel
theorem dX13_compareFields_21 : decode cX13_compareFields 21 = .ok (.getfield 402, 3) := by decide +kernel
theorem dX13_compareFields_24 : decode cX13_compareFields 24 = .ok (.iload 4, 2) := by decide +kernel
theorem dX13_compareFields_26 : decode cX13_compareFields 26 = .ok (.iaload, 1) := by decide +kernel
theorem dX13_compareFields_27 : decode cX13_compareFields 27 = .ok (.ifCond .eq 6, 3) := by decide +kernel
theorem dX13_compareFields_30 : decode cX13_compareFields 30 = .ok (.goto 224, 3) := by decide +kernel
theorem dX13_compareFields_33 : decode cX13_compareFields 33 = .ok (.aload_n 0, 1) := by decide +kernel
theorem dX13_compareFields_34 : decode cX13_compareFields 34 = .ok (.iload_n 2, 1) := by decide +kernel
theorem dX13_compareFields_35 : decode cX13_compareFields 35 = .ok (.aload_n 0, 1) := by decide +kernel
theorem dX13_compareFields_36 : decode cX13_compareFields 36 = .ok (.getfield 356, 3) := by decide +kernel
theorem dX13_compareFields_39 : decode cX13_compareFields 39 = .ok (.iload 4, 2) := by decide +kernel
theorem dX13_compareFields_41 : decode cX13_compareFields 41 = .ok (.laload, 1) := by decide +kernel
theorem dX13_compareFields_42 : decode cX13_compareFields 42 = .ok (.lconst 0, 1) := by decide +kernel
theorem dX13_compareFields_43 : decode cX13_compareFields 43 = .ok (.invokevirtual 614, 3) := by decide +kernel
theorem dX13_compareFields_46 : decode cX13_compareFields 46 = .ok (.istore 5, 2) := by decide +kernel
theorem dX13_compareFields_48 : decode cX13_compareFields 48 = .ok (.iload 5, 2) := by decide +kernel
theorem dX13_compareFields_50 : decode cX13_compareFields 50 = .ok (.bipush (-2), 2) := by decide +kernel
theorem dX13_compareFields_52 : decode cX13_compareFields 52 = .ok (.if_icmp .ne 18, 3) := by decide +kernel
theorem dX13_compareFields_55 : decode cX13_compareFields 55 = .ok (.aload_n 0, 1) := by decide +kernel
theorem dX13_compareFields_56 : decode cX13_compareFields 56 = .ok (.bipush 20, 2) := by decide +kernel
theorem dX13_compareFields_58 : decode cX13_compareFields 58 = .ok (.iload_n 1, 1) := by decide +kernel
theorem dX13_compareFields_59 : decode cX13_compareFields 59 = .ok (.iload_n 2, 1) := by decide +kernel
theorem dX13_compareFields_60 : decode cX13_compareFields 60 = .ok (.iload 4, 2) := by decide +kernel
theorem dX13_compareFields_62 : decode cX13_compareFields 62 = .ok (.bipush (-2), 2) := by decide +kernel
theorem dX13_compareFields_64 : decode cX13_compareFields 64 = .ok (.invokevirtual 1388, 3) := by decide +kernel
theorem dX13_compareFields_67 : decode cX13_compareFields 67 = .ok (.goto 187, 3) := by decide +kernel
theorem dX13_compareFields_70 : decode cX13_compareFields 70 = .ok (.aload_n 0, 1) := by decide +kernel
theorem dX13_compareFields_71 : decode cX13_compareFields 71 = .ok (.getfield 359, 3) := by decide +kernel
theorem dX13_compareFields_74 : decode cX13_compareFields 74 = .ok (.iload 4, 2) := by decide +kernel
theorem dX13_compareFields_76 : decode cX13_compareFields 76 = .ok (.laload, 1) := by decide +kernel
theorem dX13_compareFields_77 : decode cX13_compareFields 77 = .ok (.aload_n 0, 1) := by decide +kernel
theorem dX13_compareFields_78 : decode cX13_compareFields 78 = .ok (.getfield 359, 3) := by decide +kernel
theorem dX13_compareFields_81 : decode cX13_compareFields 81 = .ok (.iload 5, 2) := by decide +kernel
theorem dX13_compareFields_83 : decode cX13_compareFields 83 = .ok (.laload, 1) := by decide +kernel
theorem dX13_compareFields_84 : decode cX13_compareFields 84 = .ok (.lcmp, 1) := by decide +kernel
theorem dX13_compareFields_85 : decode cX13_compareFields 85 = .ok (.ifCond .eq 15, 3) := by decide +kernel
theorem dX13_compareFields_88 : decode cX13_compareFields 88 = .ok (.aload_n 0, 1) := by decide +kernel
theorem dX13_compareFields_89 : decode cX13_compareFields 89 = .ok (.bipush 21, 2) := by decide +kernel
theorem dX13_compareFields_91 : decode cX13_compareFields 91 = .ok (.iload_n 1, 1) := by decide +kernel
theorem dX13_compareFields_92 : decode cX13_compareFields 92 = .ok (.iload_n 2, 1) := by decide +kernel
theorem dX13_compareFields_93 : decode cX13_compareFields 93 = .ok (.iload 4, 2) := by decide +kernel
theorem dX13_compareFields_95 : decode cX13_compareFields 95 = .ok (.iload 5, 2) := by decide +kernel
theorem dX13_compareFields_97 : decode cX13_compareFields 97 = .ok (.invokevirtual 1388, 3) := by decide +kernel
theorem dX13_compareFields_100 : decode cX13_compareFields 100 = .ok (.aload_n 0, 1) := by decide +kernel
theorem dX13_compareFields_101 : decode cX13_compareFields 101 = .ok (.getfield 341, 3) := by decide +kernel
theorem dX13_compareFields_104 : decode cX13_compareFields 104 = .ok (.iload 4, 2) := by decide +kernel
theorem dX13_compareFields_106 : decode cX13_compareFields 106 = .ok (.baload, 1) := by decide +kernel
theorem dX13_compareFields_107 : decode cX13_compareFields 107 = .ok (.aload_n 0, 1) := by decide +kernel
theorem dX13_compareFields_108 : decode cX13_compareFields 108 = .ok (.getfield 341, 3) := by decide +kernel
theorem dX13_compareFields_111 : decode cX13_compareFields 111 = .ok (.iload 5, 2) := by decide +kernel
theorem dX13_compareFields_113 : decode cX13_compareFields 113 = .ok (.baload, 1) := by decide +kernel
theorem dX13_compareFields_114 : decode cX13_compareFields 114 = .ok (.if_icmp .eq 15, 3) := by decide +kernel
theorem dX13_compareFields_117 : decode cX13_compareFields 117 = .ok (.aload_n 0, 1) := by decide +kernel
theorem dX13_compareFields_118 : decode cX13_compareFields 118 = .ok (.bipush 22, 2) := by decide +kernel
theorem dX13_compareFields_120 : decode cX13_compareFields 120 = .ok (.iload_n 1, 1) := by decide +kernel
theorem dX13_compareFields_121 : decode cX13_compareFields 121 = .ok (.iload_n 2, 1) := by decide +kernel
theorem dX13_compareFields_122 : decode cX13_compareFields 122 = .ok (.iload 4, 2) := by decide +kernel
theorem dX13_compareFields_124 : decode cX13_compareFields 124 = .ok (.iload 5, 2) := by decide +kernel
theorem dX13_compareFields_126 : decode cX13_compareFields 126 = .ok (.invokevirtual 1388, 3) := by decide +kernel
theorem dX13_compareFields_129 : decode cX13_compareFields 129 = .ok (.aload_n 0, 1) := by decide +kernel
theorem dX13_compareFields_130 : decode cX13_compareFields 130 = .ok (.getfield 359, 3) := by decide +kernel
theorem dX13_compareFields_133 : decode cX13_compareFields 133 = .ok (.iload 4, 2) := by decide +kernel
theorem dX13_compareFields_135 : decode cX13_compareFields 135 = .ok (.laload, 1) := by decide +kernel
theorem dX13_compareFields_136 : decode cX13_compareFields 136 = .ok (.aload_n 0, 1) := by decide +kernel
theorem dX13_compareFields_137 : decode cX13_compareFields 137 = .ok (.getfield 359, 3) := by decide +kernel
theorem dX13_compareFields_140 : decode cX13_compareFields 140 = .ok (.iload 5, 2) := by decide +kernel
theorem dX13_compareFields_142 : decode cX13_compareFields 142 = .ok (.laload, 1) := by decide +kernel
theorem dX13_compareFields_143 : decode cX13_compareFields 143 = .ok (.lcmp, 1) := by decide +kernel
theorem dX13_compareFields_144 : decode cX13_compareFields 144 = .ok (.ifCond .ne 110, 3) := by decide +kernel
theorem dX13_compareFields_147 : decode cX13_compareFields 147 = .ok (.aload_n 0, 1) := by decide +kernel
theorem dX13_compareFields_148 : decode cX13_compareFields 148 = .ok (.getfield 341, 3) := by decide +kernel
theorem dX13_compareFields_151 : decode cX13_compareFields 151 = .ok (.iload 4, 2) := by decide +kernel
theorem dX13_compareFields_153 : decode cX13_compareFields 153 = .ok (.baload, 1) := by decide +kernel
theorem dX13_compareFields_154 : decode cX13_compareFields 154 = .ok (.aload_n 0, 1) := by decide +kernel
theorem dX13_compareFields_155 : decode cX13_compareFields 155 = .ok (.getfield 341, 3) := by decide +kernel
theorem dX13_compareFields_158 : decode cX13_compareFields 158 = .ok (.iload 5, 2) := by decide +kernel
theorem dX13_compareFields_160 : decode cX13_compareFields 160 = .ok (.baload, 1) := by decide +kernel
theorem dX13_compareFields_161 : decode cX13_compareFields 161 = .ok (.if_icmp .ne 93, 3) := by decide +kernel
theorem dX13_compareFields_164 : decode cX13_compareFields 164 = .ok (.aload_n 0, 1) := by decide +kernel
theorem dX13_compareFields_165 : decode cX13_compareFields 165 = .ok (.bipush 23, 2) := by decide +kernel
theorem dX13_compareFields_167 : decode cX13_compareFields 167 = .ok (.aload_n 0, 1) := by decide +kernel
theorem dX13_compareFields_168 : decode cX13_compareFields 168 = .ok (.getfield 344, 3) := by decide +kernel
theorem dX13_compareFields_171 : decode cX13_compareFields 171 = .ok (.iload 4, 2) := by decide +kernel
theorem dX13_compareFields_173 : decode cX13_compareFields 173 = .ok (.baload, 1) := by decide +kernel
theorem dX13_compareFields_174 : decode cX13_compareFields 174 = .ok (.aload_n 0, 1) := by decide +kernel
theorem dX13_compareFields_175 : decode cX13_compareFields 175 = .ok (.getfield 344, 3) := by decide +kernel
theorem dX13_compareFields_178 : decode cX13_compareFields 178 = .ok (.iload 5, 2) := by decide +kernel
theorem dX13_compareFields_180 : decode cX13_compareFields 180 = .ok (.baload, 1) := by decide +kernel
theorem dX13_compareFields_181 : decode cX13_compareFields 181 = .ok (.iload 4, 2) := by decide +kernel
theorem dX13_compareFields_183 : decode cX13_compareFields 183 = .ok (.iload 5, 2) := by decide +kernel
theorem dX13_compareFields_185 : decode cX13_compareFields 185 = .ok (.invokevirtual 1411, 3) := by decide +kernel
theorem dX13_compareFields_188 : decode cX13_compareFields 188 = .ok (.aload_n 0, 1) := by decide +kernel
theorem dX13_compareFields_189 : decode cX13_compareFields 189 = .ok (.bipush 25, 2) := by decide +kernel
theorem dX13_compareFields_191 : decode cX13_compareFields 191 = .ok (.iload 4, 2) := by decide +kernel
theorem dX13_compareFields_193 : decode cX13_compareFields 193 = .ok (.iload 5, 2) := by decide +kernel
theorem dX13_compareFields_195 : decode cX13_compareFields 195 = .ok (.invokevirtual 1414, 3) := by decide +kernel
theorem dX13_compareFields_198 : decode cX13_compareFields 198 = .ok (.aload_n 0, 1) := by decide +kernel
theorem dX13_compareFields_199 : decode cX13_compareFields 199 = .ok (.getfield 377, 3) := by decide +kernel
theorem dX13_compareFields_202 : decode cX13_compareFields 202 = .ok (.iload 4, 2) := by decide +kernel
theorem dX13_compareFields_204 : decode cX13_compareFields 204 = .ok (.baload, 1) := by decide +kernel
theorem dX13_compareFields_205 : decode cX13_compareFields 205 = .ok (.aload_n 0, 1) := by decide +kernel
theorem dX13_compareFields_206 : decode cX13_compareFields 206 = .ok (.getfield 377, 3) := by decide +kernel
theorem dX13_compareFields_209 : decode cX13_compareFields 209 = .ok (.iload 5, 2) := by decide +kernel
theorem dX13_compareFields_211 : decode cX13_compareFields 211 = .ok (.baload, 1) := by decide +kernel
theorem dX13_compareFields_212 : decode cX13_compareFields 212 = .ok (.if_icmp .ne 30, 3) := by decide +kernel
theorem dX13_compareFields_215 : decode cX13_compareFields 215 = .ok (.aload_n 0, 1) := by decide +kernel
theorem dX13_compareFields_216 : decode cX13_compareFields 216 = .ok (.getfield 377, 3) := by decide +kernel
theorem dX13_compareFields_219 : decode cX13_compareFields 219 = .ok (.iload 4, 2) := by decide +kernel
theorem dX13_compareFields_221 : decode cX13_compareFields 221 = .ok (.baload, 1) := by decide +kernel
theorem dX13_compareFields_222 : decode cX13_compareFields 222 = .ok (.ifCond .eq 32, 3) := by decide +kernel
theorem dX13_compareFields_225 : decode cX13_compareFields 225 = .ok (.aload_n 0, 1) := by decide +kernel
theorem dX13_compareFields_226 : decode cX13_compareFields 226 = .ok (.getfield 380, 3) := by decide +kernel
theorem dX13_compareFields_229 : decode cX13_compareFields 229 = .ok (.iload 4, 2) := by decide +kernel
theorem dX13_compareFields_231 : decode cX13_compareFields 231 = .ok (.iaload, 1) := by decide +kernel
theorem dX13_compareFields_232 : decode cX13_compareFields 232 = .ok (.aload_n 0, 1) := by decide +kernel
theorem dX13_compareFields_233 : decode cX13_compareFields 233 = .ok (.getfield 380, 3) := by decide +kernel
theorem dX13_compareFields_236 : decode cX13_compareFields 236 = .ok (.iload 5, 2) := by decide +kernel
theorem dX13_compareFields_238 : decode cX13_compareFields 238 = .ok (.iaload, 1) := by decide +kernel
theorem dX13_compareFields_239 : decode cX13_compareFields 239 = .ok (.if_icmp .eq 15, 3) := by decide +kernel
theorem dX13_compareFields_242 : decode cX13_compareFields 242 = .ok (.aload_n 0, 1) := by decide +kernel
theorem dX13_compareFields_243 : decode cX13_compareFields 243 = .ok (.bipush 27, 2) := by decide +kernel
theorem dX13_compareFields_245 : decode cX13_compareFields 245 = .ok (.iload_n 1, 1) := by decide +kernel
theorem dX13_compareFields_246 : decode cX13_compareFields 246 = .ok (.iload_n 2, 1) := by decide +kernel
theorem dX13_compareFields_247 : decode cX13_compareFields 247 = .ok (.iload 4, 2) := by decide +kernel
theorem dX13_compareFields_249 : decode cX13_compareFields 249 = .ok (.iload 5, 2) := by decide +kernel
theorem dX13_compareFields_251 : decode cX13_compareFields 251 = .ok (.invokevirtual 1388, 3) := by decide +kernel
theorem dX13_compareFields_254 : decode cX13_compareFields 254 = .ok (.iinc 3 1, 3) := by decide +kernel
theorem dX13_compareFields_257 : decode cX13_compareFields 257 = .ok (.goto (-255), 3) := by decide +kernel
theorem dX13_compareFields_260 : decode cX13_compareFields 260 = .ok (.iconst 0, 1) := by decide +kernel
theorem dX13_compareFields_261 : decode cX13_compareFields 261 = .ok (.istore_n 3, 1) := by decide +kernel
theorem dX13_compareFields_262 : decode cX13_compareFields 262 = .ok (.iload_n 3, 1) := by decide +kernel
theorem dX13_compareFields_263 : decode cX13_compareFields 263 = .ok (.aload_n 0, 1) := by decide +kernel
theorem dX13_compareFields_264 : decode cX13_compareFields 264 = .ok (.getfield 275, 3) := by decide +kernel
theorem dX13_compareFields_267 : decode cX13_compareFields 267 = .ok (.iload_n 2, 1) := by decide +kernel
theorem dX13_compareFields_268 : decode cX13_compareFields 268 = .ok (.iaload, 1) := by decide +kernel
theorem dX13_compareFields_269 : decode cX13_compareFields 269 = .ok (.if_icmp .ge 57, 3) := by decide +kernel
theorem dX13_compareFields_272 : decode cX13_compareFields 272 = .ok (.iload_n 2, 1) := by decide +kernel
theorem dX13_compareFields_273 : decode cX13_compareFields 273 = .ok (.bipush 34, 2) := by decide +kernel
theorem dX13_compareFields_275 : decode cX13_compareFields 275 = .ok (.imul, 1) := by decide +kernel
theorem dX13_compareFields_276 : decode cX13_compareFields 276 = .ok (.iload_n 3, 1) := by decide +kernel
theorem dX13_compareFields_277 : decode cX13_compareFields 277 = .ok (.iadd, 1) := by decide +kernel
theorem dX13_compareFields_278 : decode cX13_compareFields 278 = .ok (.istore 4, 2) := by decide +kernel
theorem dX13_compareFields_280 : decode cX13_compareFields 280 = .ok (.aload_n 0, 1) := by decide +kernel
theorem dX13_compareFields_281 : decode cX13_compareFields 281 = .ok (.getfield 402, 3) := by decide +kernel
theorem dX13_compareFields_284 : decode cX13_compareFields 284 = .ok (.iload 4, 2) := by decide +kernel
theorem dX13_compareFields_286 : decode cX13_compareFields 286 = .ok (.iaload, 1) := by decide +kernel
theorem dX13_compareFields_287 : decode cX13_compareFields 287 = .ok (.ifCond .ne 33, 3) := by decide +kernel
theorem dX13_compareFields_290 : decode cX13_compareFields 290 = .ok (.aload_n 0, 1) := by decide +kernel
theorem dX13_compareFields_291 : decode cX13_compareFields 291 = .ok (.iload_n 1, 1) := by decide +kernel
theorem dX13_compareFields_292 : decode cX13_compareFields 292 = .ok (.aload_n 0, 1) := by decide +kernel
theorem dX13_compareFields_293 : decode cX13_compareFields 293 = .ok (.getfield 356, 3) := by decide +kernel
theorem dX13_compareFields_296 : decode cX13_compareFields 296 = .ok (.iload 4, 2) := by decide +kernel
theorem dX13_compareFields_298 : decode cX13_compareFields 298 = .ok (.laload, 1) := by decide +kernel
theorem dX13_compareFields_299 : decode cX13_compareFields 299 = .ok (.lconst 0, 1) := by decide +kernel
theorem dX13_compareFields_300 : decode cX13_compareFields 300 = .ok (.invokevirtual 614, 3) := by decide +kernel
theorem dX13_compareFields_303 : decode cX13_compareFields 303 = .ok (.bipush (-2), 2) := by decide +kernel
theorem dX13_compareFields_305 : decode cX13_compareFields 305 = .ok (.if_icmp .ne 15, 3) := by decide +kernel
theorem dX13_compareFields_308 : decode cX13_compareFields 308 = .ok (.aload_n 0, 1) := by decide +kernel
theorem dX13_compareFields_309 : decode cX13_compareFields 309 = .ok (.bipush 28, 2) := by decide +kernel
theorem dX13_compareFields_311 : decode cX13_compareFields 311 = .ok (.iload_n 1, 1) := by decide +kernel
theorem dX13_compareFields_312 : decode cX13_compareFields 312 = .ok (.iload_n 2, 1) := by decide +kernel
theorem dX13_compareFields_313 : decode cX13_compareFields 313 = .ok (.bipush (-2), 2) := by decide +kernel
theorem dX13_compareFields_315 : decode cX13_compareFields 315 = .ok (.iload 4, 2) := by decide +kernel
theorem dX13_compareFields_317 : decode cX13_compareFields 317 = .ok (.invokevirtual 1388, 3) := by decide +kernel
theorem dX13_compareFields_320 : decode cX13_compareFields 320 = .ok (.iinc 3 1, 3) := by decide +kernel
theorem dX13_compareFields_323 : decode cX13_compareFields 323 = .ok (.goto (-61), 3) := by decide +kernel
theorem dX13_compareFields_326 : decode cX13_compareFields 326 = .ok (.return_, 1) := by decide +kernel
theorem dX13_alike_0 : decode cX13_alike 0 = .ok (.iconst 0, 1) := by decide +kernel
theorem dX13_alike_1 : decode cX13_alike 1 = .ok (.istore_n 3, 1) := by decide +kernel
theorem dX13_alike_2 : decode cX13_alike 2 = .ok (.iload_n 3, 1) := by decide +kernel
theorem dX13_alike_3 : decode cX13_alike 3 = .ok (.aload_n 0, 1) := by decide +kernel
theorem dX13_alike_4 : decode cX13_alike 4 = .ok (.getfield 275, 3) := by decide +kernel
theorem dX13_alike_7 : decode cX13_alike 7 = .ok (.iload_n 1, 1) := by decide +kernel
theorem dX13_alike_8 : decode cX13_alike 8 = .ok (.iaload, 1) := by decide +kernel
theorem dX13_alike_9 : decode cX13_alike 9 = .ok (.if_icmp .ge 73, 3) := by decide +kernel
theorem dX13_alike_12 : decode cX13_alike 12 = .ok (.iload_n 1, 1) := by decide +kernel
theorem dX13_alike_13 : decode cX13_alike 13 = .ok (.bipush 34, 2) := by decide +kernel
theorem dX13_alike_15 : decode cX13_alike 15 = .ok (.imul, 1) := by decide +kernel
theorem dX13_alike_16 : decode cX13_alike 16 = .ok (.iload_n 3, 1) := by decide +kernel
theorem dX13_alike_17 : decode cX13_alike 17 = .ok (.iadd, 1) := by decide +kernel
theorem dX13_alike_18 : decode cX13_alike 18 = .ok (.istore 4, 2) := by decide +kernel
theorem dX13_alike_20 : decode cX13_alike 20 = .ok (.aload_n 0, 1) := by decide +kernel
theorem dX13_alike_21 : decode cX13_alike 21 = .ok (.getfield 402, 3) := by decide +kernel
theorem dX13_alike_24 : decode cX13_alike 24 = .ok (.iload 4, 2) := by decide +kernel
theorem dX13_alike_26 : decode cX13_alike 26 = .ok (.iaload, 1) := by decide +kernel
theorem dX13_alike_27 : decode cX13_alike 27 = .ok (.aload_n 0, 1) := by decide +kernel
theorem dX13_alike_28 : decode cX13_alike 28 = .ok (.getfield 402, 3) := by decide +kernel
theorem dX13_alike_31 : decode cX13_alike 31 = .ok (.iload_n 2, 1) := by decide +kernel
theorem dX13_alike_32 : decode cX13_alike 32 = .ok (.iaload, 1) := by decide +kernel
theorem dX13_alike_33 : decode cX13_alike 33 = .ok (.if_icmp .ne 43, 3) := by decide +kernel
theorem dX13_alike_36 : decode cX13_alike 36 = .ok (.aload_n 0, 1) := by decide +kernel
theorem dX13_alike_37 : decode cX13_alike 37 = .ok (.getfield 350, 3) := by decide +kernel
theorem dX13_alike_40 : decode cX13_alike 40 = .ok (.iload 4, 2) := by decide +kernel
theorem dX13_alike_42 : decode cX13_alike 42 = .ok (.baload, 1) := by decide +kernel
theorem dX13_alike_43 : decode cX13_alike 43 = .ok (.ifCond .ne 33, 3) := by decide +kernel
theorem dX13_alike_46 : decode cX13_alike 46 = .ok (.aload_n 0, 1) := by decide +kernel
theorem dX13_alike_47 : decode cX13_alike 47 = .ok (.getfield 356, 3) := by decide +kernel
theorem dX13_alike_50 : decode cX13_alike 50 = .ok (.iload 4, 2) := by decide +kernel
theorem dX13_alike_52 : decode cX13_alike 52 = .ok (.laload, 1) := by decide +kernel
theorem dX13_alike_53 : decode cX13_alike 53 = .ok (.aload_n 0, 1) := by decide +kernel
theorem dX13_alike_54 : decode cX13_alike 54 = .ok (.getfield 356, 3) := by decide +kernel
theorem dX13_alike_57 : decode cX13_alike 57 = .ok (.iload_n 2, 1) := by decide +kernel
theorem dX13_alike_58 : decode cX13_alike 58 = .ok (.laload, 1) := by decide +kernel
theorem dX13_alike_59 : decode cX13_alike 59 = .ok (.lcmp, 1) := by decide +kernel
theorem dX13_alike_60 : decode cX13_alike 60 = .ok (.ifCond .ne 16, 3) := by decide +kernel
theorem dX13_alike_63 : decode cX13_alike 63 = .ok (.aload_n 0, 1) := by decide +kernel
theorem dX13_alike_64 : decode cX13_alike 64 = .ok (.iload_n 2, 1) := by decide +kernel
theorem dX13_alike_65 : decode cX13_alike 65 = .ok (.iload 4, 2) := by decide +kernel
theorem dX13_alike_67 : decode cX13_alike 67 = .ok (.invokevirtual 618, 3) := by decide +kernel
theorem dX13_alike_70 : decode cX13_alike 70 = .ok (.ifCond .eq 6, 3) := by decide +kernel
theorem dX13_alike_73 : decode cX13_alike 73 = .ok (.iload 4, 2) := by decide +kernel
theorem dX13_alike_75 : decode cX13_alike 75 = .ok (.ireturn, 1) := by decide +kernel
theorem dX13_alike_76 : decode cX13_alike 76 = .ok (.iinc 3 1, 3) := by decide +kernel
theorem dX13_alike_79 : decode cX13_alike 79 = .ok (.goto (-77), 3) := by decide +kernel
theorem dX13_alike_82 : decode cX13_alike 82 = .ok (.bipush (-2), 2) := by decide +kernel
theorem dX13_alike_84 : decode cX13_alike 84 = .ok (.ireturn, 1) := by decide +kernel
theorem dX13_compareMethods_0 : decode cX13_compareMethods 0 = .ok (.iconst 0, 1) := by decide +kernel
theorem dX13_compareMethods_1 : decode cX13_compareMethods 1 = .ok (.istore_n 3, 1) := by decide +kernel
theorem dX13_compareMethods_2 : decode cX13_compareMethods 2 = .ok (.iload_n 3, 1) := by decide +kernel
theorem dX13_compareMethods_3 : decode cX13_compareMethods 3 = .ok (.aload_n 0, 1) := by decide +kernel
theorem dX13_compareMethods_4 : decode cX13_compareMethods 4 = .ok (.getfield 275, 3) := by decide +kernel
theorem dX13_compareMethods_7 : decode cX13_compareMethods 7 = .ok (.iload_n 1, 1) := by decide +kernel
theorem dX13_compareMethods_8 : decode cX13_compareMethods 8 = .ok (.iaload, 1) := by decide +kernel
theorem dX13_compareMethods_9 : decode cX13_compareMethods 9 = .ok (.if_icmp .ge 271, 3) := by decide +kernel
theorem dX13_compareMethods_12 : decode cX13_compareMethods 12 = .ok (.iload_n 1, 1) := by decide +kernel
theorem dX13_compareMethods_13 : decode cX13_compareMethods 13 = .ok (.bipush 34, 2) := by decide +kernel
theorem dX13_compareMethods_15 : decode cX13_compareMethods 15 = .ok (.imul, 1) := by decide +kernel
theorem dX13_compareMethods_16 : decode cX13_compareMethods 16 = .ok (.iload_n 3, 1) := by decide +kernel
theorem dX13_compareMethods_17 : decode cX13_compareMethods 17 = .ok (.iadd, 1) := by decide +kernel
theorem dX13_compareMethods_18 : decode cX13_compareMethods 18 = .ok (.istore 4, 2) := by decide +kernel
theorem dX13_compareMethods_20 : decode cX13_compareMethods 20 = .ok (.aload_n 0, 1) := by decide +kernel
theorem dX13_compareMethods_21 : decode cX13_compareMethods 21 = .ok (.getfield 402, 3) := by decide +kernel
theorem dX13_compareMethods_24 : decode cX13_compareMethods 24 = .ok (.iload 4, 2) := by decide +kernel
theorem dX13_compareMethods_26 : decode cX13_compareMethods 26 = .ok (.iaload, 1) := by decide +kernel
theorem dX13_compareMethods_27 : decode cX13_compareMethods 27 = .ok (.iconst 1, 1) := by decide +kernel
theorem dX13_compareMethods_28 : decode cX13_compareMethods 28 = .ok (.if_icmp .ne 246, 3) := by decide +kernel
theorem dX13_compareMethods_31 : decode cX13_compareMethods 31 = .ok (.aload_n 0, 1) := by decide +kernel
theorem dX13_compareMethods_32 : decode cX13_compareMethods 32 = .ok (.getfield 350, 3) := by decide +kernel
theorem dX13_compareMethods_35 : decode cX13_compareMethods 35 = .ok (.iload 4, 2) := by decide +kernel
theorem dX13_compareMethods_37 : decode cX13_compareMethods 37 = .ok (.baload, 1) := by decide +kernel
theorem dX13_compareMethods_38 : decode cX13_compareMethods 38 = .ok (.ifCond .eq 6, 3) := by decide +kernel
theorem dX13_compareMethods_41 : decode cX13_compareMethods 41 = .ok (.goto 233, 3) := by decide +kernel
theorem dX13_compareMethods_44 : decode cX13_compareMethods 44 = .ok (.aload_n 0, 1) := by decide +kernel
theorem dX13_compareMethods_45 : decode cX13_compareMethods 45 = .ok (.iload_n 2, 1) := by decide +kernel
theorem dX13_compareMethods_46 : decode cX13_compareMethods 46 = .ok (.iload 4, 2) := by decide +kernel
theorem dX13_compareMethods_48 : decode cX13_compareMethods 48 = .ok (.invokevirtual 1417, 3) := by decide +kernel
theorem dX13_compareMethods_51 : decode cX13_compareMethods 51 = .ok (.istore 5, 2) := by decide +kernel
theorem dX13_compareMethods_53 : decode cX13_compareMethods 53 = .ok (.iload 5, 2) := by decide +kernel
theorem dX13_compareMethods_55 : decode cX13_compareMethods 55 = .ok (.bipush (-2), 2) := by decide +kernel
theorem dX13_compareMethods_57 : decode cX13_compareMethods 57 = .ok (.if_icmp .ne 18, 3) := by decide +kernel
theorem dX13_compareMethods_60 : decode cX13_compareMethods 60 = .ok (.aload_n 0, 1) := by decide +kernel
theorem dX13_compareMethods_61 : decode cX13_compareMethods 61 = .ok (.bipush 30, 2) := by decide +kernel
theorem dX13_compareMethods_63 : decode cX13_compareMethods 63 = .ok (.iload_n 1, 1) := by decide +kernel
theorem dX13_compareMethods_64 : decode cX13_compareMethods 64 = .ok (.iload_n 2, 1) := by decide +kernel
theorem dX13_compareMethods_65 : decode cX13_compareMethods 65 = .ok (.iload 4, 2) := by decide +kernel
theorem dX13_compareMethods_67 : decode cX13_compareMethods 67 = .ok (.bipush (-2), 2) := by decide +kernel
theorem dX13_compareMethods_69 : decode cX13_compareMethods 69 = .ok (.invokevirtual 1388, 3) := by decide +kernel
theorem dX13_compareMethods_72 : decode cX13_compareMethods 72 = .ok (.goto 202, 3) := by decide +kernel
theorem dX13_compareMethods_75 : decode cX13_compareMethods 75 = .ok (.aload_n 0, 1) := by decide +kernel
theorem dX13_compareMethods_76 : decode cX13_compareMethods 76 = .ok (.getfield 359, 3) := by decide +kernel
theorem dX13_compareMethods_79 : decode cX13_compareMethods 79 = .ok (.iload 4, 2) := by decide +kernel
theorem dX13_compareMethods_81 : decode cX13_compareMethods 81 = .ok (.laload, 1) := by decide +kernel
theorem dX13_compareMethods_82 : decode cX13_compareMethods 82 = .ok (.aload_n 0, 1) := by decide +kernel
theorem dX13_compareMethods_83 : decode cX13_compareMethods 83 = .ok (.getfield 359, 3) := by decide +kernel
theorem dX13_compareMethods_86 : decode cX13_compareMethods 86 = .ok (.iload 5, 2) := by decide +kernel
theorem dX13_compareMethods_88 : decode cX13_compareMethods 88 = .ok (.laload, 1) := by decide +kernel
theorem dX13_compareMethods_89 : decode cX13_compareMethods 89 = .ok (.lcmp, 1) := by decide +kernel
theorem dX13_compareMethods_90 : decode cX13_compareMethods 90 = .ok (.ifCond .eq 15, 3) := by decide +kernel
theorem dX13_compareMethods_93 : decode cX13_compareMethods 93 = .ok (.aload_n 0, 1) := by decide +kernel
theorem dX13_compareMethods_94 : decode cX13_compareMethods 94 = .ok (.bipush 31, 2) := by decide +kernel
theorem dX13_compareMethods_96 : decode cX13_compareMethods 96 = .ok (.iload_n 1, 1) := by decide +kernel
theorem dX13_compareMethods_97 : decode cX13_compareMethods 97 = .ok (.iload_n 2, 1) := by decide +kernel
theorem dX13_compareMethods_98 : decode cX13_compareMethods 98 = .ok (.iload 4, 2) := by decide +kernel
theorem dX13_compareMethods_100 : decode cX13_compareMethods 100 = .ok (.iload 5, 2) := by decide +kernel
theorem dX13_compareMethods_102 : decode cX13_compareMethods 102 = .ok (.invokevirtual 1388, 3) := by decide +kernel
theorem dX13_compareMethods_105 : decode cX13_compareMethods 105 = .ok (.aload_n 0, 1) := by decide +kernel
theorem dX13_compareMethods_106 : decode cX13_compareMethods 106 = .ok (.getfield 341, 3) := by decide +kernel
theorem dX13_compareMethods_109 : decode cX13_compareMethods 109 = .ok (.iload 4, 2) := by decide +kernel
theorem dX13_compareMethods_111 : decode cX13_compareMethods 111 = .ok (.baload, 1) := by decide +kernel
theorem dX13_compareMethods_112 : decode cX13_compareMethods 112 = .ok (.aload_n 0, 1) := by decide +kernel
theorem dX13_compareMethods_113 : decode cX13_compareMethods 113 = .ok (.getfield 341, 3) := by decide +kernel
theorem dX13_compareMethods_116 : decode cX13_compareMethods 116 = .ok (.iload 5, 2) := by decide +kernel
theorem dX13_compareMethods_118 : decode cX13_compareMethods 118 = .ok (.baload, 1) := by decide +kernel
theorem dX13_compareMethods_119 : decode cX13_compareMethods 119 = .ok (.if_icmp .eq 15, 3) := by decide +kernel
theorem dX13_compareMethods_122 : decode cX13_compareMethods 122 = .ok (.aload_n 0, 1) := by decide +kernel
theorem dX13_compareMethods_123 : decode cX13_compareMethods 123 = .ok (.bipush 32, 2) := by decide +kernel
theorem dX13_compareMethods_125 : decode cX13_compareMethods 125 = .ok (.iload_n 1, 1) := by decide +kernel
theorem dX13_compareMethods_126 : decode cX13_compareMethods 126 = .ok (.iload_n 2, 1) := by decide +kernel
theorem dX13_compareMethods_127 : decode cX13_compareMethods 127 = .ok (.iload 4, 2) := by decide +kernel
theorem dX13_compareMethods_129 : decode cX13_compareMethods 129 = .ok (.iload 5, 2) := by decide +kernel
theorem dX13_compareMethods_131 : decode cX13_compareMethods 131 = .ok (.invokevirtual 1388, 3) := by decide +kernel
theorem dX13_compareMethods_134 : decode cX13_compareMethods 134 = .ok (.aload_n 0, 1) := by decide +kernel
theorem dX13_compareMethods_135 : decode cX13_compareMethods 135 = .ok (.getfield 359, 3) := by decide +kernel
theorem dX13_compareMethods_138 : decode cX13_compareMethods 138 = .ok (.iload 4, 2) := by decide +kernel
theorem dX13_compareMethods_140 : decode cX13_compareMethods 140 = .ok (.laload, 1) := by decide +kernel
theorem dX13_compareMethods_141 : decode cX13_compareMethods 141 = .ok (.aload_n 0, 1) := by decide +kernel
theorem dX13_compareMethods_142 : decode cX13_compareMethods 142 = .ok (.getfield 359, 3) := by decide +kernel
theorem dX13_compareMethods_145 : decode cX13_compareMethods 145 = .ok (.iload 5, 2) := by decide +kernel
theorem dX13_compareMethods_147 : decode cX13_compareMethods 147 = .ok (.laload, 1) := by decide +kernel
theorem dX13_compareMethods_148 : decode cX13_compareMethods 148 = .ok (.lcmp, 1) := by decide +kernel
theorem dX13_compareMethods_149 : decode cX13_compareMethods 149 = .ok (.ifCond .ne 125, 3) := by decide +kernel
theorem dX13_compareMethods_152 : decode cX13_compareMethods 152 = .ok (.aload_n 0, 1) := by decide +kernel
theorem dX13_compareMethods_153 : decode cX13_compareMethods 153 = .ok (.getfield 341, 3) := by decide +kernel
theorem dX13_compareMethods_156 : decode cX13_compareMethods 156 = .ok (.iload 4, 2) := by decide +kernel
theorem dX13_compareMethods_158 : decode cX13_compareMethods 158 = .ok (.baload, 1) := by decide +kernel
theorem dX13_compareMethods_159 : decode cX13_compareMethods 159 = .ok (.aload_n 0, 1) := by decide +kernel
theorem dX13_compareMethods_160 : decode cX13_compareMethods 160 = .ok (.getfield 341, 3) := by decide +kernel
theorem dX13_compareMethods_163 : decode cX13_compareMethods 163 = .ok (.iload 5, 2) := by decide +kernel
theorem dX13_compareMethods_165 : decode cX13_compareMethods 165 = .ok (.baload, 1) := by decide +kernel
theorem dX13_compareMethods_166 : decode cX13_compareMethods 166 = .ok (.if_icmp .ne 108, 3) := by decide +kernel
theorem dX13_compareMethods_169 : decode cX13_compareMethods 169 = .ok (.aload_n 0, 1) := by decide +kernel
theorem dX13_compareMethods_170 : decode cX13_compareMethods 170 = .ok (.bipush 33, 2) := by decide +kernel
theorem dX13_compareMethods_172 : decode cX13_compareMethods 172 = .ok (.aload_n 0, 1) := by decide +kernel
theorem dX13_compareMethods_173 : decode cX13_compareMethods 173 = .ok (.getfield 344, 3) := by decide +kernel
theorem dX13_compareMethods_176 : decode cX13_compareMethods 176 = .ok (.iload 4, 2) := by decide +kernel
theorem dX13_compareMethods_178 : decode cX13_compareMethods 178 = .ok (.baload, 1) := by decide +kernel
theorem dX13_compareMethods_179 : decode cX13_compareMethods 179 = .ok (.aload_n 0, 1) := by decide +kernel
theorem dX13_compareMethods_180 : decode cX13_compareMethods 180 = .ok (.getfield 344, 3) := by decide +kernel
theorem dX13_compareMethods_183 : decode cX13_compareMethods 183 = .ok (.iload 5, 2) := by decide +kernel
theorem dX13_compareMethods_185 : decode cX13_compareMethods 185 = .ok (.baload, 1) := by decide +kernel
theorem dX13_compareMethods_186 : decode cX13_compareMethods 186 = .ok (.iload 4, 2) := by decide +kernel
theorem dX13_compareMethods_188 : decode cX13_compareMethods 188 = .ok (.iload 5, 2) := by decide +kernel
theorem dX13_compareMethods_190 : decode cX13_compareMethods 190 = .ok (.invokevirtual 1411, 3) := by decide +kernel
theorem dX13_compareMethods_193 : decode cX13_compareMethods 193 = .ok (.aload_n 0, 1) := by decide +kernel
theorem dX13_compareMethods_194 : decode cX13_compareMethods 194 = .ok (.bipush 35, 2) := by decide +kernel
theorem dX13_compareMethods_196 : decode cX13_compareMethods 196 = .ok (.aload_n 0, 1) := by decide +kernel
theorem dX13_compareMethods_197 : decode cX13_compareMethods 197 = .ok (.getfield 436, 3) := by decide +kernel
theorem dX13_compareMethods_200 : decode cX13_compareMethods 200 = .ok (.iload 4, 2) := by decide +kernel
theorem dX13_compareMethods_202 : decode cX13_compareMethods 202 = .ok (.baload, 1) := by decide +kernel
theorem dX13_compareMethods_203 : decode cX13_compareMethods 203 = .ok (.aload_n 0, 1) := by decide +kernel
theorem dX13_compareMethods_204 : decode cX13_compareMethods 204 = .ok (.getfield 436, 3) := by decide +kernel
theorem dX13_compareMethods_207 : decode cX13_compareMethods 207 = .ok (.iload 5, 2) := by decide +kernel
theorem dX13_compareMethods_209 : decode cX13_compareMethods 209 = .ok (.baload, 1) := by decide +kernel
theorem dX13_compareMethods_210 : decode cX13_compareMethods 210 = .ok (.iload 4, 2) := by decide +kernel
theorem dX13_compareMethods_212 : decode cX13_compareMethods 212 = .ok (.iload 5, 2) := by decide +kernel
theorem dX13_compareMethods_214 : decode cX13_compareMethods 214 = .ok (.invokevirtual 1411, 3) := by decide +kernel
theorem dX13_compareMethods_217 : decode cX13_compareMethods 217 = .ok (.aload_n 0, 1) := by decide +kernel
theorem dX13_compareMethods_218 : decode cX13_compareMethods 218 = .ok (.bipush 37, 2) := by decide +kernel
theorem dX13_compareMethods_220 : decode cX13_compareMethods 220 = .ok (.iload 4, 2) := by decide +kernel
theorem dX13_compareMethods_222 : decode cX13_compareMethods 222 = .ok (.iload 5, 2) := by decide +kernel
theorem dX13_compareMethods_224 : decode cX13_compareMethods 224 = .ok (.invokevirtual 1414, 3) := by decide +kernel
theorem dX13_compareMethods_227 : decode cX13_compareMethods 227 = .ok (.aload_n 0, 1) := by decide +kernel
theorem dX13_compareMethods_228 : decode cX13_compareMethods 228 = .ok (.getfield 368, 3) := by decide +kernel
theorem dX13_compareMethods_231 : decode cX13_compareMethods 231 = .ok (.iload 4, 2) := by decide +kernel
theorem dX13_compareMethods_233 : decode cX13_compareMethods 233 = .ok (.iaload, 1) := by decide +kernel
theorem dX13_compareMethods_234 : decode cX13_compareMethods 234 = .ok (.bipush (-2), 2) := by decide +kernel
theorem dX13_compareMethods_236 : decode cX13_compareMethods 236 = .ok (.if_icmp .eq 38, 3) := by decide +kernel
theorem dX13_compareMethods_239 : decode cX13_compareMethods 239 = .ok (.aload_n 0, 1) := by decide +kernel
theorem dX13_compareMethods_240 : decode cX13_compareMethods 240 = .ok (.getfield 368, 3) := by decide +kernel
theorem dX13_compareMethods_243 : decode cX13_compareMethods 243 = .ok (.iload 5, 2) := by decide +kernel
theorem dX13_compareMethods_245 : decode cX13_compareMethods 245 = .ok (.iaload, 1) := by decide +kernel
theorem dX13_compareMethods_246 : decode cX13_compareMethods 246 = .ok (.bipush (-2), 2) := by decide +kernel
theorem dX13_compareMethods_248 : decode cX13_compareMethods 248 = .ok (.if_icmp .eq 26, 3) := by decide +kernel
theorem dX13_compareMethods_251 : decode cX13_compareMethods 251 = .ok (.aload_n 0, 1) := by decide +kernel
theorem dX13_compareMethods_252 : decode cX13_compareMethods 252 = .ok (.iload 4, 2) := by decide +kernel
theorem dX13_compareMethods_254 : decode cX13_compareMethods 254 = .ok (.iload 5, 2) := by decide +kernel
theorem dX13_compareMethods_256 : decode cX13_compareMethods 256 = .ok (.invokevirtual 1420, 3) := by decide +kernel
theorem dX13_compareMethods_259 : decode cX13_compareMethods 259 = .ok (.ifCond .ne 15, 3) := by decide +kernel
theorem dX13_compareMethods_262 : decode cX13_compareMethods 262 = .ok (.aload_n 0, 1) := by decide +kernel
theorem dX13_compareMethods_263 : decode cX13_compareMethods 263 = .ok (.bipush 39, 2) := by decide +kernel
theorem dX13_compareMethods_265 : decode cX13_compareMethods 265 = .ok (.iload_n 1, 1) := by decide +kernel
theorem dX13_compareMethods_266 : decode cX13_compareMethods 266 = .ok (.iload_n 2, 1) := by decide +kernel
theorem dX13_compareMethods_267 : decode cX13_compareMethods 267 = .ok (.iload 4, 2) := by decide +kernel
theorem dX13_compareMethods_269 : decode cX13_compareMethods 269 = .ok (.iload 5, 2) := by decide +kernel
theorem dX13_compareMethods_271 : decode cX13_compareMethods 271 = .ok (.invokevirtual 1388, 3) := by decide +kernel
theorem dX13_compareMethods_274 : decode cX13_compareMethods 274 = .ok (.iinc 3 1, 3) := by decide +kernel
theorem dX13_compareMethods_277 : decode cX13_compareMethods 277 = .ok (.goto (-275), 3) := by decide +kernel
theorem dX13_compareMethods_280 : decode cX13_compareMethods 280 = .ok (.iconst 0, 1) := by decide +kernel
theorem dX13_compareMethods_281 : decode cX13_compareMethods 281 = .ok (.istore_n 3, 1) := by decide +kernel
theorem dX13_compareMethods_282 : decode cX13_compareMethods 282 = .ok (.iload_n 3, 1) := by decide +kernel
theorem dX13_compareMethods_283 : decode cX13_compareMethods 283 = .ok (.aload_n 0, 1) := by decide +kernel
theorem dX13_compareMethods_284 : decode cX13_compareMethods 284 = .ok (.getfield 275, 3) := by decide +kernel
theorem dX13_compareMethods_287 : decode cX13_compareMethods 287 = .ok (.iload_n 2, 1) := by decide +kernel
theorem dX13_compareMethods_288 : decode cX13_compareMethods 288 = .ok (.iaload, 1) := by decide +kernel
theorem dX13_compareMethods_289 : decode cX13_compareMethods 289 = .ok (.if_icmp .ge 77, 3) := by decide +kernel
theorem dX13_compareMethods_292 : decode cX13_compareMethods 292 = .ok (.iload_n 2, 1) := by decide +kernel
theorem dX13_compareMethods_293 : decode cX13_compareMethods 293 = .ok (.bipush 34, 2) := by decide +kernel
theorem dX13_compareMethods_295 : decode cX13_compareMethods 295 = .ok (.imul, 1) := by decide +kernel
theorem dX13_compareMethods_296 : decode cX13_compareMethods 296 = .ok (.iload_n 3, 1) := by decide +kernel
theorem dX13_compareMethods_297 : decode cX13_compareMethods 297 = .ok (.iadd, 1) := by decide +kernel
theorem dX13_compareMethods_298 : decode cX13_compareMethods 298 = .ok (.istore 4, 2) := by decide +kernel
theorem dX13_compareMethods_300 : decode cX13_compareMethods 300 = .ok (.aload_n 0, 1) := by decide +kernel
theorem dX13_compareMethods_301 : decode cX13_compareMethods 301 = .ok (.getfield 402, 3) := by decide +kernel
theorem dX13_compareMethods_304 : decode cX13_compareMethods 304 = .ok (.iload 4, 2) := by decide +kernel
theorem dX13_compareMethods_306 : decode cX13_compareMethods 306 = .ok (.iaload, 1) := by decide +kernel
theorem dX13_compareMethods_307 : decode cX13_compareMethods 307 = .ok (.iconst 1, 1) := by decide +kernel
theorem dX13_compareMethods_308 : decode cX13_compareMethods 308 = .ok (.if_icmp .ne 52, 3) := by decide +kernel
theorem dX13_compareMethods_311 : decode cX13_compareMethods 311 = .ok (.aload_n 0, 1) := by decide +kernel
theorem dX13_compareMethods_312 : decode cX13_compareMethods 312 = .ok (.getfield 350, 3) := by decide +kernel
theorem dX13_compareMethods_315 : decode cX13_compareMethods 315 = .ok (.iload 4, 2) := by decide +kernel
theorem dX13_compareMethods_317 : decode cX13_compareMethods 317 = .ok (.baload, 1) := by decide +kernel
theorem dX13_compareMethods_318 : decode cX13_compareMethods 318 = .ok (.ifCond .ne 42, 3) := by decide +kernel
theorem dX13_compareMethods_321 : decode cX13_compareMethods 321 = .ok (.aload_n 0, 1) := by decide +kernel
theorem dX13_compareMethods_322 : decode cX13_compareMethods 322 = .ok (.iload_n 1, 1) := by decide +kernel
theorem dX13_compareMethods_323 : decode cX13_compareMethods 323 = .ok (.iload 4, 2) := by decide +kernel
theorem dX13_compareMethods_325 : decode cX13_compareMethods 325 = .ok (.invokevirtual 1417, 3) := by decide +kernel
theorem dX13_compareMethods_328 : decode cX13_compareMethods 328 = .ok (.bipush (-2), 2) := by decide +kernel
theorem dX13_compareMethods_330 : decode cX13_compareMethods 330 = .ok (.if_icmp .ne 30, 3) := by decide +kernel
theorem dX13_compareMethods_333 : decode cX13_compareMethods 333 = .ok (.aload_n 0, 1) := by decide +kernel
theorem dX13_compareMethods_334 : decode cX13_compareMethods 334 = .ok (.aload_n 0, 1) := by decide +kernel
theorem dX13_compareMethods_335 : decode cX13_compareMethods 335 = .ok (.getfield 436, 3) := by decide +kernel
theorem dX13_compareMethods_338 : decode cX13_compareMethods 338 = .ok (.iload 4, 2) := by decide +kernel
theorem dX13_compareMethods_340 : decode cX13_compareMethods 340 = .ok (.baload, 1) := by decide +kernel
theorem dX13_compareMethods_341 : decode cX13_compareMethods 341 = .ok (.ifCond .eq 8, 3) := by decide +kernel
theorem dX13_compareMethods_344 : decode cX13_compareMethods 344 = .ok (.bipush 41, 2) := by decide +kernel
theorem dX13_compareMethods_346 : decode cX13_compareMethods 346 = .ok (.goto 5, 3) := by decide +kernel
theorem dX13_compareMethods_349 : decode cX13_compareMethods 349 = .ok (.bipush 40, 2) := by decide +kernel
theorem dX13_compareMethods_351 : decode cX13_compareMethods 351 = .ok (.iload_n 1, 1) := by decide +kernel
theorem dX13_compareMethods_352 : decode cX13_compareMethods 352 = .ok (.iload_n 2, 1) := by decide +kernel
theorem dX13_compareMethods_353 : decode cX13_compareMethods 353 = .ok (.bipush (-2), 2) := by decide +kernel
theorem dX13_compareMethods_355 : decode cX13_compareMethods 355 = .ok (.iload 4, 2) := by decide +kernel
theorem dX13_compareMethods_357 : decode cX13_compareMethods 357 = .ok (.invokevirtual 1388, 3) := by decide +kernel
theorem dX13_compareMethods_360 : decode cX13_compareMethods 360 = .ok (.iinc 3 1, 3) := by decide +kernel
theorem dX13_compareMethods_363 : decode cX13_compareMethods 363 = .ok (.goto (-81), 3) := by decide +kernel
theorem dX13_compareMethods_366 : decode cX13_compareMethods 366 = .ok (.return_, 1) := by decide +kernel
theorem dX13_compareMakers_0 : decode cX13_compareMakers 0 = .ok (.iconst 0, 1) := by decide +kernel
theorem dX13_compareMakers_1 : decode cX13_compareMakers 1 = .ok (.istore_n 3, 1) := by decide +kernel
theorem dX13_compareMakers_2 : decode cX13_compareMakers 2 = .ok (.iload_n 3, 1) := by decide +kernel
theorem dX13_compareMakers_3 : decode cX13_compareMakers 3 = .ok (.aload_n 0, 1) := by decide +kernel
theorem dX13_compareMakers_4 : decode cX13_compareMakers 4 = .ok (.getfield 275, 3) := by decide +kernel
theorem dX13_compareMakers_7 : decode cX13_compareMakers 7 = .ok (.iload_n 1, 1) := by decide +kernel
theorem dX13_compareMakers_8 : decode cX13_compareMakers 8 = .ok (.iaload, 1) := by decide +kernel
theorem dX13_compareMakers_9 : decode cX13_compareMakers 9 = .ok (.if_icmp .ge 115, 3) := by decide +kernel
theorem dX13_compareMakers_12 : decode cX13_compareMakers 12 = .ok (.iload_n 1, 1) := by decide +kernel
theorem dX13_compareMakers_13 : decode cX13_compareMakers 13 = .ok (.bipush 34, 2) := by decide +kernel
theorem dX13_compareMakers_15 : decode cX13_compareMakers 15 = .ok (.imul, 1) := by decide +kernel
theorem dX13_compareMakers_16 : decode cX13_compareMakers 16 = .ok (.iload_n 3, 1) := by decide +kernel
theorem dX13_compareMakers_17 : decode cX13_compareMakers 17 = .ok (.iadd, 1) := by decide +kernel
theorem dX13_compareMakers_18 : decode cX13_compareMakers 18 = .ok (.istore 4, 2) := by decide +kernel
theorem dX13_compareMakers_20 : decode cX13_compareMakers 20 = .ok (.aload_n 0, 1) := by decide +kernel
theorem dX13_compareMakers_21 : decode cX13_compareMakers 21 = .ok (.getfield 402, 3) := by decide +kernel
theorem dX13_compareMakers_24 : decode cX13_compareMakers 24 = .ok (.iload 4, 2) := by decide +kernel
theorem dX13_compareMakers_26 : decode cX13_compareMakers 26 = .ok (.iaload, 1) := by decide +kernel
theorem dX13_compareMakers_27 : decode cX13_compareMakers 27 = .ok (.iconst 2, 1) := by decide +kernel
theorem dX13_compareMakers_28 : decode cX13_compareMakers 28 = .ok (.if_icmp .ne 13, 3) := by decide +kernel
theorem dX13_compareMakers_31 : decode cX13_compareMakers 31 = .ok (.aload_n 0, 1) := by decide +kernel
theorem dX13_compareMakers_32 : decode cX13_compareMakers 32 = .ok (.iload_n 2, 1) := by decide +kernel
theorem dX13_compareMakers_33 : decode cX13_compareMakers 33 = .ok (.iload 4, 2) := by decide +kernel
theorem dX13_compareMakers_35 : decode cX13_compareMakers 35 = .ok (.invokevirtual 1417, 3) := by decide +kernel
theorem dX13_compareMakers_38 : decode cX13_compareMakers 38 = .ok (.goto 5, 3) := by decide +kernel
theorem dX13_compareMakers_41 : decode cX13_compareMakers 41 = .ok (.bipush (-2), 2) := by decide +kernel
theorem dX13_compareMakers_43 : decode cX13_compareMakers 43 = .ok (.istore 5, 2) := by decide +kernel
theorem dX13_compareMakers_45 : decode cX13_compareMakers 45 = .ok (.aload_n 0, 1) := by decide +kernel
theorem dX13_compareMakers_46 : decode cX13_compareMakers 46 = .ok (.getfield 402, 3) := by decide +kernel
theorem dX13_compareMakers_49 : decode cX13_compareMakers 49 = .ok (.iload 4, 2) := by decide +kernel
theorem dX13_compareMakers_51 : decode cX13_compareMakers 51 = .ok (.iaload, 1) := by decide +kernel
theorem dX13_compareMakers_52 : decode cX13_compareMakers 52 = .ok (.iconst 2, 1) := by decide +kernel
theorem dX13_compareMakers_53 : decode cX13_compareMakers 53 = .ok (.if_icmp .ne 25, 3) := by decide +kernel
theorem dX13_compareMakers_56 : decode cX13_compareMakers 56 = .ok (.iload 5, 2) := by decide +kernel
theorem dX13_compareMakers_58 : decode cX13_compareMakers 58 = .ok (.bipush (-2), 2) := by decide +kernel
theorem dX13_compareMakers_60 : decode cX13_compareMakers 60 = .ok (.if_icmp .ne 18, 3) := by decide +kernel
theorem dX13_compareMakers_63 : decode cX13_compareMakers 63 = .ok (.aload_n 0, 1) := by decide +kernel
theorem dX13_compareMakers_64 : decode cX13_compareMakers 64 = .ok (.bipush 50, 2) := by decide +kernel
theorem dX13_compareMakers_66 : decode cX13_compareMakers 66 = .ok (.iload_n 1, 1) := by decide +kernel
theorem dX13_compareMakers_67 : decode cX13_compareMakers 67 = .ok (.iload_n 2, 1) := by decide +kernel
theorem dX13_compareMakers_68 : decode cX13_compareMakers 68 = .ok (.iload 4, 2) := by decide +kernel
theorem dX13_compareMakers_70 : decode cX13_compareMakers 70 = .ok (.bipush (-2), 2) := by decide +kernel
theorem dX13_compareMakers_72 : decode cX13_compareMakers 72 = .ok (.invokevirtual 1388, 3) := by decide +kernel
theorem dX13_compareMakers_75 : decode cX13_compareMakers 75 = .ok (.goto 43, 3) := by decide +kernel
theorem dX13_compareMakers_78 : decode cX13_compareMakers 78 = .ok (.iload 5, 2) := by decide +kernel
theorem dX13_compareMakers_80 : decode cX13_compareMakers 80 = .ok (.bipush (-2), 2) := by decide +kernel
theorem dX13_compareMakers_82 : decode cX13_compareMakers 82 = .ok (.if_icmp .eq 36, 3) := by decide +kernel
theorem dX13_compareMakers_85 : decode cX13_compareMakers 85 = .ok (.aload_n 0, 1) := by decide +kernel
theorem dX13_compareMakers_86 : decode cX13_compareMakers 86 = .ok (.bipush 51, 2) := by decide +kernel
theorem dX13_compareMakers_88 : decode cX13_compareMakers 88 = .ok (.iload 4, 2) := by decide +kernel
theorem dX13_compareMakers_90 : decode cX13_compareMakers 90 = .ok (.iload 5, 2) := by decide +kernel
theorem dX13_compareMakers_92 : decode cX13_compareMakers 92 = .ok (.invokevirtual 1414, 3) := by decide +kernel
theorem dX13_compareMakers_95 : decode cX13_compareMakers 95 = .ok (.aload_n 0, 1) := by decide +kernel
theorem dX13_compareMakers_96 : decode cX13_compareMakers 96 = .ok (.iload 4, 2) := by decide +kernel
theorem dX13_compareMakers_98 : decode cX13_compareMakers 98 = .ok (.iload 5, 2) := by decide +kernel
theorem dX13_compareMakers_100 : decode cX13_compareMakers 100 = .ok (.invokevirtual 1420, 3) := by decide +kernel
theorem dX13_compareMakers_103 : decode cX13_compareMakers 103 = .ok (.ifCond .ne 15, 3) := by decide +kernel
theorem dX13_compareMakers_106 : decode cX13_compareMakers 106 = .ok (.aload_n 0, 1) := by decide +kernel
theorem dX13_compareMakers_107 : decode cX13_compareMakers 107 = .ok (.bipush 53, 2) := by decide +kernel
theorem dX13_compareMakers_109 : decode cX13_compareMakers 109 = .ok (.iload_n 1, 1) := by decide +kernel
theorem dX13_compareMakers_110 : decode cX13_compareMakers 110 = .ok (.iload_n 2, 1) := by decide +kernel
theorem dX13_compareMakers_111 : decode cX13_compareMakers 111 = .ok (.iload 4, 2) := by decide +kernel
theorem dX13_compareMakers_113 : decode cX13_compareMakers 113 = .ok (.iload 5, 2) := by decide +kernel
theorem dX13_compareMakers_115 : decode cX13_compareMakers 115 = .ok (.invokevirtual 1388, 3) := by decide +kernel
theorem dX13_compareMakers_118 : decode cX13_compareMakers 118 = .ok (.iinc 3 1, 3) := by decide +kernel
theorem dX13_compareMakers_121 : decode cX13_compareMakers 121 = .ok (.goto (-119), 3) := by decide +kernel
theorem dX13_compareMakers_124 : decode cX13_compareMakers 124 = .ok (.iconst 0, 1) := by decide +kernel
theorem dX13_compareMakers_125 : decode cX13_compareMakers 125 = .ok (.istore_n 3, 1) := by decide +kernel
theorem dX13_compareMakers_126 : decode cX13_compareMakers 126 = .ok (.iload_n 3, 1) := by decide +kernel
theorem dX13_compareMakers_127 : decode cX13_compareMakers 127 = .ok (.aload_n 0, 1) := by decide +kernel
theorem dX13_compareMakers_128 : decode cX13_compareMakers 128 = .ok (.getfield 275, 3) := by decide +kernel
theorem dX13_compareMakers_131 : decode cX13_compareMakers 131 = .ok (.iload_n 2, 1) := by decide +kernel
theorem dX13_compareMakers_132 : decode cX13_compareMakers 132 = .ok (.iaload, 1) := by decide +kernel
theorem dX13_compareMakers_133 : decode cX13_compareMakers 133 = .ok (.if_icmp .ge 52, 3) := by decide +kernel
theorem dX13_compareMakers_136 : decode cX13_compareMakers 136 = .ok (.iload_n 2, 1) := by decide +kernel
theorem dX13_compareMakers_137 : decode cX13_compareMakers 137 = .ok (.bipush 34, 2) := by decide +kernel
theorem dX13_compareMakers_139 : decode cX13_compareMakers 139 = .ok (.imul, 1) := by decide +kernel
theorem dX13_compareMakers_140 : decode cX13_compareMakers 140 = .ok (.iload_n 3, 1) := by decide +kernel
theorem dX13_compareMakers_141 : decode cX13_compareMakers 141 = .ok (.iadd, 1) := by decide +kernel
theorem dX13_compareMakers_142 : decode cX13_compareMakers 142 = .ok (.istore 4, 2) := by decide +kernel
theorem dX13_compareMakers_144 : decode cX13_compareMakers 144 = .ok (.aload_n 0, 1) := by decide +kernel
theorem dX13_compareMakers_145 : decode cX13_compareMakers 145 = .ok (.getfield 402, 3) := by decide +kernel
theorem dX13_compareMakers_148 : decode cX13_compareMakers 148 = .ok (.iload 4, 2) := by decide +kernel
theorem dX13_compareMakers_150 : decode cX13_compareMakers 150 = .ok (.iaload, 1) := by decide +kernel
theorem dX13_compareMakers_151 : decode cX13_compareMakers 151 = .ok (.iconst 2, 1) := by decide +kernel
theorem dX13_compareMakers_152 : decode cX13_compareMakers 152 = .ok (.if_icmp .ne 27, 3) := by decide +kernel
theorem dX13_compareMakers_155 : decode cX13_compareMakers 155 = .ok (.aload_n 0, 1) := by decide +kernel
theorem dX13_compareMakers_156 : decode cX13_compareMakers 156 = .ok (.iload_n 1, 1) := by decide +kernel
theorem dX13_compareMakers_157 : decode cX13_compareMakers 157 = .ok (.iload 4, 2) := by decide +kernel
theorem dX13_compareMakers_159 : decode cX13_compareMakers 159 = .ok (.invokevirtual 1417, 3) := by decide +kernel
theorem dX13_compareMakers_162 : decode cX13_compareMakers 162 = .ok (.bipush (-2), 2) := by decide +kernel
theorem dX13_compareMakers_164 : decode cX13_compareMakers 164 = .ok (.if_icmp .ne 15, 3) := by decide +kernel
theorem dX13_compareMakers_167 : decode cX13_compareMakers 167 = .ok (.aload_n 0, 1) := by decide +kernel
theorem dX13_compareMakers_168 : decode cX13_compareMakers 168 = .ok (.bipush 54, 2) := by decide +kernel
theorem dX13_compareMakers_170 : decode cX13_compareMakers 170 = .ok (.iload_n 1, 1) := by decide +kernel
theorem dX13_compareMakers_171 : decode cX13_compareMakers 171 = .ok (.iload_n 2, 1) := by decide +kernel
theorem dX13_compareMakers_172 : decode cX13_compareMakers 172 = .ok (.bipush (-2), 2) := by decide +kernel
theorem dX13_compareMakers_174 : decode cX13_compareMakers 174 = .ok (.iload 4, 2) := by decide +kernel
theorem dX13_compareMakers_176 : decode cX13_compareMakers 176 = .ok (.invokevirtual 1388, 3) := by decide +kernel
theorem dX13_compareMakers_179 : decode cX13_compareMakers 179 = .ok (.iinc 3 1, 3) := by decide +kernel
theorem dX13_compareMakers_182 : decode cX13_compareMakers 182 = .ok (.goto (-56), 3) := by decide +kernel
theorem dX13_compareMakers_185 : decode cX13_compareMakers 185 = .ok (.return_, 1) := by decide +kernel
theorem dX13_sameToken_0 : decode cX13_sameToken 0 = .ok (.aload_n 0, 1) := by decide +kernel
theorem dX13_sameToken_1 : decode cX13_sameToken 1 = .ok (.getfield 103, 3) := by decide +kernel
theorem dX13_sameToken_4 : decode cX13_sameToken 4 = .ok (.iload_n 1, 1) := by decide +kernel
theorem dX13_sameToken_5 : decode cX13_sameToken 5 = .ok (.iaload, 1) := by decide +kernel
theorem dX13_sameToken_6 : decode cX13_sameToken 6 = .ok (.aload_n 0, 1) := by decide +kernel
theorem dX13_sameToken_7 : decode cX13_sameToken 7 = .ok (.getfield 103, 3) := by decide +kernel
theorem dX13_sameToken_10 : decode cX13_sameToken 10 = .ok (.iload_n 2, 1) := by decide +kernel
theorem dX13_sameToken_11 : decode cX13_sameToken 11 = .ok (.iaload, 1) := by decide +kernel
theorem dX13_sameToken_12 : decode cX13_sameToken 12 = .ok (.if_icmp .ne 67, 3) := by decide +kernel
theorem dX13_sameToken_15 : decode cX13_sameToken 15 = .ok (.aload_n 0, 1) := by decide +kernel
theorem dX13_sameToken_16 : decode cX13_sameToken 16 = .ok (.getfield 97, 3) := by decide +kernel
theorem dX13_sameToken_19 : decode cX13_sameToken 19 = .ok (.iload_n 1, 1) := by decide +kernel
theorem dX13_sameToken_20 : decode cX13_sameToken 20 = .ok (.laload, 1) := by decide +kernel
theorem dX13_sameToken_21 : decode cX13_sameToken 21 = .ok (.aload_n 0, 1) := by decide +kernel
theorem dX13_sameToken_22 : decode cX13_sameToken 22 = .ok (.getfield 97, 3) := by decide +kernel
theorem dX13_sameToken_25 : decode cX13_sameToken 25 = .ok (.iload_n 2, 1) := by decide +kernel
theorem dX13_sameToken_26 : decode cX13_sameToken 26 = .ok (.laload, 1) := by decide +kernel
theorem dX13_sameToken_27 : decode cX13_sameToken 27 = .ok (.lcmp, 1) := by decide +kernel
theorem dX13_sameToken_28 : decode cX13_sameToken 28 = .ok (.ifCond .ne 51, 3) := by decide +kernel
theorem dX13_sameToken_31 : decode cX13_sameToken 31 = .ok (.aload_n 0, 1) := by decide +kernel
theorem dX13_sameToken_32 : decode cX13_sameToken 32 = .ok (.getfield 100, 3) := by decide +kernel
theorem dX13_sameToken_35 : decode cX13_sameToken 35 = .ok (.iload_n 1, 1) := by decide +kernel
theorem dX13_sameToken_36 : decode cX13_sameToken 36 = .ok (.iaload, 1) := by decide +kernel
theorem dX13_sameToken_37 : decode cX13_sameToken 37 = .ok (.aload_n 0, 1) := by decide +kernel
theorem dX13_sameToken_38 : decode cX13_sameToken 38 = .ok (.getfield 100, 3) := by decide +kernel
theorem dX13_sameToken_41 : decode cX13_sameToken 41 = .ok (.iload_n 2, 1) := by decide +kernel
theorem dX13_sameToken_42 : decode cX13_sameToken 42 = .ok (.iaload, 1) := by decide +kernel
theorem dX13_sameToken_43 : decode cX13_sameToken 43 = .ok (.if_icmp .ne 36, 3) := by decide +kernel
theorem dX13_sameToken_46 : decode cX13_sameToken 46 = .ok (.aload_n 0, 1) := by decide +kernel
theorem dX13_sameToken_47 : decode cX13_sameToken 47 = .ok (.getfield 110, 3) := by decide +kernel
theorem dX13_sameToken_50 : decode cX13_sameToken 50 = .ok (.iload_n 1, 1) := by decide +kernel
theorem dX13_sameToken_51 : decode cX13_sameToken 51 = .ok (.iaload, 1) := by decide +kernel
theorem dX13_sameToken_52 : decode cX13_sameToken 52 = .ok (.aload_n 0, 1) := by decide +kernel
theorem dX13_sameToken_53 : decode cX13_sameToken 53 = .ok (.getfield 94, 3) := by decide +kernel
theorem dX13_sameToken_56 : decode cX13_sameToken 56 = .ok (.iload_n 1, 1) := by decide +kernel
theorem dX13_sameToken_57 : decode cX13_sameToken 57 = .ok (.iaload, 1) := by decide +kernel
theorem dX13_sameToken_58 : decode cX13_sameToken 58 = .ok (.isub, 1) := by decide +kernel
theorem dX13_sameToken_59 : decode cX13_sameToken 59 = .ok (.aload_n 0, 1) := by decide +kernel
theorem dX13_sameToken_60 : decode cX13_sameToken 60 = .ok (.getfield 110, 3) := by decide +kernel
theorem dX13_sameToken_63 : decode cX13_sameToken 63 = .ok (.iload_n 2, 1) := by decide +kernel
theorem dX13_sameToken_64 : decode cX13_sameToken 64 = .ok (.iaload, 1) := by decide +kernel
theorem dX13_sameToken_65 : decode cX13_sameToken 65 = .ok (.aload_n 0, 1) := by decide +kernel
theorem dX13_sameToken_66 : decode cX13_sameToken 66 = .ok (.getfield 94, 3) := by decide +kernel
theorem dX13_sameToken_69 : decode cX13_sameToken 69 = .ok (.iload_n 2, 1) := by decide +kernel
theorem dX13_sameToken_70 : decode cX13_sameToken 70 = .ok (.iaload, 1) := by decide +kernel
theorem dX13_sameToken_71 : decode cX13_sameToken 71 = .ok (.isub, 1) := by decide +kernel
theorem dX13_sameToken_72 : decode cX13_sameToken 72 = .ok (.if_icmp .ne 7, 3) := by decide +kernel
theorem dX13_sameToken_75 : decode cX13_sameToken 75 = .ok (.iconst 1, 1) := by decide +kernel
theorem dX13_sameToken_76 : decode cX13_sameToken 76 = .ok (.goto 4, 3) := by decide +kernel
theorem dX13_sameToken_79 : decode cX13_sameToken 79 = .ok (.iconst 0, 1) := by decide +kernel
theorem dX13_sameToken_80 : decode cX13_sameToken 80 = .ok (.ireturn, 1) := by decide +kernel
theorem dX13_sameTokens_0 : decode cX13_sameTokens 0 = .ok (.aload_n 0, 1) := by decide +kernel
theorem dX13_sameTokens_1 : decode cX13_sameTokens 1 = .ok (.getfield 368, 3) := by decide +kernel
theorem dX13_sameTokens_4 : decode cX13_sameTokens 4 = .ok (.iload_n 1, 1) := by decide +kernel
theorem dX13_sameTokens_5 : decode cX13_sameTokens 5 = .ok (.iaload, 1) := by decide +kernel
theorem dX13_sameTokens_6 : decode cX13_sameTokens 6 = .ok (.bipush (-2), 2) := by decide +kernel
theorem dX13_sameTokens_8 : decode cX13_sameTokens 8 = .ok (.if_icmp .ne 7, 3) := by decide +kernel
