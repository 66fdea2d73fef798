theorem dX13_askField_33 : decode cX13_askField 33 = .ok (.getfield 608, 3) := by decide +kernel
theorem dX13_askField_36 : decode cX13_askField 36 = .ok (.if_icmp .ge 20, 3) := by decide +kernel
theorem dX13_askField_39 : decode cX13_askField 39 = .ok (.aload_n 0, 1) := by decide +kernel
theorem dX13_askField_40 : decode cX13_askField 40 = .ok (.aload_n 0, 1) := by decide +kernel
theorem dX13_askField_41 : decode cX13_askField 41 = .ok (.getfield 611, 3) := by decide +kernel
theorem dX13_askField_44 : decode cX13_askField 44 = .ok (.iload 6, 2) := by decide +kernel
theorem dX13_askField_46 : decode cX13_askField 46 = .ok (.iaload, 1) := by decide +kernel
theorem dX13_askField_47 : decode cX13_askField 47 = .ok (.invokevirtual 1145, 3) := by decide +kernel
theorem dX13_askField_50 : decode cX13_askField 50 = .ok (.iinc 6 1, 3) := by decide +kernel
theorem dX13_askField_53 : decode cX13_askField 53 = .ok (.goto (-23), 3) := by decide +kernel
theorem dX13_askField_56 : decode cX13_askField 56 = .ok (.aload_n 0, 1) := by decide +kernel
theorem dX13_askField_57 : decode cX13_askField 57 = .ok (.iload 5, 2) := by decide +kernel
theorem dX13_askField_59 : decode cX13_askField 59 = .ok (.putfield 1124, 3) := by decide +kernel
theorem dX13_askField_62 : decode cX13_askField 62 = .ok (.iload 5, 2) := by decide +kernel
theorem dX13_askField_64 : decode cX13_askField 64 = .ok (.bipush (-2), 2) := by decide +kernel
theorem dX13_askField_66 : decode cX13_askField 66 = .ok (.if_icmp .ne 5, 3) := by decide +kernel
theorem dX13_askField_69 : decode cX13_askField 69 = .ok (.iconst 4, 1) := by decide +kernel
theorem dX13_askField_70 : decode cX13_askField 70 = .ok (.ireturn, 1) := by decide +kernel
theorem dX13_askField_71 : decode cX13_askField 71 = .ok (.aload_n 0, 1) := by decide +kernel
theorem dX13_askField_72 : decode cX13_askField 72 = .ok (.iload 5, 2) := by decide +kernel
theorem dX13_askField_74 : decode cX13_askField 74 = .ok (.iload_n 2, 1) := by decide +kernel
theorem dX13_askField_75 : decode cX13_askField 75 = .ok (.iload_n 3, 1) := by decide +kernel
theorem dX13_askField_76 : decode cX13_askField 76 = .ok (.invokevirtual 739, 3) := by decide +kernel
theorem dX13_askField_79 : decode cX13_askField 79 = .ok (.ifCond .ne 5, 3) := by decide +kernel
theorem dX13_askField_82 : decode cX13_askField 82 = .ok (.iconst 2, 1) := by decide +kernel
theorem dX13_askField_83 : decode cX13_askField 83 = .ok (.ireturn, 1) := by decide +kernel
theorem dX13_askField_84 : decode cX13_askField 84 = .ok (.aload_n 0, 1) := by decide +kernel
theorem dX13_askField_85 : decode cX13_askField 85 = .ok (.getfield 341, 3) := by decide +kernel
theorem dX13_askField_88 : decode cX13_askField 88 = .ok (.iload 5, 2) := by decide +kernel
theorem dX13_askField_90 : decode cX13_askField 90 = .ok (.baload, 1) := by decide +kernel
theorem dX13_askField_91 : decode cX13_askField 91 = .ok (.iload 4, 2) := by decide +kernel
theorem dX13_askField_93 : decode cX13_askField 93 = .ok (.iconst 5, 1) := by decide +kernel
theorem dX13_askField_94 : decode cX13_askField 94 = .ok (.if_icmp .lt 7, 3) := by decide +kernel
theorem dX13_askField_97 : decode cX13_askField 97 = .ok (.iconst 1, 1) := by decide +kernel
theorem dX13_askField_98 : decode cX13_askField 98 = .ok (.goto 4, 3) := by decide +kernel
theorem dX13_askField_101 : decode cX13_askField 101 = .ok (.iconst 0, 1) := by decide +kernel
theorem dX13_askField_102 : decode cX13_askField 102 = .ok (.if_icmp .eq 5, 3) := by decide +kernel
theorem dX13_askField_105 : decode cX13_askField 105 = .ok (.iconst 3, 1) := by decide +kernel
theorem dX13_askField_106 : decode cX13_askField 106 = .ok (.ireturn, 1) := by decide +kernel
theorem dX13_askField_107 : decode cX13_askField 107 = .ok (.iload 4, 2) := by decide +kernel
theorem dX13_askField_109 : decode cX13_askField 109 = .ok (.iconst 4, 1) := by decide +kernel
theorem dX13_askField_110 : decode cX13_askField 110 = .ok (.if_icmp .eq 10, 3) := by decide +kernel
theorem dX13_askField_113 : decode cX13_askField 113 = .ok (.iload 4, 2) := by decide +kernel
theorem dX13_askField_115 : decode cX13_askField 115 = .ok (.bipush 6, 2) := by decide +kernel
theorem dX13_askField_117 : decode cX13_askField 117 = .ok (.if_icmp .ne 27, 3) := by decide +kernel
theorem dX13_askField_120 : decode cX13_askField 120 = .ok (.aload_n 0, 1) := by decide +kernel
theorem dX13_askField_121 : decode cX13_askField 121 = .ok (.getfield 344, 3) := by decide +kernel
theorem dX13_askField_124 : decode cX13_askField 124 = .ok (.iload 5, 2) := by decide +kernel
theorem dX13_askField_126 : decode cX13_askField 126 = .ok (.baload, 1) := by decide +kernel
theorem dX13_askField_127 : decode cX13_askField 127 = .ok (.ifCond .eq 17, 3) := by decide +kernel
theorem dX13_askField_130 : decode cX13_askField 130 = .ok (.aload_n 0, 1) := by decide +kernel
theorem dX13_askField_131 : decode cX13_askField 131 = .ok (.iload 5, 2) := by decide +kernel
theorem dX13_askField_133 : decode cX13_askField 133 = .ok (.invokevirtual 599, 3) := by decide +kernel
theorem dX13_askField_136 : decode cX13_askField 136 = .ok (.iload_n 3, 1) := by decide +kernel
theorem dX13_askField_137 : decode cX13_askField 137 = .ok (.if_icmp .eq 7, 3) := by decide +kernel
theorem dX13_askField_140 : decode cX13_askField 140 = .ok (.iconst 2, 1) := by decide +kernel
theorem dX13_askField_141 : decode cX13_askField 141 = .ok (.goto 4, 3) := by decide +kernel
theorem dX13_askField_144 : decode cX13_askField 144 = .ok (.iconst 0, 1) := by decide +kernel
theorem dX13_askField_145 : decode cX13_askField 145 = .ok (.ireturn, 1) := by decide +kernel
theorem dX13_methodOf_0 : decode cX13_methodOf 0 = .ok (.iload_n 1, 1) := by decide +kernel
theorem dX13_methodOf_1 : decode cX13_methodOf 1 = .ok (.istore_n 2, 1) := by decide +kernel
theorem dX13_methodOf_2 : decode cX13_methodOf 2 = .ok (.iload_n 2, 1) := by decide +kernel
theorem dX13_methodOf_3 : decode cX13_methodOf 3 = .ok (.bipush (-2), 2) := by decide +kernel
theorem dX13_methodOf_5 : decode cX13_methodOf 5 = .ok (.if_icmp .eq 34, 3) := by decide +kernel
theorem dX13_methodOf_8 : decode cX13_methodOf 8 = .ok (.aload_n 0, 1) := by decide +kernel
theorem dX13_methodOf_9 : decode cX13_methodOf 9 = .ok (.iload_n 2, 1) := by decide +kernel
theorem dX13_methodOf_10 : decode cX13_methodOf 10 = .ok (.invokevirtual 1145, 3) := by decide +kernel
theorem dX13_methodOf_13 : decode cX13_methodOf 13 = .ok (.aload_n 0, 1) := by decide +kernel
theorem dX13_methodOf_14 : decode cX13_methodOf 14 = .ok (.iload_n 2, 1) := by decide +kernel
theorem dX13_methodOf_15 : decode cX13_methodOf 15 = .ok (.sipush 7343, 3) := by decide +kernel
theorem dX13_methodOf_18 : decode cX13_methodOf 18 = .ok (.invokevirtual 627, 3) := by decide +kernel
theorem dX13_methodOf_21 : decode cX13_methodOf 21 = .ok (.istore_n 3, 1) := by decide +kernel
theorem dX13_methodOf_22 : decode cX13_methodOf 22 = .ok (.iload_n 3, 1) := by decide +kernel
theorem dX13_methodOf_23 : decode cX13_methodOf 23 = .ok (.bipush (-2), 2) := by decide +kernel
theorem dX13_methodOf_25 : decode cX13_methodOf 25 = .ok (.if_icmp .eq 5, 3) := by decide +kernel
theorem dX13_methodOf_28 : decode cX13_methodOf 28 = .ok (.iload_n 3, 1) := by decide +kernel
theorem dX13_methodOf_29 : decode cX13_methodOf 29 = .ok (.ireturn, 1) := by decide +kernel
theorem dX13_methodOf_30 : decode cX13_methodOf 30 = .ok (.aload_n 0, 1) := by decide +kernel
theorem dX13_methodOf_31 : decode cX13_methodOf 31 = .ok (.iload_n 2, 1) := by decide +kernel
theorem dX13_methodOf_32 : decode cX13_methodOf 32 = .ok (.invokevirtual 558, 3) := by decide +kernel
theorem dX13_methodOf_35 : decode cX13_methodOf 35 = .ok (.istore_n 2, 1) := by decide +kernel
theorem dX13_methodOf_36 : decode cX13_methodOf 36 = .ok (.goto (-34), 3) := by decide +kernel
theorem dX13_methodOf_39 : decode cX13_methodOf 39 = .ok (.aload_n 0, 1) := by decide +kernel
theorem dX13_methodOf_40 : decode cX13_methodOf 40 = .ok (.iload_n 1, 1) := by decide +kernel
theorem dX13_methodOf_41 : decode cX13_methodOf 41 = .ok (.aload_n 0, 1) := by decide +kernel
theorem dX13_methodOf_42 : decode cX13_methodOf 42 = .ok (.getfield 1148, 3) := by decide +kernel
theorem dX13_methodOf_45 : decode cX13_methodOf 45 = .ok (.invokevirtual 633, 3) := by decide +kernel
theorem dX13_methodOf_48 : decode cX13_methodOf 48 = .ok (.istore_n 3, 1) := by decide +kernel
theorem dX13_methodOf_49 : decode cX13_methodOf 49 = .ok (.bipush (-2), 2) := by decide +kernel
theorem dX13_methodOf_51 : decode cX13_methodOf 51 = .ok (.istore 4, 2) := by decide +kernel
theorem dX13_methodOf_53 : decode cX13_methodOf 53 = .ok (.iconst 0, 1) := by decide +kernel
theorem dX13_methodOf_54 : decode cX13_methodOf 54 = .ok (.istore 5, 2) := by decide +kernel
theorem dX13_methodOf_56 : decode cX13_methodOf 56 = .ok (.iload 5, 2) := by decide +kernel
theorem dX13_methodOf_58 : decode cX13_methodOf 58 = .ok (.iload_n 3, 1) := by decide +kernel
theorem dX13_methodOf_59 : decode cX13_methodOf 59 = .ok (.if_icmp .ge 68, 3) := by decide +kernel
theorem dX13_methodOf_62 : decode cX13_methodOf 62 = .ok (.aload_n 0, 1) := by decide +kernel
theorem dX13_methodOf_63 : decode cX13_methodOf 63 = .ok (.aload_n 0, 1) := by decide +kernel
theorem dX13_methodOf_64 : decode cX13_methodOf 64 = .ok (.getfield 1148, 3) := by decide +kernel
theorem dX13_methodOf_67 : decode cX13_methodOf 67 = .ok (.iload 5, 2) := by decide +kernel
theorem dX13_methodOf_69 : decode cX13_methodOf 69 = .ok (.iaload, 1) := by decide +kernel
theorem dX13_methodOf_70 : decode cX13_methodOf 70 = .ok (.invokevirtual 1145, 3) := by decide +kernel
theorem dX13_methodOf_73 : decode cX13_methodOf 73 = .ok (.aload_n 0, 1) := by decide +kernel
theorem dX13_methodOf_74 : decode cX13_methodOf 74 = .ok (.aload_n 0, 1) := by decide +kernel
theorem dX13_methodOf_75 : decode cX13_methodOf 75 = .ok (.getfield 1148, 3) := by decide +kernel
theorem dX13_methodOf_78 : decode cX13_methodOf 78 = .ok (.iload 5, 2) := by decide +kernel
theorem dX13_methodOf_80 : decode cX13_methodOf 80 = .ok (.iaload, 1) := by decide +kernel
theorem dX13_methodOf_81 : decode cX13_methodOf 81 = .ok (.sipush 7343, 3) := by decide +kernel
theorem dX13_methodOf_84 : decode cX13_methodOf 84 = .ok (.invokevirtual 627, 3) := by decide +kernel
theorem dX13_methodOf_87 : decode cX13_methodOf 87 = .ok (.istore 6, 2) := by decide +kernel
theorem dX13_methodOf_89 : decode cX13_methodOf 89 = .ok (.iload 4, 2) := by decide +kernel
theorem dX13_methodOf_91 : decode cX13_methodOf 91 = .ok (.bipush (-2), 2) := by decide +kernel
theorem dX13_methodOf_93 : decode cX13_methodOf 93 = .ok (.if_icmp .ne 24, 3) := by decide +kernel
theorem dX13_methodOf_96 : decode cX13_methodOf 96 = .ok (.iload 6, 2) := by decide +kernel
theorem dX13_methodOf_98 : decode cX13_methodOf 98 = .ok (.bipush (-2), 2) := by decide +kernel
theorem dX13_methodOf_100 : decode cX13_methodOf 100 = .ok (.if_icmp .eq 17, 3) := by decide +kernel
theorem dX13_methodOf_103 : decode cX13_methodOf 103 = .ok (.aload_n 0, 1) := by decide +kernel
theorem dX13_methodOf_104 : decode cX13_methodOf 104 = .ok (.iload 6, 2) := by decide +kernel
theorem dX13_methodOf_106 : decode cX13_methodOf 106 = .ok (.invokevirtual 624, 3) := by decide +kernel
theorem dX13_methodOf_109 : decode cX13_methodOf 109 = .ok (.ifCond .eq 8, 3) := by decide +kernel
theorem dX13_methodOf_112 : decode cX13_methodOf 112 = .ok (.iload 6, 2) := by decide +kernel
theorem dX13_methodOf_114 : decode cX13_methodOf 114 = .ok (.goto 5, 3) := by decide +kernel
theorem dX13_methodOf_117 : decode cX13_methodOf 117 = .ok (.iload 4, 2) := by decide +kernel
theorem dX13_methodOf_119 : decode cX13_methodOf 119 = .ok (.istore 4, 2) := by decide +kernel
theorem dX13_methodOf_121 : decode cX13_methodOf 121 = .ok (.iinc 5 1, 3) := by decide +kernel
theorem dX13_methodOf_124 : decode cX13_methodOf 124 = .ok (.goto (-68), 3) := by decide +kernel
theorem dX13_methodOf_127 : decode cX13_methodOf 127 = .ok (.aload_n 0, 1) := by decide +kernel
theorem dX13_methodOf_128 : decode cX13_methodOf 128 = .ok (.iload_n 1, 1) := by decide +kernel
theorem dX13_methodOf_129 : decode cX13_methodOf 129 = .ok (.sipush 7343, 3) := by decide +kernel
theorem dX13_methodOf_132 : decode cX13_methodOf 132 = .ok (.invokevirtual 646, 3) := by decide +kernel
theorem dX13_methodOf_135 : decode cX13_methodOf 135 = .ok (.iconst 1, 1) := by decide +kernel
theorem dX13_methodOf_136 : decode cX13_methodOf 136 = .ok (.if_icmp .ne 10, 3) := by decide +kernel
theorem dX13_methodOf_139 : decode cX13_methodOf 139 = .ok (.aload_n 0, 1) := by decide +kernel
theorem dX13_methodOf_140 : decode cX13_methodOf 140 = .ok (.getfield 640, 3) := by decide +kernel
theorem dX13_methodOf_143 : decode cX13_methodOf 143 = .ok (.goto 5, 3) := by decide +kernel
theorem dX13_methodOf_146 : decode cX13_methodOf 146 = .ok (.iload 4, 2) := by decide +kernel
theorem dX13_methodOf_148 : decode cX13_methodOf 148 = .ok (.ireturn, 1) := by decide +kernel
theorem dX13_askMethod_0 : decode cX13_askMethod 0 = .ok (.iload_n 1, 1) := by decide +kernel
theorem dX13_askMethod_1 : decode cX13_askMethod 1 = .ok (.bipush 8, 2) := by decide +kernel
theorem dX13_askMethod_3 : decode cX13_askMethod 3 = .ok (.if_icmp .eq 15, 3) := by decide +kernel
theorem dX13_askMethod_6 : decode cX13_askMethod 6 = .ok (.iload_n 1, 1) := by decide +kernel
theorem dX13_askMethod_7 : decode cX13_askMethod 7 = .ok (.bipush 10, 2) := by decide +kernel
theorem dX13_askMethod_9 : decode cX13_askMethod 9 = .ok (.if_icmp .eq 9, 3) := by decide +kernel
theorem dX13_askMethod_12 : decode cX13_askMethod 12 = .ok (.iload_n 1, 1) := by decide +kernel
theorem dX13_askMethod_13 : decode cX13_askMethod 13 = .ok (.bipush 12, 2) := by decide +kernel
theorem dX13_askMethod_15 : decode cX13_askMethod 15 = .ok (.if_icmp .ne 7, 3) := by decide +kernel
theorem dX13_askMethod_18 : decode cX13_askMethod 18 = .ok (.iconst 1, 1) := by decide +kernel
theorem dX13_askMethod_19 : decode cX13_askMethod 19 = .ok (.goto 4, 3) := by decide +kernel
theorem dX13_askMethod_22 : decode cX13_askMethod 22 = .ok (.iconst 0, 1) := by decide +kernel
theorem dX13_askMethod_23 : decode cX13_askMethod 23 = .ok (.istore 4, 2) := by decide +kernel
theorem dX13_askMethod_25 : decode cX13_askMethod 25 = .ok (.aload_n 0, 1) := by decide +kernel
theorem dX13_askMethod_26 : decode cX13_askMethod 26 = .ok (.iload_n 2, 1) := by decide +kernel
theorem dX13_askMethod_27 : decode cX13_askMethod 27 = .ok (.invokevirtual 548, 3) := by decide +kernel
theorem dX13_askMethod_30 : decode cX13_askMethod 30 = .ok (.iload 4, 2) := by decide +kernel
theorem dX13_askMethod_32 : decode cX13_askMethod 32 = .ok (.if_icmp .eq 5, 3) := by decide +kernel
theorem dX13_askMethod_35 : decode cX13_askMethod 35 = .ok (.iconst 3, 1) := by decide +kernel
theorem dX13_askMethod_36 : decode cX13_askMethod 36 = .ok (.ireturn, 1) := by decide +kernel
theorem dX13_askMethod_37 : decode cX13_askMethod 37 = .ok (.aload_n 0, 1) := by decide +kernel
theorem dX13_askMethod_38 : decode cX13_askMethod 38 = .ok (.iload_n 2, 1) := by decide +kernel
theorem dX13_askMethod_39 : decode cX13_askMethod 39 = .ok (.invokevirtual 1151, 3) := by decide +kernel
theorem dX13_askMethod_42 : decode cX13_askMethod 42 = .ok (.istore 5, 2) := by decide +kernel
theorem dX13_askMethod_44 : decode cX13_askMethod 44 = .ok (.iload_n 1, 1) := by decide +kernel
theorem dX13_askMethod_45 : decode cX13_askMethod 45 = .ok (.bipush 11, 2) := by decide +kernel
theorem dX13_askMethod_47 : decode cX13_askMethod 47 = .ok (.if_icmp .lt 7, 3) := by decide +kernel
theorem dX13_askMethod_50 : decode cX13_askMethod 50 = .ok (.iconst 1, 1) := by decide +kernel
theorem dX13_askMethod_51 : decode cX13_askMethod 51 = .ok (.goto 4, 3) := by decide +kernel
theorem dX13_askMethod_54 : decode cX13_askMethod 54 = .ok (.iconst 0, 1) := by decide +kernel
theorem dX13_askMethod_55 : decode cX13_askMethod 55 = .ok (.istore 6, 2) := by decide +kernel
theorem dX13_askMethod_57 : decode cX13_askMethod 57 = .ok (.aload_n 0, 1) := by decide +kernel
theorem dX13_askMethod_58 : decode cX13_askMethod 58 = .ok (.iload 6, 2) := by decide +kernel
theorem dX13_askMethod_60 : decode cX13_askMethod 60 = .ok (.ifCond .eq 8, 3) := by decide +kernel
theorem dX13_askMethod_63 : decode cX13_askMethod 63 = .ok (.bipush (-2), 2) := by decide +kernel
theorem dX13_askMethod_65 : decode cX13_askMethod 65 = .ok (.goto 5, 3) := by decide +kernel
theorem dX13_askMethod_68 : decode cX13_askMethod 68 = .ok (.iload 5, 2) := by decide +kernel
theorem dX13_askMethod_70 : decode cX13_askMethod 70 = .ok (.putfield 1124, 3) := by decide +kernel
theorem dX13_askMethod_73 : decode cX13_askMethod 73 = .ok (.iload 5, 2) := by decide +kernel
theorem dX13_askMethod_75 : decode cX13_askMethod 75 = .ok (.bipush (-2), 2) := by decide +kernel
theorem dX13_askMethod_77 : decode cX13_askMethod 77 = .ok (.if_icmp .ne 5, 3) := by decide +kernel
theorem dX13_askMethod_80 : decode cX13_askMethod 80 = .ok (.iconst 5, 1) := by decide +kernel
theorem dX13_askMethod_81 : decode cX13_askMethod 81 = .ok (.ireturn, 1) := by decide +kernel
theorem dX13_askMethod_82 : decode cX13_askMethod 82 = .ok (.aload_n 0, 1) := by decide +kernel
theorem dX13_askMethod_83 : decode cX13_askMethod 83 = .ok (.iload 5, 2) := by decide +kernel
theorem dX13_askMethod_85 : decode cX13_askMethod 85 = .ok (.iload_n 2, 1) := by decide +kernel
theorem dX13_askMethod_86 : decode cX13_askMethod 86 = .ok (.iload_n 3, 1) := by decide +kernel
theorem dX13_askMethod_87 : decode cX13_askMethod 87 = .ok (.invokevirtual 739, 3) := by decide +kernel
theorem dX13_askMethod_90 : decode cX13_askMethod 90 = .ok (.ifCond .ne 5, 3) := by decide +kernel
theorem dX13_askMethod_93 : decode cX13_askMethod 93 = .ok (.iconst 2, 1) := by decide +kernel
theorem dX13_askMethod_94 : decode cX13_askMethod 94 = .ok (.ireturn, 1) := by decide +kernel
theorem dX13_askMethod_95 : decode cX13_askMethod 95 = .ok (.aload_n 0, 1) := by decide +kernel
theorem dX13_askMethod_96 : decode cX13_askMethod 96 = .ok (.getfield 341, 3) := by decide +kernel
theorem dX13_askMethod_99 : decode cX13_askMethod 99 = .ok (.iload 5, 2) := by decide +kernel
theorem dX13_askMethod_101 : decode cX13_askMethod 101 = .ok (.baload, 1) := by decide +kernel
theorem dX13_askMethod_102 : decode cX13_askMethod 102 = .ok (.iload_n 1, 1) := by decide +kernel
theorem dX13_askMethod_103 : decode cX13_askMethod 103 = .ok (.bipush 9, 2) := by decide +kernel
theorem dX13_askMethod_105 : decode cX13_askMethod 105 = .ok (.if_icmp .eq 9, 3) := by decide +kernel
theorem dX13_askMethod_108 : decode cX13_askMethod 108 = .ok (.iload_n 1, 1) := by decide +kernel
theorem dX13_askMethod_109 : decode cX13_askMethod 109 = .ok (.bipush 10, 2) := by decide +kernel
theorem dX13_askMethod_111 : decode cX13_askMethod 111 = .ok (.if_icmp .ne 7, 3) := by decide +kernel
theorem dX13_askMethod_114 : decode cX13_askMethod 114 = .ok (.iconst 1, 1) := by decide +kernel
theorem dX13_askMethod_115 : decode cX13_askMethod 115 = .ok (.goto 4, 3) := by decide +kernel
theorem dX13_askMethod_118 : decode cX13_askMethod 118 = .ok (.iconst 0, 1) := by decide +kernel
theorem dX13_askMethod_119 : decode cX13_askMethod 119 = .ok (.if_icmp .eq 5, 3) := by decide +kernel
theorem dX13_askMethod_122 : decode cX13_askMethod 122 = .ok (.iconst 3, 1) := by decide +kernel
theorem dX13_askMethod_123 : decode cX13_askMethod 123 = .ok (.ireturn, 1) := by decide +kernel
theorem dX13_askMethod_124 : decode cX13_askMethod 124 = .ok (.iload 6, 2) := by decide +kernel
theorem dX13_askMethod_126 : decode cX13_askMethod 126 = .ok (.ifCond .ne 7, 3) := by decide +kernel
theorem dX13_askMethod_129 : decode cX13_askMethod 129 = .ok (.iconst 0, 1) := by decide +kernel
theorem dX13_askMethod_130 : decode cX13_askMethod 130 = .ok (.goto 26, 3) := by decide +kernel
theorem dX13_askMethod_133 : decode cX13_askMethod 133 = .ok (.iload_n 1, 1) := by decide +kernel
theorem dX13_askMethod_134 : decode cX13_askMethod 134 = .ok (.bipush 11, 2) := by decide +kernel
theorem dX13_askMethod_136 : decode cX13_askMethod 136 = .ok (.if_icmp .ne 15, 3) := by decide +kernel
theorem dX13_askMethod_139 : decode cX13_askMethod 139 = .ok (.aload_n 0, 1) := by decide +kernel
theorem dX13_askMethod_140 : decode cX13_askMethod 140 = .ok (.aload_n 0, 1) := by decide +kernel
theorem dX13_askMethod_141 : decode cX13_askMethod 141 = .ok (.iload_n 3, 1) := by decide +kernel
theorem dX13_askMethod_142 : decode cX13_askMethod 142 = .ok (.invokevirtual 558, 3) := by decide +kernel
theorem dX13_askMethod_145 : decode cX13_askMethod 145 = .ok (.invokevirtual 1154, 3) := by decide +kernel
theorem dX13_askMethod_148 : decode cX13_askMethod 148 = .ok (.goto 8, 3) := by decide +kernel
theorem dX13_askMethod_151 : decode cX13_askMethod 151 = .ok (.aload_n 0, 1) := by decide +kernel
theorem dX13_askMethod_152 : decode cX13_askMethod 152 = .ok (.iload_n 2, 1) := by decide +kernel
theorem dX13_askMethod_153 : decode cX13_askMethod 153 = .ok (.invokevirtual 1157, 3) := by decide +kernel
theorem dX13_askMethod_156 : decode cX13_askMethod 156 = .ok (.ireturn, 1) := by decide +kernel
theorem dX13_askSuper_0 : decode cX13_askSuper 0 = .ok (.iload_n 1, 1) := by decide +kernel
theorem dX13_askSuper_1 : decode cX13_askSuper 1 = .ok (.istore_n 2, 1) := by decide +kernel
theorem dX13_askSuper_2 : decode cX13_askSuper 2 = .ok (.bipush (-2), 2) := by decide +kernel
theorem dX13_askSuper_4 : decode cX13_askSuper 4 = .ok (.istore_n 3, 1) := by decide +kernel
theorem dX13_askSuper_5 : decode cX13_askSuper 5 = .ok (.iload_n 2, 1) := by decide +kernel
theorem dX13_askSuper_6 : decode cX13_askSuper 6 = .ok (.bipush (-2), 2) := by decide +kernel
theorem dX13_askSuper_8 : decode cX13_askSuper 8 = .ok (.if_icmp .eq 53, 3) := by decide +kernel
theorem dX13_askSuper_11 : decode cX13_askSuper 11 = .ok (.iload_n 3, 1) := by decide +kernel
theorem dX13_askSuper_12 : decode cX13_askSuper 12 = .ok (.bipush (-2), 2) := by decide +kernel
theorem dX13_askSuper_14 : decode cX13_askSuper 14 = .ok (.if_icmp .ne 47, 3) := by decide +kernel
theorem dX13_askSuper_17 : decode cX13_askSuper 17 = .ok (.aload_n 0, 1) := by decide +kernel
theorem dX13_askSuper_18 : decode cX13_askSuper 18 = .ok (.iload_n 2, 1) := by decide +kernel
theorem dX13_askSuper_19 : decode cX13_askSuper 19 = .ok (.sipush 7343, 3) := by decide +kernel
theorem dX13_askSuper_22 : decode cX13_askSuper 22 = .ok (.invokevirtual 627, 3) := by decide +kernel
theorem dX13_askSuper_25 : decode cX13_askSuper 25 = .ok (.istore 4, 2) := by decide +kernel
theorem dX13_askSuper_27 : decode cX13_askSuper 27 = .ok (.iload 4, 2) := by decide +kernel
theorem dX13_askSuper_29 : decode cX13_askSuper 29 = .ok (.bipush (-2), 2) := by decide +kernel
theorem dX13_askSuper_31 : decode cX13_askSuper 31 = .ok (.if_icmp .eq 18, 3) := by decide +kernel
theorem dX13_askSuper_34 : decode cX13_askSuper 34 = .ok (.aload_n 0, 1) := by decide +kernel
theorem dX13_askSuper_35 : decode cX13_askSuper 35 = .ok (.getfield 341, 3) := by decide +kernel
theorem dX13_askSuper_38 : decode cX13_askSuper 38 = .ok (.iload 4, 2) := by decide +kernel
theorem dX13_askSuper_40 : decode cX13_askSuper 40 = .ok (.baload, 1) := by decide +kernel
theorem dX13_askSuper_41 : decode cX13_askSuper 41 = .ok (.ifCond .ne 8, 3) := by decide +kernel
theorem dX13_askSuper_44 : decode cX13_askSuper 44 = .ok (.iload 4, 2) := by decide +kernel
theorem dX13_askSuper_46 : decode cX13_askSuper 46 = .ok (.goto 5, 3) := by decide +kernel
theorem dX13_askSuper_49 : decode cX13_askSuper 49 = .ok (.bipush (-2), 2) := by decide +kernel
theorem dX13_askSuper_51 : decode cX13_askSuper 51 = .ok (.istore_n 3, 1) := by decide +kernel
theorem dX13_askSuper_52 : decode cX13_askSuper 52 = .ok (.aload_n 0, 1) := by decide +kernel
theorem dX13_askSuper_53 : decode cX13_askSuper 53 = .ok (.iload_n 2, 1) := by decide +kernel
theorem dX13_askSuper_54 : decode cX13_askSuper 54 = .ok (.invokevirtual 558, 3) := by decide +kernel
theorem dX13_askSuper_57 : decode cX13_askSuper 57 = .ok (.istore_n 2, 1) := by decide +kernel
theorem dX13_askSuper_58 : decode cX13_askSuper 58 = .ok (.goto (-53), 3) := by decide +kernel
theorem dX13_askSuper_61 : decode cX13_askSuper 61 = .ok (.aload_n 0, 1) := by decide +kernel
theorem dX13_askSuper_62 : decode cX13_askSuper 62 = .ok (.iload_n 3, 1) := by decide +kernel
theorem dX13_askSuper_63 : decode cX13_askSuper 63 = .ok (.iload_n 1, 1) := by decide +kernel
theorem dX13_askSuper_64 : decode cX13_askSuper 64 = .ok (.invokevirtual 1160, 3) := by decide +kernel
theorem dX13_askSuper_67 : decode cX13_askSuper 67 = .ok (.ireturn, 1) := by decide +kernel
theorem dX13_askFaceSuper_0 : decode cX13_askFaceSuper 0 = .ok (.aload_n 0, 1) := by decide +kernel
theorem dX13_askFaceSuper_1 : decode cX13_askFaceSuper 1 = .ok (.iload_n 1, 1) := by decide +kernel
theorem dX13_askFaceSuper_2 : decode cX13_askFaceSuper 2 = .ok (.sipush 7343, 3) := by decide +kernel
theorem dX13_askFaceSuper_5 : decode cX13_askFaceSuper 5 = .ok (.invokevirtual 627, 3) := by decide +kernel
theorem dX13_askFaceSuper_8 : decode cX13_askFaceSuper 8 = .ok (.istore_n 2, 1) := by decide +kernel
theorem dX13_askFaceSuper_9 : decode cX13_askFaceSuper 9 = .ok (.aload_n 0, 1) := by decide +kernel
theorem dX13_askFaceSuper_10 : decode cX13_askFaceSuper 10 = .ok (.iload_n 2, 1) := by decide +kernel
theorem dX13_askFaceSuper_11 : decode cX13_askFaceSuper 11 = .ok (.bipush (-2), 2) := by decide +kernel
theorem dX13_askFaceSuper_13 : decode cX13_askFaceSuper 13 = .ok (.if_icmp .eq 16, 3) := by decide +kernel
theorem dX13_askFaceSuper_16 : decode cX13_askFaceSuper 16 = .ok (.aload_n 0, 1) := by decide +kernel
theorem dX13_askFaceSuper_17 : decode cX13_askFaceSuper 17 = .ok (.getfield 341, 3) := by decide +kernel
theorem dX13_askFaceSuper_20 : decode cX13_askFaceSuper 20 = .ok (.iload_n 2, 1) := by decide +kernel
theorem dX13_askFaceSuper_21 : decode cX13_askFaceSuper 21 = .ok (.baload, 1) := by decide +kernel
theorem dX13_askFaceSuper_22 : decode cX13_askFaceSuper 22 = .ok (.ifCond .ne 7, 3) := by decide +kernel
theorem dX13_askFaceSuper_25 : decode cX13_askFaceSuper 25 = .ok (.iload_n 2, 1) := by decide +kernel
theorem dX13_askFaceSuper_26 : decode cX13_askFaceSuper 26 = .ok (.goto 5, 3) := by decide +kernel
theorem dX13_askFaceSuper_29 : decode cX13_askFaceSuper 29 = .ok (.bipush (-2), 2) := by decide +kernel
theorem dX13_askFaceSuper_31 : decode cX13_askFaceSuper 31 = .ok (.iload_n 1, 1) := by decide +kernel
theorem dX13_askFaceSuper_32 : decode cX13_askFaceSuper 32 = .ok (.invokevirtual 1160, 3) := by decide +kernel
theorem dX13_askFaceSuper_35 : decode cX13_askFaceSuper 35 = .ok (.ireturn, 1) := by decide +kernel
theorem dX13_askCalled_0 : decode cX13_askCalled 0 = .ok (.iload_n 1, 1) := by decide +kernel
theorem dX13_askCalled_1 : decode cX13_askCalled 1 = .ok (.bipush (-2), 2) := by decide +kernel
theorem dX13_askCalled_3 : decode cX13_askCalled 3 = .ok (.if_icmp .ne 9, 3) := by decide +kernel
theorem dX13_askCalled_6 : decode cX13_askCalled 6 = .ok (.iload_n 2, 1) := by decide +kernel
theorem dX13_askCalled_7 : decode cX13_askCalled 7 = .ok (.bipush (-2), 2) := by decide +kernel
theorem dX13_askCalled_9 : decode cX13_askCalled 9 = .ok (.if_icmp .ne 7, 3) := by decide +kernel
theorem dX13_askCalled_12 : decode cX13_askCalled 12 = .ok (.iconst 0, 1) := by decide +kernel
theorem dX13_askCalled_13 : decode cX13_askCalled 13 = .ok (.goto 11, 3) := by decide +kernel
theorem dX13_askCalled_16 : decode cX13_askCalled 16 = .ok (.aload_n 0, 1) := by decide +kernel
theorem dX13_askCalled_17 : decode cX13_askCalled 17 = .ok (.iload_n 2, 1) := by decide +kernel
theorem dX13_askCalled_18 : decode cX13_askCalled 18 = .ok (.sipush 7343, 3) := by decide +kernel
theorem dX13_askCalled_21 : decode cX13_askCalled 21 = .ok (.invokevirtual 646, 3) := by decide +kernel
theorem dX13_askCalled_24 : decode cX13_askCalled 24 = .ok (.istore_n 3, 1) := by decide +kernel
theorem dX13_askCalled_25 : decode cX13_askCalled 25 = .ok (.iload_n 3, 1) := by decide +kernel
theorem dX13_askCalled_26 : decode cX13_askCalled 26 = .ok (.iconst 1, 1) := by decide +kernel
theorem dX13_askCalled_27 : decode cX13_askCalled 27 = .ok (.if_icmp .le 5, 3) := by decide +kernel
theorem dX13_askCalled_30 : decode cX13_askCalled 30 = .ok (.iconst 3, 1) := by decide +kernel
theorem dX13_askCalled_31 : decode cX13_askCalled 31 = .ok (.ireturn, 1) := by decide +kernel
theorem dX13_askCalled_32 : decode cX13_askCalled 32 = .ok (.iload_n 1, 1) := by decide +kernel
theorem dX13_askCalled_33 : decode cX13_askCalled 33 = .ok (.bipush (-2), 2) := by decide +kernel
theorem dX13_askCalled_35 : decode cX13_askCalled 35 = .ok (.if_icmp .eq 7, 3) := by decide +kernel
theorem dX13_askCalled_38 : decode cX13_askCalled 38 = .ok (.iload_n 1, 1) := by decide +kernel
theorem dX13_askCalled_39 : decode cX13_askCalled 39 = .ok (.goto 17, 3) := by decide +kernel
theorem dX13_askCalled_42 : decode cX13_askCalled 42 = .ok (.iload_n 3, 1) := by decide +kernel
theorem dX13_askCalled_43 : decode cX13_askCalled 43 = .ok (.iconst 1, 1) := by decide +kernel
theorem dX13_askCalled_44 : decode cX13_askCalled 44 = .ok (.if_icmp .ne 10, 3) := by decide +kernel
theorem dX13_askCalled_47 : decode cX13_askCalled 47 = .ok (.aload_n 0, 1) := by decide +kernel
theorem dX13_askCalled_48 : decode cX13_askCalled 48 = .ok (.getfield 640, 3) := by decide +kernel
theorem dX13_askCalled_51 : decode cX13_askCalled 51 = .ok (.goto 5, 3) := by decide +kernel
theorem dX13_askCalled_54 : decode cX13_askCalled 54 = .ok (.bipush (-2), 2) := by decide +kernel
theorem dX13_askCalled_56 : decode cX13_askCalled 56 = .ok (.istore 4, 2) := by decide +kernel
theorem dX13_askCalled_58 : decode cX13_askCalled 58 = .ok (.iload 4, 2) := by decide +kernel
theorem dX13_askCalled_60 : decode cX13_askCalled 60 = .ok (.bipush (-2), 2) := by decide +kernel
theorem dX13_askCalled_62 : decode cX13_askCalled 62 = .ok (.if_icmp .eq 13, 3) := by decide +kernel
theorem dX13_askCalled_65 : decode cX13_askCalled 65 = .ok (.aload_n 0, 1) := by decide +kernel
theorem dX13_askCalled_66 : decode cX13_askCalled 66 = .ok (.getfield 436, 3) := by decide +kernel
theorem dX13_askCalled_69 : decode cX13_askCalled 69 = .ok (.iload 4, 2) := by decide +kernel
theorem dX13_askCalled_71 : decode cX13_askCalled 71 = .ok (.baload, 1) := by decide +kernel
theorem dX13_askCalled_72 : decode cX13_askCalled 72 = .ok (.ifCond .eq 6, 3) := by decide +kernel
theorem dX13_askCalled_75 : decode cX13_askCalled 75 = .ok (.bipush 6, 2) := by decide +kernel
theorem dX13_askCalled_77 : decode cX13_askCalled 77 = .ok (.ireturn, 1) := by decide +kernel
theorem dX13_askCalled_78 : decode cX13_askCalled 78 = .ok (.aload_n 0, 1) := by decide +kernel
theorem dX13_askCalled_79 : decode cX13_askCalled 79 = .ok (.iload 4, 2) := by decide +kernel
theorem dX13_askCalled_81 : decode cX13_askCalled 81 = .ok (.putfield 1124, 3) := by decide +kernel
theorem dX13_askCalled_84 : decode cX13_askCalled 84 = .ok (.iconst 0, 1) := by decide +kernel
theorem dX13_askCalled_85 : decode cX13_askCalled 85 = .ok (.ireturn, 1) := by decide +kernel
theorem dX13_stands__0 : decode cX13_stands_ 0 = .ok (.iload_n 1, 1) := by decide +kernel
theorem dX13_stands__1 : decode cX13_stands_ 1 = .ok (.sipush 1800, 3) := by decide +kernel
theorem dX13_stands__4 : decode cX13_stands_ 4 = .ok (.idiv, 1) := by decide +kernel
theorem dX13_stands__5 : decode cX13_stands_ 5 = .ok (.istore_n 2, 1) := by decide +kernel
theorem dX13_stands__6 : decode cX13_stands_ 6 = .ok (.aload_n 0, 1) := by decide +kernel
theorem dX13_stands__7 : decode cX13_stands_ 7 = .ok (.getfield 535, 3) := by decide +kernel
theorem dX13_stands__10 : decode cX13_stands_ 10 = .ok (.aload_n 0, 1) := by decide +kernel
theorem dX13_stands__11 : decode cX13_stands_ 11 = .ok (.getfield 538, 3) := by decide +kernel
theorem dX13_stands__14 : decode cX13_stands_ 14 = .ok (.iload_n 2, 1) := by decide +kernel
theorem dX13_stands__15 : decode cX13_stands_ 15 = .ok (.iaload, 1) := by decide +kernel
theorem dX13_stands__16 : decode cX13_stands_ 16 = .ok (.iaload, 1) := by decide +kernel
theorem dX13_stands__17 : decode cX13_stands_ 17 = .ok (.iload_n 2, 1) := by decide +kernel
theorem dX13_stands__18 : decode cX13_stands_ 18 = .ok (.if_icmp .ne 31, 3) := by decide +kernel
theorem dX13_stands__21 : decode cX13_stands_ 21 = .ok (.aload_n 0, 1) := by decide +kernel
theorem dX13_stands__22 : decode cX13_stands_ 22 = .ok (.aload_n 0, 1) := by decide +kernel
theorem dX13_stands__23 : decode cX13_stands_ 23 = .ok (.getfield 256, 3) := by decide +kernel
theorem dX13_stands__26 : decode cX13_stands_ 26 = .ok (.aload_n 0, 1) := by decide +kernel
theorem dX13_stands__27 : decode cX13_stands_ 27 = .ok (.getfield 869, 3) := by decide +kernel
theorem dX13_stands__30 : decode cX13_stands_ 30 = .ok (.iload_n 1, 1) := by decide +kernel
theorem dX13_stands__31 : decode cX13_stands_ 31 = .ok (.iaload, 1) := by decide +kernel
theorem dX13_stands__32 : decode cX13_stands_ 32 = .ok (.laload, 1) := by decide +kernel
theorem dX13_stands__33 : decode cX13_stands_ 33 = .ok (.invokevirtual 551, 3) := by decide +kernel
theorem dX13_stands__36 : decode cX13_stands_ 36 = .ok (.aload_n 0, 1) := by decide +kernel
theorem dX13_stands__37 : decode cX13_stands_ 37 = .ok (.getfield 869, 3) := by decide +kernel
theorem dX13_stands__40 : decode cX13_stands_ 40 = .ok (.iload_n 1, 1) := by decide +kernel
theorem dX13_stands__41 : decode cX13_stands_ 41 = .ok (.iaload, 1) := by decide +kernel
theorem dX13_stands__42 : decode cX13_stands_ 42 = .ok (.if_icmp .ne 7, 3) := by decide +kernel
theorem dX13_stands__45 : decode cX13_stands_ 45 = .ok (.iconst 1, 1) := by decide +kernel
theorem dX13_stands__46 : decode cX13_stands_ 46 = .ok (.goto 4, 3) := by decide +kernel
theorem dX13_stands__49 : decode cX13_stands_ 49 = .ok (.iconst 0, 1) := by decide +kernel
theorem dX13_stands__50 : decode cX13_stands_ 50 = .ok (.ireturn, 1) := by decide +kernel
theorem dX13_foretell_0 : decode cX13_foretell 0 = .ok (.aload_n 0, 1) := by decide +kernel
theorem dX13_foretell_1 : decode cX13_foretell 1 = .ok (.getfield 1080, 3) := by decide +kernel
theorem dX13_foretell_4 : decode cX13_foretell 4 = .ok (.istore_n 2, 1) := by decide +kernel
theorem dX13_foretell_5 : decode cX13_foretell 5 = .ok (.aload_n 0, 1) := by decide +kernel
theorem dX13_foretell_6 : decode cX13_foretell 6 = .ok (.bipush 64, 2) := by decide +kernel
theorem dX13_foretell_8 : decode cX13_foretell 8 = .ok (.putfield 1080, 3) := by decide +kernel
theorem dX13_foretell_11 : decode cX13_foretell 11 = .ok (.aload_n 0, 1) := by decide +kernel
theorem dX13_foretell_12 : decode cX13_foretell 12 = .ok (.bipush 64, 2) := by decide +kernel
theorem dX13_foretell_14 : decode cX13_foretell 14 = .ok (.invokevirtual 1163, 3) := by decide +kernel
theorem dX13_foretell_17 : decode cX13_foretell 17 = .ok (.aload_n 0, 1) := by decide +kernel
theorem dX13_foretell_18 : decode cX13_foretell 18 = .ok (.iload_n 1, 1) := by decide +kernel
theorem dX13_foretell_19 : decode cX13_foretell 19 = .ok (.iconst 0, 1) := by decide +kernel
theorem dX13_foretell_20 : decode cX13_foretell 20 = .ok (.invokevirtual 1116, 3) := by decide +kernel
theorem dX13_foretell_23 : decode cX13_foretell 23 = .ok (.istore_n 3, 1) := by decide +kernel
theorem dX13_foretell_24 : decode cX13_foretell 24 = .ok (.aload_n 0, 1) := by decide +kernel
theorem dX13_foretell_25 : decode cX13_foretell 25 = .ok (.iload_n 2, 1) := by decide +kernel
theorem dX13_foretell_26 : decode cX13_foretell 26 = .ok (.putfield 1080, 3) := by decide +kernel
theorem dX13_foretell_29 : decode cX13_foretell 29 = .ok (.iload_n 3, 1) := by decide +kernel
theorem dX13_foretell_30 : decode cX13_foretell 30 = .ok (.ireturn, 1) := by decide +kernel
theorem dX13_meet_0 : decode cX13_meet 0 = .ok (.aload_n 0, 1) := by decide +kernel
theorem dX13_meet_1 : decode cX13_meet 1 = .ok (.iload_n 1, 1) := by decide +kernel
theorem dX13_meet_2 : decode cX13_meet 2 = .ok (.iload_n 2, 1) := by decide +kernel
theorem dX13_meet_3 : decode cX13_meet 3 = .ok (.iload_n 3, 1) := by decide +kernel
theorem dX13_meet_4 : decode cX13_meet 4 = .ok (.invokevirtual 1062, 3) := by decide +kernel
theorem dX13_meet_7 : decode cX13_meet 7 = .ok (.istore 4, 2) := by decide +kernel
theorem dX13_meet_9 : decode cX13_meet 9 = .ok (.iload 4, 2) := by decide +kernel
theorem dX13_meet_11 : decode cX13_meet 11 = .ok (.bipush (-2), 2) := by decide +kernel
theorem dX13_meet_13 : decode cX13_meet 13 = .ok (.if_icmp .ne 5, 3) := by decide +kernel
theorem dX13_meet_16 : decode cX13_meet 16 = .ok (.iconst (-1), 1) := by decide +kernel
theorem dX13_meet_17 : decode cX13_meet 17 = .ok (.ireturn, 1) := by decide +kernel
theorem dX13_meet_18 : decode cX13_meet 18 = .ok (.aload_n 0, 1) := by decide +kernel
theorem dX13_meet_19 : decode cX13_meet 19 = .ok (.iload 4, 2) := by decide +kernel
theorem dX13_meet_21 : decode cX13_meet 21 = .ok (.invokevirtual 1166, 3) := by decide +kernel
theorem dX13_meet_24 : decode cX13_meet 24 = .ok (.ifCond .ne 6, 3) := by decide +kernel
theorem dX13_meet_27 : decode cX13_meet 27 = .ok (.bipush (-2), 2) := by decide +kernel
theorem dX13_meet_29 : decode cX13_meet 29 = .ok (.ireturn, 1) := by decide +kernel
theorem dX13_meet_30 : decode cX13_meet 30 = .ok (.aload_n 0, 1) := by decide +kernel
theorem dX13_meet_31 : decode cX13_meet 31 = .ok (.iload 4, 2) := by decide +kernel
theorem dX13_meet_33 : decode cX13_meet 33 = .ok (.invokevirtual 1168, 3) := by decide +kernel
theorem dX13_meet_36 : decode cX13_meet 36 = .ok (.istore 5, 2) := by decide +kernel
theorem dX13_meet_38 : decode cX13_meet 38 = .ok (.aload_n 0, 1) := by decide +kernel
theorem dX13_meet_39 : decode cX13_meet 39 = .ok (.aload_n 0, 1) := by decide +kernel
theorem dX13_meet_40 : decode cX13_meet 40 = .ok (.getfield 1124, 3) := by decide +kernel
theorem dX13_meet_43 : decode cX13_meet 43 = .ok (.putfield 1171, 3) := by decide +kernel
theorem dX13_meet_46 : decode cX13_meet 46 = .ok (.aload_n 0, 1) := by decide +kernel
theorem dX13_meet_47 : decode cX13_meet 47 = .ok (.aload_n 0, 1) := by decide +kernel
theorem dX13_meet_48 : decode cX13_meet 48 = .ok (.getfield 1121, 3) := by decide +kernel
theorem dX13_meet_51 : decode cX13_meet 51 = .ok (.putfield 1174, 3) := by decide +kernel
theorem dX13_meet_54 : decode cX13_meet 54 = .ok (.iconst 0, 1) := by decide +kernel
theorem dX13_meet_55 : decode cX13_meet 55 = .ok (.istore 6, 2) := by decide +kernel
theorem dX13_meet_57 : decode cX13_meet 57 = .ok (.iload 6, 2) := by decide +kernel
theorem dX13_meet_59 : decode cX13_meet 59 = .ok (.aload_n 0, 1) := by decide +kernel
theorem dX13_meet_60 : decode cX13_meet 60 = .ok (.getfield 1174, 3) := by decide +kernel
theorem dX13_meet_63 : decode cX13_meet 63 = .ok (.if_icmp .ge 28, 3) := by decide +kernel
theorem dX13_meet_66 : decode cX13_meet 66 = .ok (.aload_n 0, 1) := by decide +kernel
theorem dX13_meet_67 : decode cX13_meet 67 = .ok (.getfield 1177, 3) := by decide +kernel
theorem dX13_meet_70 : decode cX13_meet 70 = .ok (.iload 6, 2) := by decide +kernel
theorem dX13_meet_72 : decode cX13_meet 72 = .ok (.aload_n 0, 1) := by decide +kernel
theorem dX13_meet_73 : decode cX13_meet 73 = .ok (.getfield 1068, 3) := by decide +kernel
theorem dX13_meet_76 : decode cX13_meet 76 = .ok (.aload_n 0, 1) := by decide +kernel
theorem dX13_meet_77 : decode cX13_meet 77 = .ok (.getfield 1118, 3) := by decide +kernel
theorem dX13_meet_80 : decode cX13_meet 80 = .ok (.iload 6, 2) := by decide +kernel
theorem dX13_meet_82 : decode cX13_meet 82 = .ok (.iaload, 1) := by decide +kernel
theorem dX13_meet_83 : decode cX13_meet 83 = .ok (.iaload, 1) := by decide +kernel
theorem dX13_meet_84 : decode cX13_meet 84 = .ok (.iastore, 1) := by decide +kernel
theorem dX13_meet_85 : decode cX13_meet 85 = .ok (.iinc 6 1, 3) := by decide +kernel
theorem dX13_meet_88 : decode cX13_meet 88 = .ok (.goto (-31), 3) := by decide +kernel
theorem dX13_meet_91 : decode cX13_meet 91 = .ok (.iload 5, 2) := by decide +kernel
theorem dX13_meet_93 : decode cX13_meet 93 = .ok (.ireturn, 1) := by decide +kernel
theorem dX13_met_0 : decode cX13_met 0 = .ok (.aload_n 0, 1) := by decide +kernel
theorem dX13_met_1 : decode cX13_met 1 = .ok (.iconst 0, 1) := by decide +kernel
theorem dX13_met_2 : decode cX13_met 2 = .ok (.putfield 15, 3) := by decide +kernel
theorem dX13_met_5 : decode cX13_met 5 = .ok (.aload_n 0, 1) := by decide +kernel
theorem dX13_met_6 : decode cX13_met 6 = .ok (.getfield 1171, 3) := by decide +kernel
theorem dX13_met_9 : decode cX13_met 9 = .ok (.bipush (-2), 2) := by decide +kernel
theorem dX13_met_11 : decode cX13_met 11 = .ok (.if_icmp .eq 114, 3) := by decide +kernel
theorem dX13_met_14 : decode cX13_met 14 = .ok (.aload_n 0, 1) := by decide +kernel
theorem dX13_met_15 : decode cX13_met 15 = .ok (.getfield 1171, 3) := by decide +kernel
theorem dX13_met_18 : decode cX13_met 18 = .ok (.istore_n 1, 1) := by decide +kernel
theorem dX13_met_19 : decode cX13_met 19 = .ok (.aload_n 0, 1) := by decide +kernel
theorem dX13_met_20 : decode cX13_met 20 = .ok (.aload_n 0, 1) := by decide +kernel
theorem dX13_met_21 : decode cX13_met 21 = .ok (.getfield 256, 3) := by decide +kernel
theorem dX13_met_24 : decode cX13_met 24 = .ok (.aload_n 0, 1) := by decide +kernel
theorem dX13_met_25 : decode cX13_met 25 = .ok (.iload_n 1, 1) := by decide +kernel
theorem dX13_met_26 : decode cX13_met 26 = .ok (.invokevirtual 599, 3) := by decide +kernel
theorem dX13_met_29 : decode cX13_met 29 = .ok (.laload, 1) := by decide +kernel
theorem dX13_met_30 : decode cX13_met 30 = .ok (.invokevirtual 53, 3) := by decide +kernel
theorem dX13_met_33 : decode cX13_met 33 = .ok (.aload_n 0, 1) := by decide +kernel
theorem dX13_met_34 : decode cX13_met 34 = .ok (.bipush 46, 2) := by decide +kernel
theorem dX13_met_36 : decode cX13_met 36 = .ok (.invokevirtual 29, 3) := by decide +kernel
theorem dX13_met_39 : decode cX13_met 39 = .ok (.aload_n 0, 1) := by decide +kernel
theorem dX13_met_40 : decode cX13_met 40 = .ok (.aload_n 0, 1) := by decide +kernel
theorem dX13_met_41 : decode cX13_met 41 = .ok (.getfield 402, 3) := by decide +kernel
theorem dX13_met_44 : decode cX13_met 44 = .ok (.iload_n 1, 1) := by decide +kernel
theorem dX13_met_45 : decode cX13_met 45 = .ok (.iaload, 1) := by decide +kernel
theorem dX13_met_46 : decode cX13_met 46 = .ok (.iconst 2, 1) := by decide +kernel
theorem dX13_met_47 : decode cX13_met 47 = .ok (.if_icmp .ne 9, 3) := by decide +kernel
theorem dX13_met_50 : decode cX13_met 50 = .ok (.ldc_w 337, 3) := by decide +kernel
theorem dX13_met_53 : decode cX13_met 53 = .ok (.goto 6, 3) := by decide +kernel
theorem dX13_met_56 : decode cX13_met 56 = .ok (.ldc_w 1020, 3) := by decide +kernel
theorem dX13_met_59 : decode cX13_met 59 = .ok (.invokevirtual 47, 3) := by decide +kernel
theorem dX13_met_62 : decode cX13_met 62 = .ok (.aload_n 0, 1) := by decide +kernel
theorem dX13_met_63 : decode cX13_met 63 = .ok (.aload_n 0, 1) := by decide +kernel
theorem dX13_met_64 : decode cX13_met 64 = .ok (.getfield 356, 3) := by decide +kernel
theorem dX13_met_67 : decode cX13_met 67 = .ok (.iload_n 1, 1) := by decide +kernel
theorem dX13_met_68 : decode cX13_met 68 = .ok (.laload, 1) := by decide +kernel
theorem dX13_met_69 : decode cX13_met 69 = .ok (.invokevirtual 53, 3) := by decide +kernel
theorem dX13_met_72 : decode cX13_met 72 = .ok (.aload_n 0, 1) := by decide +kernel
theorem dX13_met_73 : decode cX13_met 73 = .ok (.getfield 402, 3) := by decide +kernel
theorem dX13_met_76 : decode cX13_met 76 = .ok (.iload_n 1, 1) := by decide +kernel
theorem dX13_met_77 : decode cX13_met 77 = .ok (.iaload, 1) := by decide +kernel
theorem dX13_met_78 : decode cX13_met 78 = .ok (.ifCond .ne 22, 3) := by decide +kernel
theorem dX13_met_81 : decode cX13_met 81 = .ok (.aload_n 0, 1) := by decide +kernel
theorem dX13_met_82 : decode cX13_met 82 = .ok (.bipush 58, 2) := by decide +kernel
theorem dX13_met_84 : decode cX13_met 84 = .ok (.invokevirtual 29, 3) := by decide +kernel
theorem dX13_met_87 : decode cX13_met 87 = .ok (.aload_n 0, 1) := by decide +kernel
theorem dX13_met_88 : decode cX13_met 88 = .ok (.aload_n 0, 1) := by decide +kernel
theorem dX13_met_89 : decode cX13_met 89 = .ok (.getfield 359, 3) := by decide +kernel
theorem dX13_met_92 : decode cX13_met 92 = .ok (.iload_n 1, 1) := by decide +kernel
theorem dX13_met_93 : decode cX13_met 93 = .ok (.laload, 1) := by decide +kernel
theorem dX13_met_94 : decode cX13_met 94 = .ok (.invokevirtual 1010, 3) := by decide +kernel
theorem dX13_met_97 : decode cX13_met 97 = .ok (.goto 28, 3) := by decide +kernel
theorem dX13_met_100 : decode cX13_met 100 = .ok (.aload_n 0, 1) := by decide +kernel
theorem dX13_met_101 : decode cX13_met 101 = .ok (.iload_n 1, 1) := by decide +kernel
theorem dX13_met_102 : decode cX13_met 102 = .ok (.invokevirtual 1056, 3) := by decide +kernel
theorem dX13_met_105 : decode cX13_met 105 = .ok (.aload_n 0, 1) := by decide +kernel
theorem dX13_met_106 : decode cX13_met 106 = .ok (.getfield 402, 3) := by decide +kernel
theorem dX13_met_109 : decode cX13_met 109 = .ok (.iload_n 1, 1) := by decide +kernel
theorem dX13_met_110 : decode cX13_met 110 = .ok (.iaload, 1) := by decide +kernel
theorem dX13_met_111 : decode cX13_met 111 = .ok (.iconst 1, 1) := by decide +kernel
theorem dX13_met_112 : decode cX13_met 112 = .ok (.if_icmp .ne 13, 3) := by decide +kernel
theorem dX13_met_115 : decode cX13_met 115 = .ok (.aload_n 0, 1) := by decide +kernel
theorem dX13_met_116 : decode cX13_met 116 = .ok (.aload_n 0, 1) := by decide +kernel
theorem dX13_met_117 : decode cX13_met 117 = .ok (.getfield 359, 3) := by decide +kernel
theorem dX13_met_120 : decode cX13_met 120 = .ok (.iload_n 1, 1) := by decide +kernel
theorem dX13_met_121 : decode cX13_met 121 = .ok (.laload, 1) := by decide +kernel
theorem dX13_met_122 : decode cX13_met 122 = .ok (.invokevirtual 1010, 3) := by decide +kernel
theorem dX13_met_125 : decode cX13_met 125 = .ok (.aload_n 0, 1) := by decide +kernel
theorem dX13_met_126 : decode cX13_met 126 = .ok (.getfield 15, 3) := by decide +kernel
theorem dX13_met_129 : decode cX13_met 129 = .ok (.ireturn, 1) := by decide +kernel
theorem dX13_looked_0 : decode cX13_looked 0 = .ok (.iload_n 1, 1) := by decide +kernel
theorem dX13_looked_1 : decode cX13_looked 1 = .ok (.ifCond .lt 11, 3) := by decide +kernel
theorem dX13_looked_4 : decode cX13_looked 4 = .ok (.iload_n 1, 1) := by decide +kernel
theorem dX13_looked_5 : decode cX13_looked 5 = .ok (.aload_n 0, 1) := by decide +kernel
theorem dX13_looked_6 : decode cX13_looked 6 = .ok (.getfield 1174, 3) := by decide +kernel
theorem dX13_looked_9 : decode cX13_looked 9 = .ok (.if_icmp .lt 7, 3) := by decide +kernel
theorem dX13_looked_12 : decode cX13_looked 12 = .ok (.iconst (-1), 1) := by decide +kernel
theorem dX13_looked_13 : decode cX13_looked 13 = .ok (.goto 9, 3) := by decide +kernel
theorem dX13_looked_16 : decode cX13_looked 16 = .ok (.aload_n 0, 1) := by decide +kernel
theorem dX13_looked_17 : decode cX13_looked 17 = .ok (.getfield 1177, 3) := by decide +kernel
theorem dX13_looked_20 : decode cX13_looked 20 = .ok (.iload_n 1, 1) := by decide +kernel
theorem dX13_looked_21 : decode cX13_looked 21 = .ok (.iaload, 1) := by decide +kernel
theorem dX13_looked_22 : decode cX13_looked 22 = .ok (.ireturn, 1) := by decide +kernel
theorem dX13_broken_0 : decode cX13_broken 0 = .ok (.aload_n 0, 1) := by decide +kernel
theorem dX13_broken_1 : decode cX13_broken 1 = .ok (.iconst 0, 1) := by decide +kernel
theorem dX13_broken_2 : decode cX13_broken 2 = .ok (.putfield 1180, 3) := by decide +kernel
theorem dX13_broken_5 : decode cX13_broken 5 = .ok (.iconst 0, 1) := by decide +kernel
theorem dX13_broken_6 : decode cX13_broken 6 = .ok (.istore_n 1, 1) := by decide +kernel
theorem dX13_broken_7 : decode cX13_broken 7 = .ok (.iload_n 1, 1) := by decide +kernel
theorem dX13_broken_8 : decode cX13_broken 8 = .ok (.iconst 5, 1) := by decide +kernel
theorem dX13_broken_9 : decode cX13_broken 9 = .ok (.if_icmp .ge 138, 3) := by decide +kernel
theorem dX13_broken_12 : decode cX13_broken 12 = .ok (.aload_n 0, 1) := by decide +kernel
theorem dX13_broken_13 : decode cX13_broken 13 = .ok (.getfield 535, 3) := by decide +kernel
theorem dX13_broken_16 : decode cX13_broken 16 = .ok (.iload_n 1, 1) := by decide +kernel
theorem dX13_broken_17 : decode cX13_broken 17 = .ok (.iaload, 1) := by decide +kernel
theorem dX13_broken_18 : decode cX13_broken 18 = .ok (.istore_n 2, 1) := by decide +kernel
theorem dX13_broken_19 : decode cX13_broken 19 = .ok (.iconst 0, 1) := by decide +kernel
theorem dX13_broken_20 : decode cX13_broken 20 = .ok (.istore_n 3, 1) := by decide +kernel
theorem dX13_broken_21 : decode cX13_broken 21 = .ok (.iload_n 2, 1) := by decide +kernel
theorem dX13_broken_22 : decode cX13_broken 22 = .ok (.bipush (-2), 2) := by decide +kernel
theorem dX13_broken_24 : decode cX13_broken 24 = .ok (.if_icmp .eq 117, 3) := by decide +kernel
theorem dX13_broken_27 : decode cX13_broken 27 = .ok (.iload_n 3, 1) := by decide +kernel
theorem dX13_broken_28 : decode cX13_broken 28 = .ok (.aload_n 0, 1) := by decide +kernel
theorem dX13_broken_29 : decode cX13_broken 29 = .ok (.getfield 863, 3) := by decide +kernel
theorem dX13_broken_32 : decode cX13_broken 32 = .ok (.iload_n 2, 1) := by decide +kernel
theorem dX13_broken_33 : decode cX13_broken 33 = .ok (.iaload, 1) := by decide +kernel
theorem dX13_broken_34 : decode cX13_broken 34 = .ok (.if_icmp .ge 107, 3) := by decide +kernel
theorem dX13_broken_37 : decode cX13_broken 37 = .ok (.iload_n 2, 1) := by decide +kernel
theorem dX13_broken_38 : decode cX13_broken 38 = .ok (.sipush 1800, 3) := by decide +kernel
theorem dX13_broken_41 : decode cX13_broken 41 = .ok (.imul, 1) := by decide +kernel
theorem dX13_broken_42 : decode cX13_broken 42 = .ok (.iload_n 3, 1) := by decide +kernel
theorem dX13_broken_43 : decode cX13_broken 43 = .ok (.iadd, 1) := by decide +kernel
theorem dX13_broken_44 : decode cX13_broken 44 = .ok (.istore 4, 2) := by decide +kernel
theorem dX13_broken_46 : decode cX13_broken 46 = .ok (.aload_n 0, 1) := by decide +kernel
theorem dX13_broken_47 : decode cX13_broken 47 = .ok (.getfield 866, 3) := by decide +kernel
theorem dX13_broken_50 : decode cX13_broken 50 = .ok (.iload 4, 2) := by decide +kernel
theorem dX13_broken_52 : decode cX13_broken 52 = .ok (.iaload, 1) := by decide +kernel
theorem dX13_broken_53 : decode cX13_broken 53 = .ok (.bipush 16, 2) := by decide +kernel
theorem dX13_broken_55 : decode cX13_broken 55 = .ok (.if_icmp .eq 21, 3) := by decide +kernel
theorem dX13_broken_58 : decode cX13_broken 58 = .ok (.aload_n 0, 1) := by decide +kernel
theorem dX13_broken_59 : decode cX13_broken 59 = .ok (.iload 4, 2) := by decide +kernel
theorem dX13_broken_61 : decode cX13_broken 61 = .ok (.invokevirtual 1166, 3) := by decide +kernel
theorem dX13_broken_64 : decode cX13_broken 64 = .ok (.ifCond .eq 12, 3) := by decide +kernel
theorem dX13_broken_67 : decode cX13_broken 67 = .ok (.aload_n 0, 1) := by decide +kernel
theorem dX13_broken_68 : decode cX13_broken 68 = .ok (.iload 4, 2) := by decide +kernel
theorem dX13_broken_70 : decode cX13_broken 70 = .ok (.invokevirtual 1168, 3) := by decide +kernel
theorem dX13_broken_73 : decode cX13_broken 73 = .ok (.goto 4, 3) := by decide +kernel
theorem dX13_broken_76 : decode cX13_broken 76 = .ok (.iconst 0, 1) := by decide +kernel
theorem dX13_broken_77 : decode cX13_broken 77 = .ok (.istore 5, 2) := by decide +kernel
theorem dX13_broken_79 : decode cX13_broken 79 = .ok (.iload 5, 2) := by decide +kernel
theorem dX13_broken_81 : decode cX13_broken 81 = .ok (.ifCond .eq 54, 3) := by decide +kernel
theorem dX13_broken_84 : decode cX13_broken 84 = .ok (.aload_n 0, 1) := by decide +kernel
theorem dX13_broken_85 : decode cX13_broken 85 = .ok (.getfield 1183, 3) := by decide +kernel
theorem dX13_broken_88 : decode cX13_broken 88 = .ok (.iconst 3, 1) := by decide +kernel
theorem dX13_broken_89 : decode cX13_broken 89 = .ok (.aload_n 0, 1) := by decide +kernel
theorem dX13_broken_90 : decode cX13_broken 90 = .ok (.getfield 1180, 3) := by decide +kernel
theorem dX13_broken_93 : decode cX13_broken 93 = .ok (.imul, 1) := by decide +kernel
theorem dX13_broken_94 : decode cX13_broken 94 = .ok (.iload_n 1, 1) := by decide +kernel
theorem dX13_broken_95 : decode cX13_broken 95 = .ok (.iastore, 1) := by decide +kernel
theorem dX13_broken_96 : decode cX13_broken 96 = .ok (.aload_n 0, 1) := by decide +kernel
theorem dX13_broken_97 : decode cX13_broken 97 = .ok (.getfield 1183, 3) := by decide +kernel
theorem dX13_broken_100 : decode cX13_broken 100 = .ok (.iconst 3, 1) := by decide +kernel
theorem dX13_broken_101 : decode cX13_broken 101 = .ok (.aload_n 0, 1) := by decide +kernel
theorem dX13_broken_102 : decode cX13_broken 102 = .ok (.getfield 1180, 3) := by decide +kernel
theorem dX13_broken_105 : decode cX13_broken 105 = .ok (.imul, 1) := by decide +kernel
theorem dX13_broken_106 : decode cX13_broken 106 = .ok (.iconst 1, 1) := by decide +kernel
theorem dX13_broken_107 : decode cX13_broken 107 = .ok (.iadd, 1) := by decide +kernel
theorem dX13_broken_108 : decode cX13_broken 108 = .ok (.iload_n 3, 1) := by decide +kernel
theorem dX13_broken_109 : decode cX13_broken 109 = .ok (.iastore, 1) := by decide +kernel
theorem dX13_broken_110 : decode cX13_broken 110 = .ok (.aload_n 0, 1) := by decide +kernel
theorem dX13_broken_111 : decode cX13_broken 111 = .ok (.getfield 1183, 3) := by decide +kernel
theorem dX13_broken_114 : decode cX13_broken 114 = .ok (.iconst 3, 1) := by decide +kernel
theorem dX13_broken_115 : decode cX13_broken 115 = .ok (.aload_n 0, 1) := by decide +kernel
theorem dX13_broken_116 : decode cX13_broken 116 = .ok (.getfield 1180, 3) := by decide +kernel
theorem dX13_broken_119 : decode cX13_broken 119 = .ok (.imul, 1) := by decide +kernel
theorem dX13_broken_120 : decode cX13_broken 120 = .ok (.iconst 2, 1) := by decide +kernel
theorem dX13_broken_121 : decode cX13_broken 121 = .ok (.iadd, 1) := by decide +kernel
theorem dX13_broken_122 : decode cX13_broken 122 = .ok (.iload 5, 2) := by decide +kernel
theorem dX13_broken_124 : decode cX13_broken 124 = .ok (.iastore, 1) := by decide +kernel
theorem dX13_broken_125 : decode cX13_broken 125 = .ok (.aload_n 0, 1) := by decide +kernel
theorem dX13_broken_126 : decode cX13_broken 126 = .ok (.dup, 1) := by decide +kernel
theorem dX13_broken_127 : decode cX13_broken 127 = .ok (.getfield 1180, 3) := by decide +kernel
theorem dX13_broken_130 : decode cX13_broken 130 = .ok (.iconst 1, 1) := by decide +kernel
theorem dX13_broken_131 : decode cX13_broken 131 = .ok (.iadd, 1) := by decide +kernel
theorem dX13_broken_132 : decode cX13_broken 132 = .ok (.putfield 1180, 3) := by decide +kernel
theorem dX13_broken_135 : decode cX13_broken 135 = .ok (.iinc 3 1, 3) := by decide +kernel
theorem dX13_broken_138 : decode cX13_broken 138 = .ok (.goto (-117), 3) := by decide +kernel
theorem dX13_broken_141 : decode cX13_broken 141 = .ok (.iinc 1 1, 3) := by decide +kernel
theorem dX13_broken_144 : decode cX13_broken 144 = .ok (.goto (-137), 3) := by decide +kernel
theorem dX13_broken_147 : decode cX13_broken 147 = .ok (.aload_n 0, 1) := by decide +kernel
theorem dX13_broken_148 : decode cX13_broken 148 = .ok (.getfield 1180, 3) := by decide +kernel
theorem dX13_broken_151 : decode cX13_broken 151 = .ok (.ireturn, 1) := by decide +kernel
theorem dX13_isBroken_0 : decode cX13_isBroken 0 = .ok (.iconst 0, 1) := by decide +kernel
theorem dX13_isBroken_1 : decode cX13_isBroken 1 = .ok (.istore_n 1, 1) := by decide +kernel
theorem dX13_isBroken_2 : decode cX13_isBroken 2 = .ok (.iload_n 1, 1) := by decide +kernel
theorem dX13_isBroken_3 : decode cX13_isBroken 3 = .ok (.iconst 5, 1) := by decide +kernel
theorem dX13_isBroken_4 : decode cX13_isBroken 4 = .ok (.if_icmp .ge 81, 3) := by decide +kernel
theorem dX13_isBroken_7 : decode cX13_isBroken 7 = .ok (.aload_n 0, 1) := by decide +kernel
theorem dX13_isBroken_8 : decode cX13_isBroken 8 = .ok (.getfield 535, 3) := by decide +kernel
theorem dX13_isBroken_11 : decode cX13_isBroken 11 = .ok (.iload_n 1, 1) := by decide +kernel
theorem dX13_isBroken_12 : decode cX13_isBroken 12 = .ok (.iaload, 1) := by decide +kernel
theorem dX13_isBroken_13 : decode cX13_isBroken 13 = .ok (.istore_n 2, 1) := by decide +kernel
theorem dX13_isBroken_14 : decode cX13_isBroken 14 = .ok (.iconst 0, 1) := by decide +kernel
theorem dX13_isBroken_15 : decode cX13_isBroken 15 = .ok (.istore_n 3, 1) := by decide +kernel
theorem dX13_isBroken_16 : decode cX13_isBroken 16 = .ok (.iload_n 2, 1) := by decide +kernel
theorem dX13_isBroken_17 : decode cX13_isBroken 17 = .ok (.bipush (-2), 2) := by decide +kernel
theorem dX13_isBroken_19 : decode cX13_isBroken 19 = .ok (.if_icmp .eq 60, 3) := by decide +kernel
theorem dX13_isBroken_22 : decode cX13_isBroken 22 = .ok (.iload_n 3, 1) := by decide +kernel
theorem dX13_isBroken_23 : decode cX13_isBroken 23 = .ok (.aload_n 0, 1) := by decide +kernel
theorem dX13_isBroken_24 : decode cX13_isBroken 24 = .ok (.getfield 863, 3) := by decide +kernel
theorem dX13_isBroken_27 : decode cX13_isBroken 27 = .ok (.iload_n 2, 1) := by decide +kernel
theorem dX13_isBroken_28 : decode cX13_isBroken 28 = .ok (.iaload, 1) := by decide +kernel
theorem dX13_isBroken_29 : decode cX13_isBroken 29 = .ok (.if_icmp .ge 50, 3) := by decide +kernel
theorem dX13_isBroken_32 : decode cX13_isBroken 32 = .ok (.iload_n 2, 1) := by decide +kernel
theorem dX13_isBroken_33 : decode cX13_isBroken 33 = .ok (.sipush 1800, 3) := by decide +kernel
theorem dX13_isBroken_36 : decode cX13_isBroken 36 = .ok (.imul, 1) := by decide +kernel
theorem dX13_isBroken_37 : decode cX13_isBroken 37 = .ok (.iload_n 3, 1) := by decide +kernel
theorem dX13_isBroken_38 : decode cX13_isBroken 38 = .ok (.iadd, 1) := by decide +kernel
theorem dX13_isBroken_39 : decode cX13_isBroken 39 = .ok (.istore 4, 2) := by decide +kernel
theorem dX13_isBroken_41 : decode cX13_isBroken 41 = .ok (.aload_n 0, 1) := by decide +kernel
theorem dX13_isBroken_42 : decode cX13_isBroken 42 = .ok (.getfield 866, 3) := by decide +kernel
theorem dX13_isBroken_45 : decode cX13_isBroken 45 = .ok (.iload 4, 2) := by decide +kernel
theorem dX13_isBroken_47 : decode cX13_isBroken 47 = .ok (.iaload, 1) := by decide +kernel
theorem dX13_isBroken_48 : decode cX13_isBroken 48 = .ok (.bipush 16, 2) := by decide +kernel
theorem dX13_isBroken_50 : decode cX13_isBroken 50 = .ok (.if_icmp .eq 23, 3) := by decide +kernel
theorem dX13_isBroken_53 : decode cX13_isBroken 53 = .ok (.aload_n 0, 1) := by decide +kernel
theorem dX13_isBroken_54 : decode cX13_isBroken 54 = .ok (.iload 4, 2) := by decide +kernel
theorem dX13_isBroken_56 : decode cX13_isBroken 56 = .ok (.invokevirtual 1166, 3) := by decide +kernel
theorem dX13_isBroken_59 : decode cX13_isBroken 59 = .ok (.ifCond .eq 14, 3) := by decide +kernel
theorem dX13_isBroken_62 : decode cX13_isBroken 62 = .ok (.aload_n 0, 1) := by decide +kernel
theorem dX13_isBroken_63 : decode cX13_isBroken 63 = .ok (.iload 4, 2) := by decide +kernel
theorem dX13_isBroken_65 : decode cX13_isBroken 65 = .ok (.invokevirtual 1168, 3) := by decide +kernel
theorem dX13_isBroken_68 : decode cX13_isBroken 68 = .ok (.ifCond .eq 5, 3) := by decide +kernel
theorem dX13_isBroken_71 : decode cX13_isBroken 71 = .ok (.iconst 1, 1) := by decide +kernel
theorem dX13_isBroken_72 : decode cX13_isBroken 72 = .ok (.ireturn, 1) := by decide +kernel
theorem dX13_isBroken_73 : decode cX13_isBroken 73 = .ok (.iinc 3 1, 3) := by decide +kernel
theorem dX13_isBroken_76 : decode cX13_isBroken 76 = .ok (.goto (-60), 3) := by decide +kernel
theorem dX13_isBroken_79 : decode cX13_isBroken 79 = .ok (.iinc 1 1, 3) := by decide +kernel
theorem dX13_isBroken_82 : decode cX13_isBroken 82 = .ok (.goto (-80), 3) := by decide +kernel
theorem dX13_isBroken_85 : decode cX13_isBroken 85 = .ok (.iconst 0, 1) := by decide +kernel
theorem dX13_isBroken_86 : decode cX13_isBroken 86 = .ok (.ireturn, 1) := by decide +kernel
theorem dX13_brokenAt_0 : decode cX13_brokenAt 0 = .ok (.iload_n 1, 1) := by decide +kernel
theorem dX13_brokenAt_1 : decode cX13_brokenAt 1 = .ok (.ifCond .lt 20, 3) := by decide +kernel
theorem dX13_brokenAt_4 : decode cX13_brokenAt 4 = .ok (.iload_n 1, 1) := by decide +kernel
theorem dX13_brokenAt_5 : decode cX13_brokenAt 5 = .ok (.aload_n 0, 1) := by decide +kernel
theorem dX13_brokenAt_6 : decode cX13_brokenAt 6 = .ok (.getfield 1180, 3) := by decide +kernel
theorem dX13_brokenAt_9 : decode cX13_brokenAt 9 = .ok (.if_icmp .ge 12, 3) := by decide +kernel
theorem dX13_brokenAt_12 : decode cX13_brokenAt 12 = .ok (.iload_n 2, 1) := by decide +kernel
theorem dX13_brokenAt_13 : decode cX13_brokenAt 13 = .ok (.ifCond .lt 8, 3) := by decide +kernel
theorem dX13_brokenAt_16 : decode cX13_brokenAt 16 = .ok (.iload_n 2, 1) := by decide +kernel
theorem dX13_brokenAt_17 : decode cX13_brokenAt 17 = .ok (.iconst 2, 1) := by decide +kernel
theorem dX13_brokenAt_18 : decode cX13_brokenAt 18 = .ok (.if_icmp .le 7, 3) := by decide +kernel
theorem dX13_brokenAt_21 : decode cX13_brokenAt 21 = .ok (.iconst (-1), 1) := by decide +kernel
theorem dX13_brokenAt_22 : decode cX13_brokenAt 22 = .ok (.goto 13, 3) := by decide +kernel
theorem dX13_brokenAt_25 : decode cX13_brokenAt 25 = .ok (.aload_n 0, 1) := by decide +kernel
theorem dX13_brokenAt_26 : decode cX13_brokenAt 26 = .ok (.getfield 1183, 3) := by decide +kernel
theorem dX13_brokenAt_29 : decode cX13_brokenAt 29 = .ok (.iconst 3, 1) := by decide +kernel
theorem dX13_brokenAt_30 : decode cX13_brokenAt 30 = .ok (.iload_n 1, 1) := by decide +kernel
theorem dX13_brokenAt_31 : decode cX13_brokenAt 31 = .ok (.imul, 1) := by decide +kernel
theorem dX13_brokenAt_32 : decode cX13_brokenAt 32 = .ok (.iload_n 2, 1) := by decide +kernel
theorem dX13_brokenAt_33 : decode cX13_brokenAt 33 = .ok (.iadd, 1) := by decide +kernel
theorem dX13_brokenAt_34 : decode cX13_brokenAt 34 = .ok (.iaload, 1) := by decide +kernel
theorem dX13_brokenAt_35 : decode cX13_brokenAt 35 = .ok (.ireturn, 1) := by decide +kernel
theorem dX13_stale_0 : decode cX13_stale 0 = .ok (.iconst 0, 1) := by decide +kernel
theorem dX13_stale_1 : decode cX13_stale 1 = .ok (.istore_n 1, 1) := by decide +kernel
theorem dX13_stale_2 : decode cX13_stale 2 = .ok (.iconst 0, 1) := by decide +kernel
theorem dX13_stale_3 : decode cX13_stale 3 = .ok (.istore_n 2, 1) := by decide +kernel
theorem dX13_stale_4 : decode cX13_stale 4 = .ok (.iload_n 2, 1) := by decide +kernel
theorem dX13_stale_5 : decode cX13_stale 5 = .ok (.iconst 5, 1) := by decide +kernel
theorem dX13_stale_6 : decode cX13_stale 6 = .ok (.if_icmp .ge 90, 3) := by decide +kernel
theorem dX13_stale_9 : decode cX13_stale 9 = .ok (.aload_n 0, 1) := by decide +kernel
theorem dX13_stale_10 : decode cX13_stale 10 = .ok (.getfield 535, 3) := by decide +kernel
theorem dX13_stale_13 : decode cX13_stale 13 = .ok (.iload_n 2, 1) := by decide +kernel
theorem dX13_stale_14 : decode cX13_stale 14 = .ok (.iaload, 1) := by decide +kernel
theorem dX13_stale_15 : decode cX13_stale 15 = .ok (.istore_n 3, 1) := by decide +kernel
theorem dX13_stale_16 : decode cX13_stale 16 = .ok (.iconst 0, 1) := by decide +kernel
theorem dX13_stale_17 : decode cX13_stale 17 = .ok (.istore 4, 2) := by decide +kernel
theorem dX13_stale_19 : decode cX13_stale 19 = .ok (.iload_n 3, 1) := by decide +kernel
theorem dX13_stale_20 : decode cX13_stale 20 = .ok (.bipush (-2), 2) := by decide +kernel
theorem dX13_stale_22 : decode cX13_stale 22 = .ok (.if_icmp .eq 68, 3) := by decide +kernel
theorem dX13_stale_25 : decode cX13_stale 25 = .ok (.iload 4, 2) := by decide +kernel
theorem dX13_stale_27 : decode cX13_stale 27 = .ok (.aload_n 0, 1) := by decide +kernel
theorem dX13_stale_28 : decode cX13_stale 28 = .ok (.getfield 863, 3) := by decide +kernel
theorem dX13_stale_31 : decode cX13_stale 31 = .ok (.iload_n 3, 1) := by decide +kernel
theorem dX13_stale_32 : decode cX13_stale 32 = .ok (.iaload, 1) := by decide +kernel
theorem dX13_stale_33 : decode cX13_stale 33 = .ok (.if_icmp .ge 57, 3) := by decide +kernel
theorem dX13_stale_36 : decode cX13_stale 36 = .ok (.iload_n 3, 1) := by decide +kernel
theorem dX13_stale_37 : decode cX13_stale 37 = .ok (.sipush 1800, 3) := by decide +kernel
theorem dX13_stale_40 : decode cX13_stale 40 = .ok (.imul, 1) := by decide +kernel
theorem dX13_stale_41 : decode cX13_stale 41 = .ok (.iload 4, 2) := by decide +kernel
theorem dX13_stale_43 : decode cX13_stale 43 = .ok (.iadd, 1) := by decide +kernel
theorem dX13_stale_44 : decode cX13_stale 44 = .ok (.istore 5, 2) := by decide +kernel
theorem dX13_stale_46 : decode cX13_stale 46 = .ok (.iload_n 1, 1) := by decide +kernel
theorem dX13_stale_47 : decode cX13_stale 47 = .ok (.aload_n 0, 1) := by decide +kernel
theorem dX13_stale_48 : decode cX13_stale 48 = .ok (.getfield 866, 3) := by decide +kernel
theorem dX13_stale_51 : decode cX13_stale 51 = .ok (.iload 5, 2) := by decide +kernel
theorem dX13_stale_53 : decode cX13_stale 53 = .ok (.iaload, 1) := by decide +kernel
theorem dX13_stale_54 : decode cX13_stale 54 = .ok (.bipush 16, 2) := by decide +kernel
theorem dX13_stale_56 : decode cX13_stale 56 = .ok (.if_icmp .ne 25, 3) := by decide +kernel
theorem dX13_stale_59 : decode cX13_stale 59 = .ok (.aload_n 0, 1) := by decide +kernel
theorem dX13_stale_60 : decode cX13_stale 60 = .ok (.iload 5, 2) := by decide +kernel
theorem dX13_stale_62 : decode cX13_stale 62 = .ok (.invokevirtual 1166, 3) := by decide +kernel
theorem dX13_stale_65 : decode cX13_stale 65 = .ok (.ifCond .eq 16, 3) := by decide +kernel
theorem dX13_stale_68 : decode cX13_stale 68 = .ok (.aload_n 0, 1) := by decide +kernel
theorem dX13_stale_69 : decode cX13_stale 69 = .ok (.iload 5, 2) := by decide +kernel
theorem dX13_stale_71 : decode cX13_stale 71 = .ok (.invokevirtual 1127, 3) := by decide +kernel
theorem dX13_stale_74 : decode cX13_stale 74 = .ok (.ifCond .eq 7, 3) := by decide +kernel
theorem dX13_stale_77 : decode cX13_stale 77 = .ok (.iconst 1, 1) := by decide +kernel
theorem dX13_stale_78 : decode cX13_stale 78 = .ok (.goto 4, 3) := by decide +kernel
theorem dX13_stale_81 : decode cX13_stale 81 = .ok (.iconst 0, 1) := by decide +kernel
theorem dX13_stale_82 : decode cX13_stale 82 = .ok (.iadd, 1) := by decide +kernel
theorem dX13_stale_83 : decode cX13_stale 83 = .ok (.istore_n 1, 1) := by decide +kernel
theorem dX13_stale_84 : decode cX13_stale 84 = .ok (.iinc 4 1, 3) := by decide +kernel
theorem dX13_stale_87 : decode cX13_stale 87 = .ok (.goto (-68), 3) := by decide +kernel
theorem dX13_stale_90 : decode cX13_stale 90 = .ok (.iinc 2 1, 3) := by decide +kernel
theorem dX13_stale_93 : decode cX13_stale 93 = .ok (.goto (-89), 3) := by decide +kernel
theorem dX13_stale_96 : decode cX13_stale 96 = .ok (.iload_n 1, 1) := by decide +kernel
theorem dX13_stale_97 : decode cX13_stale 97 = .ok (.ireturn, 1) := by decide +kernel
theorem dX13_choose_0 : decode cX13_choose 0 = .ok (.iconst 0, 1) := by decide +kernel
theorem dX13_choose_1 : decode cX13_choose 1 = .ok (.istore_n 1, 1) := by decide +kernel
theorem dX13_choose_2 : decode cX13_choose 2 = .ok (.iload_n 1, 1) := by decide +kernel
theorem dX13_choose_3 : decode cX13_choose 3 = .ok (.iconst 5, 1) := by decide +kernel
theorem dX13_choose_4 : decode cX13_choose 4 = .ok (.if_icmp .ge 35, 3) := by decide +kernel
theorem dX13_choose_7 : decode cX13_choose 7 = .ok (.aload_n 0, 1) := by decide +kernel
theorem dX13_choose_8 : decode cX13_choose 8 = .ok (.getfield 1186, 3) := by decide +kernel
theorem dX13_choose_11 : decode cX13_choose 11 = .ok (.iload_n 1, 1) := by decide +kernel
theorem dX13_choose_12 : decode cX13_choose 12 = .ok (.aload_n 0, 1) := by decide +kernel
theorem dX13_choose_13 : decode cX13_choose 13 = .ok (.getfield 535, 3) := by decide +kernel
theorem dX13_choose_16 : decode cX13_choose 16 = .ok (.iload_n 1, 1) := by decide +kernel
theorem dX13_choose_17 : decode cX13_choose 17 = .ok (.iaload, 1) := by decide +kernel
theorem dX13_choose_18 : decode cX13_choose 18 = .ok (.iastore, 1) := by decide +kernel
theorem dX13_choose_19 : decode cX13_choose 19 = .ok (.aload_n 0, 1) := by decide +kernel
theorem dX13_choose_20 : decode cX13_choose 20 = .ok (.getfield 1189, 3) := by decide +kernel
theorem dX13_choose_23 : decode cX13_choose 23 = .ok (.iload_n 1, 1) := by decide +kernel
theorem dX13_choose_24 : decode cX13_choose 24 = .ok (.aload_n 0, 1) := by decide +kernel
theorem dX13_choose_25 : decode cX13_choose 25 = .ok (.getfield 947, 3) := by decide +kernel
theorem dX13_choose_28 : decode cX13_choose 28 = .ok (.iload_n 1, 1) := by decide +kernel
theorem dX13_choose_29 : decode cX13_choose 29 = .ok (.iaload, 1) := by decide +kernel
theorem dX13_choose_30 : decode cX13_choose 30 = .ok (.iconst 1, 1) := by decide +kernel
theorem dX13_choose_31 : decode cX13_choose 31 = .ok (.isub, 1) := by decide +kernel
theorem dX13_choose_32 : decode cX13_choose 32 = .ok (.iastore, 1) := by decide +kernel
theorem dX13_choose_33 : decode cX13_choose 33 = .ok (.iinc 1 1, 3) := by decide +kernel
theorem dX13_choose_36 : decode cX13_choose 36 = .ok (.goto (-34), 3) := by decide +kernel
theorem dX13_choose_39 : decode cX13_choose 39 = .ok (.iconst 0, 1) := by decide +kernel
theorem dX13_choose_40 : decode cX13_choose 40 = .ok (.istore_n 1, 1) := by decide +kernel
theorem dX13_choose_41 : decode cX13_choose 41 = .ok (.iconst 1, 1) := by decide +kernel
theorem dX13_choose_42 : decode cX13_choose 42 = .ok (.istore_n 2, 1) := by decide +kernel
theorem dX13_choose_43 : decode cX13_choose 43 = .ok (.iload_n 2, 1) := by decide +kernel
theorem dX13_choose_44 : decode cX13_choose 44 = .ok (.ifCond .eq 134, 3) := by decide +kernel
theorem dX13_choose_47 : decode cX13_choose 47 = .ok (.iconst 0, 1) := by decide +kernel
theorem dX13_choose_48 : decode cX13_choose 48 = .ok (.istore_n 3, 1) := by decide +kernel
theorem dX13_choose_49 : decode cX13_choose 49 = .ok (.iload_n 3, 1) := by decide +kernel
theorem dX13_choose_50 : decode cX13_choose 50 = .ok (.iconst 5, 1) := by decide +kernel
theorem dX13_choose_51 : decode cX13_choose 51 = .ok (.if_icmp .ge 45, 3) := by decide +kernel
theorem dX13_choose_54 : decode cX13_choose 54 = .ok (.aload_n 0, 1) := by decide +kernel
theorem dX13_choose_55 : decode cX13_choose 55 = .ok (.getfield 535, 3) := by decide +kernel
theorem dX13_choose_58 : decode cX13_choose 58 = .ok (.iload_n 3, 1) := by decide +kernel
theorem dX13_choose_59 : decode cX13_choose 59 = .ok (.aload_n 0, 1) := by decide +kernel
theorem dX13_choose_60 : decode cX13_choose 60 = .ok (.getfield 1189, 3) := by decide +kernel
theorem dX13_choose_63 : decode cX13_choose 63 = .ok (.iload_n 3, 1) := by decide +kernel
theorem dX13_choose_64 : decode cX13_choose 64 = .ok (.iaload, 1) := by decide +kernel
theorem dX13_choose_65 : decode cX13_choose 65 = .ok (.ifCond .ge 8, 3) := by decide +kernel
theorem dX13_choose_68 : decode cX13_choose 68 = .ok (.bipush (-2), 2) := by decide +kernel
theorem dX13_choose_70 : decode cX13_choose 70 = .ok (.goto 19, 3) := by decide +kernel
theorem dX13_choose_73 : decode cX13_choose 73 = .ok (.aload_n 0, 1) := by decide +kernel
theorem dX13_choose_74 : decode cX13_choose 74 = .ok (.getfield 965, 3) := by decide +kernel
theorem dX13_choose_77 : decode cX13_choose 77 = .ok (.bipush 8, 2) := by decide +kernel
theorem dX13_choose_79 : decode cX13_choose 79 = .ok (.iload_n 3, 1) := by decide +kernel
theorem dX13_choose_80 : decode cX13_choose 80 = .ok (.imul, 1) := by decide +kernel
theorem dX13_choose_81 : decode cX13_choose 81 = .ok (.aload_n 0, 1) := by decide +kernel
theorem dX13_choose_82 : decode cX13_choose 82 = .ok (.getfield 1189, 3) := by decide +kernel
theorem dX13_choose_85 : decode cX13_choose 85 = .ok (.iload_n 3, 1) := by decide +kernel
theorem dX13_choose_86 : decode cX13_choose 86 = .ok (.iaload, 1) := by decide +kernel
theorem dX13_choose_87 : decode cX13_choose 87 = .ok (.iadd, 1) := by decide +kernel
theorem dX13_choose_88 : decode cX13_choose 88 = .ok (.iaload, 1) := by decide +kernel
theorem dX13_choose_89 : decode cX13_choose 89 = .ok (.iastore, 1) := by decide +kernel
theorem dX13_choose_90 : decode cX13_choose 90 = .ok (.iinc 3 1, 3) := by decide +kernel
theorem dX13_choose_93 : decode cX13_choose 93 = .ok (.goto (-44), 3) := by decide +kernel
theorem dX13_choose_96 : decode cX13_choose 96 = .ok (.aload_n 0, 1) := by decide +kernel
theorem dX13_choose_97 : decode cX13_choose 97 = .ok (.invokevirtual 1192, 3) := by decide +kernel
theorem dX13_choose_100 : decode cX13_choose 100 = .ok (.iinc 1 1, 3) := by decide +kernel
theorem dX13_choose_103 : decode cX13_choose 103 = .ok (.aload_n 0, 1) := by decide +kernel
theorem dX13_choose_104 : decode cX13_choose 104 = .ok (.invokevirtual 1195, 3) := by decide +kernel
theorem dX13_choose_107 : decode cX13_choose 107 = .ok (.ifCond .ne 9, 3) := by decide +kernel
theorem dX13_choose_110 : decode cX13_choose 110 = .ok (.aload_n 0, 1) := by decide +kernel
theorem dX13_choose_111 : decode cX13_choose 111 = .ok (.invokevirtual 998, 3) := by decide +kernel
theorem dX13_choose_114 : decode cX13_choose 114 = .ok (.iload_n 1, 1) := by decide +kernel
theorem dX13_choose_115 : decode cX13_choose 115 = .ok (.ireturn, 1) := by decide +kernel
theorem dX13_choose_116 : decode cX13_choose 116 = .ok (.iconst 4, 1) := by decide +kernel
theorem dX13_choose_117 : decode cX13_choose 117 = .ok (.istore_n 3, 1) := by decide +kernel
theorem dX13_choose_118 : decode cX13_choose 118 = .ok (.iload_n 3, 1) := by decide +kernel
theorem dX13_choose_119 : decode cX13_choose 119 = .ok (.ifCond .lt 32, 3) := by decide +kernel
theorem dX13_choose_122 : decode cX13_choose 122 = .ok (.aload_n 0, 1) := by decide +kernel
theorem dX13_choose_123 : decode cX13_choose 123 = .ok (.getfield 1189, 3) := by decide +kernel
theorem dX13_choose_126 : decode cX13_choose 126 = .ok (.iload_n 3, 1) := by decide +kernel
theorem dX13_choose_127 : decode cX13_choose 127 = .ok (.iaload, 1) := by decide +kernel
theorem dX13_choose_128 : decode cX13_choose 128 = .ok (.ifCond .gt 23, 3) := by decide +kernel
theorem dX13_choose_131 : decode cX13_choose 131 = .ok (.aload_n 0, 1) := by decide +kernel
theorem dX13_choose_132 : decode cX13_choose 132 = .ok (.getfield 1189, 3) := by decide +kernel
theorem dX13_choose_135 : decode cX13_choose 135 = .ok (.iload_n 3, 1) := by decide +kernel
theorem dX13_choose_136 : decode cX13_choose 136 = .ok (.aload_n 0, 1) := by decide +kernel
theorem dX13_choose_137 : decode cX13_choose 137 = .ok (.getfield 947, 3) := by decide +kernel
theorem dX13_choose_140 : decode cX13_choose 140 = .ok (.iload_n 3, 1) := by decide +kernel
theorem dX13_choose_141 : decode cX13_choose 141 = .ok (.iaload, 1) := by decide +kernel
theorem dX13_choose_142 : decode cX13_choose 142 = .ok (.iconst 1, 1) := by decide +kernel
theorem dX13_choose_143 : decode cX13_choose 143 = .ok (.isub, 1) := by decide +kernel
theorem dX13_choose_144 : decode cX13_choose 144 = .ok (.iastore, 1) := by decide +kernel
theorem dX13_choose_145 : decode cX13_choose 145 = .ok (.iinc 3 (-1), 3) := by decide +kernel
theorem dX13_choose_148 : decode cX13_choose 148 = .ok (.goto (-30), 3) := by decide +kernel
theorem dX13_choose_151 : decode cX13_choose 151 = .ok (.iload_n 3, 1) := by decide +kernel
theorem dX13_choose_152 : decode cX13_choose 152 = .ok (.ifCond .lt 7, 3) := by decide +kernel
theorem dX13_choose_155 : decode cX13_choose 155 = .ok (.iconst 1, 1) := by decide +kernel
theorem dX13_choose_156 : decode cX13_choose 156 = .ok (.goto 4, 3) := by decide +kernel
theorem dX13_choose_159 : decode cX13_choose 159 = .ok (.iconst 0, 1) := by decide +kernel
theorem dX13_choose_160 : decode cX13_choose 160 = .ok (.istore_n 2, 1) := by decide +kernel
theorem dX13_choose_161 : decode cX13_choose 161 = .ok (.iload_n 2, 1) := by decide +kernel
theorem dX13_choose_162 : decode cX13_choose 162 = .ok (.ifCond .eq 13, 3) := by decide +kernel
theorem dX13_choose_165 : decode cX13_choose 165 = .ok (.aload_n 0, 1) := by decide +kernel
theorem dX13_choose_166 : decode cX13_choose 166 = .ok (.getfield 1189, 3) := by decide +kernel
theorem dX13_choose_169 : decode cX13_choose 169 = .ok (.iload_n 3, 1) := by decide +kernel
theorem dX13_choose_170 : decode cX13_choose 170 = .ok (.dup2, 1) := by decide +kernel
theorem dX13_choose_171 : decode cX13_choose 171 = .ok (.iaload, 1) := by decide +kernel
theorem dX13_choose_172 : decode cX13_choose 172 = .ok (.iconst 1, 1) := by decide +kernel
theorem dX13_choose_173 : decode cX13_choose 173 = .ok (.isub, 1) := by decide +kernel
theorem dX13_choose_174 : decode cX13_choose 174 = .ok (.iastore, 1) := by decide +kernel
theorem dX13_choose_175 : decode cX13_choose 175 = .ok (.goto (-132), 3) := by decide +kernel
theorem dX13_choose_178 : decode cX13_choose 178 = .ok (.iconst 0, 1) := by decide +kernel
theorem dX13_choose_179 : decode cX13_choose 179 = .ok (.istore_n 3, 1) := by decide +kernel
theorem dX13_choose_180 : decode cX13_choose 180 = .ok (.iload_n 3, 1) := by decide +kernel
theorem dX13_choose_181 : decode cX13_choose 181 = .ok (.iconst 5, 1) := by decide +kernel
theorem dX13_choose_182 : decode cX13_choose 182 = .ok (.if_icmp .ge 21, 3) := by decide +kernel
theorem dX13_choose_185 : decode cX13_choose 185 = .ok (.aload_n 0, 1) := by decide +kernel
theorem dX13_choose_186 : decode cX13_choose 186 = .ok (.getfield 535, 3) := by decide +kernel
theorem dX13_choose_189 : decode cX13_choose 189 = .ok (.iload_n 3, 1) := by decide +kernel
theorem dX13_choose_190 : decode cX13_choose 190 = .ok (.aload_n 0, 1) := by decide +kernel
theorem dX13_choose_191 : decode cX13_choose 191 = .ok (.getfield 1186, 3) := by decide +kernel
theorem dX13_choose_194 : decode cX13_choose 194 = .ok (.iload_n 3, 1) := by decide +kernel
theorem dX13_choose_195 : decode cX13_choose 195 = .ok (.iaload, 1) := by decide +kernel
theorem dX13_choose_196 : decode cX13_choose 196 = .ok (.iastore, 1) := by decide +kernel
theorem dX13_choose_197 : decode cX13_choose 197 = .ok (.iinc 3 1, 3) := by decide +kernel
theorem dX13_choose_200 : decode cX13_choose 200 = .ok (.goto (-20), 3) := by decide +kernel
theorem dX13_choose_203 : decode cX13_choose 203 = .ok (.aload_n 0, 1) := by decide +kernel
theorem dX13_choose_204 : decode cX13_choose 204 = .ok (.invokevirtual 1192, 3) := by decide +kernel
theorem dX13_choose_207 : decode cX13_choose 207 = .ok (.bipush (-2), 2) := by decide +kernel
theorem dX13_choose_209 : decode cX13_choose 209 = .ok (.ireturn, 1) := by decide +kernel
theorem dX13_settle_0 : decode cX13_settle 0 = .ok (.aload_n 0, 1) := by decide +kernel
theorem dX13_settle_1 : decode cX13_settle 1 = .ok (.invokevirtual 1192, 3) := by decide +kernel
theorem dX13_settle_4 : decode cX13_settle 4 = .ok (.aload_n 0, 1) := by decide +kernel
theorem dX13_settle_5 : decode cX13_settle 5 = .ok (.iconst 0, 1) := by decide +kernel
theorem dX13_settle_6 : decode cX13_settle 6 = .ok (.putfield 1180, 3) := by decide +kernel
theorem dX13_settle_9 : decode cX13_settle 9 = .ok (.aload_n 0, 1) := by decide +kernel
theorem dX13_settle_10 : decode cX13_settle 10 = .ok (.iconst 0, 1) := by decide +kernel
theorem dX13_settle_11 : decode cX13_settle 11 = .ok (.invokevirtual 1163, 3) := by decide +kernel
theorem dX13_settle_14 : decode cX13_settle 14 = .ok (.aload_n 0, 1) := by decide +kernel
theorem dX13_settle_15 : decode cX13_settle 15 = .ok (.iconst 0, 1) := by decide +kernel
theorem dX13_settle_16 : decode cX13_settle 16 = .ok (.putfield 1086, 3) := by decide +kernel
theorem dX13_settle_19 : decode cX13_settle 19 = .ok (.aload_n 0, 1) := by decide +kernel
theorem dX13_settle_20 : decode cX13_settle 20 = .ok (.iconst 0, 1) := by decide +kernel
theorem dX13_settle_21 : decode cX13_settle 21 = .ok (.putfield 1198, 3) := by decide +kernel
theorem dX13_settle_24 : decode cX13_settle 24 = .ok (.aload_n 0, 1) := by decide +kernel
theorem dX13_settle_25 : decode cX13_settle 25 = .ok (.iconst 0, 1) := by decide +kernel
theorem dX13_settle_26 : decode cX13_settle 26 = .ok (.putfield 1201, 3) := by decide +kernel
theorem dX13_settle_29 : decode cX13_settle 29 = .ok (.iconst 0, 1) := by decide +kernel
theorem dX13_settle_30 : decode cX13_settle 30 = .ok (.istore_n 1, 1) := by decide +kernel
theorem dX13_settle_31 : decode cX13_settle 31 = .ok (.iload_n 1, 1) := by decide +kernel
theorem dX13_settle_32 : decode cX13_settle 32 = .ok (.sipush 7344, 3) := by decide +kernel
theorem dX13_settle_35 : decode cX13_settle 35 = .ok (.if_icmp .ge 16, 3) := by decide +kernel
theorem dX13_settle_38 : decode cX13_settle 38 = .ok (.aload_n 0, 1) := by decide +kernel
theorem dX13_settle_39 : decode cX13_settle 39 = .ok (.getfield 1204, 3) := by decide +kernel
theorem dX13_settle_42 : decode cX13_settle 42 = .ok (.iload_n 1, 1) := by decide +kernel
theorem dX13_settle_43 : decode cX13_settle 43 = .ok (.iconst 0, 1) := by decide +kernel
theorem dX13_settle_44 : decode cX13_settle 44 = .ok (.iastore, 1) := by decide +kernel
theorem dX13_settle_45 : decode cX13_settle 45 = .ok (.iinc 1 1, 3) := by decide +kernel
theorem dX13_settle_48 : decode cX13_settle 48 = .ok (.goto (-17), 3) := by decide +kernel
theorem dX13_settle_51 : decode cX13_settle 51 = .ok (.return_, 1) := by decide +kernel
theorem dX13_fresh_0 : decode cX13_fresh 0 = .ok (.iconst 0, 1) := by decide +kernel
theorem dX13_fresh_1 : decode cX13_fresh 1 = .ok (.istore_n 1, 1) := by decide +kernel
theorem dX13_fresh_2 : decode cX13_fresh 2 = .ok (.iconst 2, 1) := by decide +kernel
theorem dX13_fresh_3 : decode cX13_fresh 3 = .ok (.istore_n 2, 1) := by decide +kernel
theorem dX13_fresh_4 : decode cX13_fresh 4 = .ok (.iload_n 2, 1) := by decide +kernel
theorem dX13_fresh_5 : decode cX13_fresh 5 = .ok (.aload_n 0, 1) := by decide +kernel
theorem dX13_fresh_6 : decode cX13_fresh 6 = .ok (.getfield 1071, 3) := by decide +kernel
theorem dX13_fresh_9 : decode cX13_fresh 9 = .ok (.if_icmp .ge 33, 3) := by decide +kernel
theorem dX13_fresh_12 : decode cX13_fresh 12 = .ok (.aload_n 0, 1) := by decide +kernel
theorem dX13_fresh_13 : decode cX13_fresh 13 = .ok (.getfield 1089, 3) := by decide +kernel
theorem dX13_fresh_16 : decode cX13_fresh 16 = .ok (.iload_n 2, 1) := by decide +kernel
theorem dX13_fresh_17 : decode cX13_fresh 17 = .ok (.iaload, 1) := by decide +kernel
theorem dX13_fresh_18 : decode cX13_fresh 18 = .ok (.istore_n 3, 1) := by decide +kernel
theorem dX13_fresh_19 : decode cX13_fresh 19 = .ok (.iload_n 1, 1) := by decide +kernel
theorem dX13_fresh_20 : decode cX13_fresh 20 = .ok (.iload_n 3, 1) := by decide +kernel
theorem dX13_fresh_21 : decode cX13_fresh 21 = .ok (.ifCond .eq 12, 3) := by decide +kernel
theorem dX13_fresh_24 : decode cX13_fresh 24 = .ok (.iload_n 3, 1) := by decide +kernel
theorem dX13_fresh_25 : decode cX13_fresh 25 = .ok (.iconst 5, 1) := by decide +kernel
theorem dX13_fresh_26 : decode cX13_fresh 26 = .ok (.if_icmp .eq 7, 3) := by decide +kernel
theorem dX13_fresh_29 : decode cX13_fresh 29 = .ok (.iconst 1, 1) := by decide +kernel
theorem dX13_fresh_30 : decode cX13_fresh 30 = .ok (.goto 4, 3) := by decide +kernel
theorem dX13_fresh_33 : decode cX13_fresh 33 = .ok (.iconst 0, 1) := by decide +kernel
theorem dX13_fresh_34 : decode cX13_fresh 34 = .ok (.iadd, 1) := by decide +kernel
theorem dX13_fresh_35 : decode cX13_fresh 35 = .ok (.istore_n 1, 1) := by decide +kernel
theorem dX13_fresh_36 : decode cX13_fresh 36 = .ok (.iinc 2 1, 3) := by decide +kernel
theorem dX13_fresh_39 : decode cX13_fresh 39 = .ok (.goto (-35), 3) := by decide +kernel
theorem dX13_fresh_42 : decode cX13_fresh 42 = .ok (.aload_n 0, 1) := by decide +kernel
theorem dX13_fresh_43 : decode cX13_fresh 43 = .ok (.getfield 1180, 3) := by decide +kernel
theorem dX13_fresh_46 : decode cX13_fresh 46 = .ok (.istore_n 2, 1) := by decide +kernel
theorem dX13_fresh_47 : decode cX13_fresh 47 = .ok (.aload_n 0, 1) := by decide +kernel
theorem dX13_fresh_48 : decode cX13_fresh 48 = .ok (.invokevirtual 998, 3) := by decide +kernel
theorem dX13_fresh_51 : decode cX13_fresh 51 = .ok (.aload_n 0, 1) := by decide +kernel
theorem dX13_fresh_52 : decode cX13_fresh 52 = .ok (.iload_n 2, 1) := by decide +kernel
theorem dX13_fresh_53 : decode cX13_fresh 53 = .ok (.putfield 1180, 3) := by decide +kernel
theorem dX13_fresh_56 : decode cX13_fresh 56 = .ok (.iload_n 1, 1) := by decide +kernel
theorem dX13_fresh_57 : decode cX13_fresh 57 = .ok (.ireturn, 1) := by decide +kernel
theorem dX13_touch_0 : decode cX13_touch 0 = .ok (.aload_n 0, 1) := by decide +kernel
theorem dX13_touch_1 : decode cX13_touch 1 = .ok (.iload_n 1, 1) := by decide +kernel
theorem dX13_touch_2 : decode cX13_touch 2 = .ok (.iload_n 2, 1) := by decide +kernel
theorem dX13_touch_3 : decode cX13_touch 3 = .ok (.iload_n 3, 1) := by decide +kernel
theorem dX13_touch_4 : decode cX13_touch 4 = .ok (.invokevirtual 1062, 3) := by decide +kernel
theorem dX13_touch_7 : decode cX13_touch 7 = .ok (.istore 4, 2) := by decide +kernel
theorem dX13_touch_9 : decode cX13_touch 9 = .ok (.iload 4, 2) := by decide +kernel
theorem dX13_touch_11 : decode cX13_touch 11 = .ok (.bipush (-2), 2) := by decide +kernel
theorem dX13_touch_13 : decode cX13_touch 13 = .ok (.if_icmp .ne 7, 3) := by decide +kernel
theorem dX13_touch_16 : decode cX13_touch 16 = .ok (.iconst (-1), 1) := by decide +kernel
theorem dX13_touch_17 : decode cX13_touch 17 = .ok (.goto 24, 3) := by decide +kernel
theorem dX13_touch_20 : decode cX13_touch 20 = .ok (.aload_n 0, 1) := by decide +kernel
theorem dX13_touch_21 : decode cX13_touch 21 = .ok (.iload 4, 2) := by decide +kernel
theorem dX13_touch_23 : decode cX13_touch 23 = .ok (.invokevirtual 1166, 3) := by decide +kernel
theorem dX13_touch_26 : decode cX13_touch 26 = .ok (.ifCond .ne 8, 3) := by decide +kernel
theorem dX13_touch_29 : decode cX13_touch 29 = .ok (.bipush (-2), 2) := by decide +kernel
theorem dX13_touch_31 : decode cX13_touch 31 = .ok (.goto 10, 3) := by decide +kernel
theorem dX13_touch_34 : decode cX13_touch 34 = .ok (.aload_n 0, 1) := by decide +kernel
theorem dX13_touch_35 : decode cX13_touch 35 = .ok (.iload 4, 2) := by decide +kernel
theorem dX13_touch_37 : decode cX13_touch 37 = .ok (.iconst 0, 1) := by decide +kernel
theorem dX13_touch_38 : decode cX13_touch 38 = .ok (.invokevirtual 1116, 3) := by decide +kernel
theorem dX13_touch_41 : decode cX13_touch 41 = .ok (.ireturn, 1) := by decide +kernel
theorem dX13_fail_0 : decode cX13_fail 0 = .ok (.aload_n 0, 1) := by decide +kernel
theorem dX13_fail_1 : decode cX13_fail 1 = .ok (.iconst 3, 1) := by decide +kernel
theorem dX13_fail_2 : decode cX13_fail 2 = .ok (.putfield 1207, 3) := by decide +kernel
theorem dX13_fail_5 : decode cX13_fail 5 = .ok (.aload_n 0, 1) := by decide +kernel
theorem dX13_fail_6 : decode cX13_fail 6 = .ok (.iload_n 1, 1) := by decide +kernel
theorem dX13_fail_7 : decode cX13_fail 7 = .ok (.putfield 1210, 3) := by decide +kernel
theorem dX13_fail_10 : decode cX13_fail 10 = .ok (.iconst 0, 1) := by decide +kernel
theorem dX13_fail_11 : decode cX13_fail 11 = .ok (.ireturn, 1) := by decide +kernel
theorem dX13_asks_0 : decode cX13_asks 0 = .ok (.aload_n 0, 1) := by decide +kernel
theorem dX13_asks_1 : decode cX13_asks 1 = .ok (.iload_n 1, 1) := by decide +kernel
theorem dX13_asks_2 : decode cX13_asks 2 = .ok (.iconst 0, 1) := by decide +kernel
theorem dX13_asks_3 : decode cX13_asks 3 = .ok (.invokevirtual 1116, 3) := by decide +kernel
theorem dX13_asks_6 : decode cX13_asks 6 = .ok (.istore_n 2, 1) := by decide +kernel
theorem dX13_asks_7 : decode cX13_asks 7 = .ok (.iload_n 2, 1) := by decide +kernel
theorem dX13_asks_8 : decode cX13_asks 8 = .ok (.ifCond .eq 9, 3) := by decide +kernel
theorem dX13_asks_11 : decode cX13_asks 11 = .ok (.aload_n 0, 1) := by decide +kernel
theorem dX13_asks_12 : decode cX13_asks 12 = .ok (.iload_n 2, 1) := by decide +kernel
theorem dX13_asks_13 : decode cX13_asks 13 = .ok (.invokevirtual 1213, 3) := by decide +kernel
theorem dX13_asks_16 : decode cX13_asks 16 = .ok (.pop, 1) := by decide +kernel
theorem dX13_asks_17 : decode cX13_asks 17 = .ok (.iload_n 2, 1) := by decide +kernel
theorem dX13_asks_18 : decode cX13_asks 18 = .ok (.ifCond .ne 7, 3) := by decide +kernel
theorem dX13_asks_21 : decode cX13_asks 21 = .ok (.iconst 1, 1) := by decide +kernel
theorem dX13_asks_22 : decode cX13_asks 22 = .ok (.goto 4, 3) := by decide +kernel
theorem dX13_asks_25 : decode cX13_asks 25 = .ok (.iconst 0, 1) := by decide +kernel
theorem dX13_asks_26 : decode cX13_asks 26 = .ok (.ireturn, 1) := by decide +kernel
theorem dX13_isMade_0 : decode cX13_isMade 0 = .ok (.aload_n 0, 1) := by decide +kernel
theorem dX13_isMade_1 : decode cX13_isMade 1 = .ok (.getfield 1216, 3) := by decide +kernel
theorem dX13_isMade_4 : decode cX13_isMade 4 = .ok (.iload_n 1, 1) := by decide +kernel
theorem dX13_isMade_5 : decode cX13_isMade 5 = .ok (.iaload, 1) := by decide +kernel
theorem dX13_isMade_6 : decode cX13_isMade 6 = .ok (.iload_n 2, 1) := by decide +kernel
theorem dX13_isMade_7 : decode cX13_isMade 7 = .ok (.if_icmp .eq 17, 3) := by decide +kernel
theorem dX13_isMade_10 : decode cX13_isMade 10 = .ok (.aload_n 0, 1) := by decide +kernel
theorem dX13_isMade_11 : decode cX13_isMade 11 = .ok (.aload_n 0, 1) := by decide +kernel
theorem dX13_isMade_12 : decode cX13_isMade 12 = .ok (.getfield 1216, 3) := by decide +kernel
theorem dX13_isMade_15 : decode cX13_isMade 15 = .ok (.iload_n 1, 1) := by decide +kernel
theorem dX13_isMade_16 : decode cX13_isMade 16 = .ok (.iaload, 1) := by decide +kernel
theorem dX13_isMade_17 : decode cX13_isMade 17 = .ok (.iload_n 2, 1) := by decide +kernel
theorem dX13_isMade_18 : decode cX13_isMade 18 = .ok (.invokevirtual 581, 3) := by decide +kernel
theorem dX13_isMade_21 : decode cX13_isMade 21 = .ok (.ifCond .eq 7, 3) := by decide +kernel
theorem dX13_isMade_24 : decode cX13_isMade 24 = .ok (.iconst 1, 1) := by decide +kernel
theorem dX13_isMade_25 : decode cX13_isMade 25 = .ok (.goto 4, 3) := by decide +kernel
theorem dX13_isMade_28 : decode cX13_isMade 28 = .ok (.iconst 0, 1) := by decide +kernel
theorem dX13_isMade_29 : decode cX13_isMade 29 = .ok (.ireturn, 1) := by decide +kernel
theorem dX13_hasBody_0 : decode cX13_hasBody 0 = .ok (.iconst 0, 1) := by decide +kernel
theorem dX13_hasBody_1 : decode cX13_hasBody 1 = .ok (.istore_n 2, 1) := by decide +kernel
theorem dX13_hasBody_2 : decode cX13_hasBody 2 = .ok (.iload_n 2, 1) := by decide +kernel
theorem dX13_hasBody_3 : decode cX13_hasBody 3 = .ok (.aload_n 0, 1) := by decide +kernel
theorem dX13_hasBody_4 : decode cX13_hasBody 4 = .ok (.getfield 275, 3) := by decide +kernel
theorem dX13_hasBody_7 : decode cX13_hasBody 7 = .ok (.iload_n 1, 1) := by decide +kernel
theorem dX13_hasBody_8 : decode cX13_hasBody 8 = .ok (.iaload, 1) := by decide +kernel
theorem dX13_hasBody_9 : decode cX13_hasBody 9 = .ok (.if_icmp .ge 46, 3) := by decide +kernel
theorem dX13_hasBody_12 : decode cX13_hasBody 12 = .ok (.iload_n 1, 1) := by decide +kernel
theorem dX13_hasBody_13 : decode cX13_hasBody 13 = .ok (.bipush 34, 2) := by decide +kernel
theorem dX13_hasBody_15 : decode cX13_hasBody 15 = .ok (.imul, 1) := by decide +kernel
theorem dX13_hasBody_16 : decode cX13_hasBody 16 = .ok (.iload_n 2, 1) := by decide +kernel
theorem dX13_hasBody_17 : decode cX13_hasBody 17 = .ok (.iadd, 1) := by decide +kernel
theorem dX13_hasBody_18 : decode cX13_hasBody 18 = .ok (.istore_n 3, 1) := by decide +kernel
theorem dX13_hasBody_19 : decode cX13_hasBody 19 = .ok (.aload_n 0, 1) := by decide +kernel
theorem dX13_hasBody_20 : decode cX13_hasBody 20 = .ok (.getfield 402, 3) := by decide +kernel
theorem dX13_hasBody_23 : decode cX13_hasBody 23 = .ok (.iload_n 3, 1) := by decide +kernel
theorem dX13_hasBody_24 : decode cX13_hasBody 24 = .ok (.iaload, 1) := by decide +kernel
theorem dX13_hasBody_25 : decode cX13_hasBody 25 = .ok (.iconst 1, 1) := by decide +kernel
theorem dX13_hasBody_26 : decode cX13_hasBody 26 = .ok (.if_icmp .ne 23, 3) := by decide +kernel
theorem dX13_hasBody_29 : decode cX13_hasBody 29 = .ok (.aload_n 0, 1) := by decide +kernel
theorem dX13_hasBody_30 : decode cX13_hasBody 30 = .ok (.getfield 436, 3) := by decide +kernel
theorem dX13_hasBody_33 : decode cX13_hasBody 33 = .ok (.iload_n 3, 1) := by decide +kernel
theorem dX13_hasBody_34 : decode cX13_hasBody 34 = .ok (.baload, 1) := by decide +kernel
theorem dX13_hasBody_35 : decode cX13_hasBody 35 = .ok (.ifCond .ne 14, 3) := by decide +kernel
theorem dX13_hasBody_38 : decode cX13_hasBody 38 = .ok (.aload_n 0, 1) := by decide +kernel
theorem dX13_hasBody_39 : decode cX13_hasBody 39 = .ok (.getfield 341, 3) := by decide +kernel
theorem dX13_hasBody_42 : decode cX13_hasBody 42 = .ok (.iload_n 3, 1) := by decide +kernel
theorem dX13_hasBody_43 : decode cX13_hasBody 43 = .ok (.baload, 1) := by decide +kernel
theorem dX13_hasBody_44 : decode cX13_hasBody 44 = .ok (.ifCond .ne 5, 3) := by decide +kernel
theorem dX13_hasBody_47 : decode cX13_hasBody 47 = .ok (.iconst 1, 1) := by decide +kernel
theorem dX13_hasBody_48 : decode cX13_hasBody 48 = .ok (.ireturn, 1) := by decide +kernel
theorem dX13_hasBody_49 : decode cX13_hasBody 49 = .ok (.iinc 2 1, 3) := by decide +kernel
theorem dX13_hasBody_52 : decode cX13_hasBody 52 = .ok (.goto (-50), 3) := by decide +kernel
theorem dX13_hasBody_55 : decode cX13_hasBody 55 = .ok (.iconst 0, 1) := by decide +kernel
theorem dX13_hasBody_56 : decode cX13_hasBody 56 = .ok (.ireturn, 1) := by decide +kernel
theorem dX13_start_0 : decode cX13_start 0 = .ok (.aload_n 0, 1) := by decide +kernel
theorem dX13_start_1 : decode cX13_start 1 = .ok (.iload_n 1, 1) := by decide +kernel
theorem dX13_start_2 : decode cX13_start 2 = .ok (.invokevirtual 1098, 3) := by decide +kernel
theorem dX13_start_5 : decode cX13_start 5 = .ok (.istore_n 2, 1) := by decide +kernel
theorem dX13_start_6 : decode cX13_start 6 = .ok (.iload_n 2, 1) := by decide +kernel
theorem dX13_start_7 : decode cX13_start 7 = .ok (.iconst 4, 1) := by decide +kernel
theorem dX13_start_8 : decode cX13_start 8 = .ok (.if_icmp .eq 8, 3) := by decide +kernel
theorem dX13_start_11 : decode cX13_start 11 = .ok (.iload_n 2, 1) := by decide +kernel
theorem dX13_start_12 : decode cX13_start 12 = .ok (.iconst 3, 1) := by decide +kernel
theorem dX13_start_13 : decode cX13_start 13 = .ok (.if_icmp .ne 4, 3) := by decide +kernel
theorem dX13_start_16 : decode cX13_start 16 = .ok (.return_, 1) := by decide +kernel
theorem dX13_start_17 : decode cX13_start 17 = .ok (.iload_n 2, 1) := by decide +kernel
theorem dX13_start_18 : decode cX13_start 18 = .ok (.bipush 7, 2) := by decide +kernel
theorem dX13_start_20 : decode cX13_start 20 = .ok (.if_icmp .ne 11, 3) := by decide +kernel
theorem dX13_start_23 : decode cX13_start 23 = .ok (.aload_n 0, 1) := by decide +kernel
theorem dX13_start_24 : decode cX13_start 24 = .ok (.bipush 9, 2) := by decide +kernel
theorem dX13_start_26 : decode cX13_start 26 = .ok (.invokevirtual 1213, 3) := by decide +kernel
theorem dX13_start_29 : decode cX13_start 29 = .ok (.pop, 1) := by decide +kernel
theorem dX13_start_30 : decode cX13_start 30 = .ok (.return_, 1) := by decide +kernel
theorem dX13_start_31 : decode cX13_start 31 = .ok (.aload_n 0, 1) := by decide +kernel
theorem dX13_start_32 : decode cX13_start 32 = .ok (.getfield 1219, 3) := by decide +kernel
theorem dX13_start_35 : decode cX13_start 35 = .ok (.bipush 24, 2) := by decide +kernel
theorem dX13_start_37 : decode cX13_start 37 = .ok (.if_icmp .ne 11, 3) := by decide +kernel
theorem dX13_start_40 : decode cX13_start 40 = .ok (.aload_n 0, 1) := by decide +kernel
theorem dX13_start_41 : decode cX13_start 41 = .ok (.bipush 15, 2) := by decide +kernel
theorem dX13_start_43 : decode cX13_start 43 = .ok (.invokevirtual 1213, 3) := by decide +kernel
theorem dX13_start_46 : decode cX13_start 46 = .ok (.pop, 1) := by decide +kernel
theorem dX13_start_47 : decode cX13_start 47 = .ok (.return_, 1) := by decide +kernel
theorem dX13_start_48 : decode cX13_start 48 = .ok (.aload_n 0, 1) := by decide +kernel
theorem dX13_start_49 : decode cX13_start 49 = .ok (.iload_n 1, 1) := by decide +kernel
theorem dX13_start_50 : decode cX13_start 50 = .ok (.invokevirtual 1110, 3) := by decide +kernel
theorem dX13_start_53 : decode cX13_start 53 = .ok (.istore_n 3, 1) := by decide +kernel
theorem dX13_start_54 : decode cX13_start 54 = .ok (.iload_n 3, 1) := by decide +kernel
theorem dX13_start_55 : decode cX13_start 55 = .ok (.ifCond .eq 10, 3) := by decide +kernel
theorem dX13_start_58 : decode cX13_start 58 = .ok (.aload_n 0, 1) := by decide +kernel
theorem dX13_start_59 : decode cX13_start 59 = .ok (.iload_n 3, 1) := by decide +kernel
theorem dX13_start_60 : decode cX13_start 60 = .ok (.invokevirtual 1213, 3) := by decide +kernel
theorem dX13_start_63 : decode cX13_start 63 = .ok (.pop, 1) := by decide +kernel
theorem dX13_start_64 : decode cX13_start 64 = .ok (.return_, 1) := by decide +kernel
theorem dX13_start_65 : decode cX13_start 65 = .ok (.aload_n 0, 1) := by decide +kernel
theorem dX13_start_66 : decode cX13_start 66 = .ok (.iload_n 1, 1) := by decide +kernel
theorem dX13_start_67 : decode cX13_start 67 = .ok (.iconst 3, 1) := by decide +kernel
theorem dX13_start_68 : decode cX13_start 68 = .ok (.iconst 0, 1) := by decide +kernel
theorem dX13_start_69 : decode cX13_start 69 = .ok (.invokevirtual 1101, 3) := by decide +kernel
theorem dX13_start_72 : decode cX13_start 72 = .ok (.aload_n 0, 1) := by decide +kernel
theorem dX13_start_73 : decode cX13_start 73 = .ok (.dup, 1) := by decide +kernel
theorem dX13_start_74 : decode cX13_start 74 = .ok (.getfield 1219, 3) := by decide +kernel
theorem dX13_start_77 : decode cX13_start 77 = .ok (.iconst 1, 1) := by decide +kernel
theorem dX13_start_78 : decode cX13_start 78 = .ok (.iadd, 1) := by decide +kernel
theorem dX13_start_79 : decode cX13_start 79 = .ok (.putfield 1219, 3) := by decide +kernel
theorem dX13_start_82 : decode cX13_start 82 = .ok (.aload_n 0, 1) := by decide +kernel
theorem dX13_start_83 : decode cX13_start 83 = .ok (.iload_n 1, 1) := by decide +kernel
theorem dX13_start_84 : decode cX13_start 84 = .ok (.invokevirtual 558, 3) := by decide +kernel
theorem dX13_start_87 : decode cX13_start 87 = .ok (.bipush (-2), 2) := by decide +kernel
theorem dX13_start_89 : decode cX13_start 89 = .ok (.if_icmp .eq 12, 3) := by decide +kernel
theorem dX13_start_92 : decode cX13_start 92 = .ok (.aload_n 0, 1) := by decide +kernel
theorem dX13_start_93 : decode cX13_start 93 = .ok (.aload_n 0, 1) := by decide +kernel
theorem dX13_start_94 : decode cX13_start 94 = .ok (.iload_n 1, 1) := by decide +kernel
theorem dX13_start_95 : decode cX13_start 95 = .ok (.invokevirtual 558, 3) := by decide +kernel
theorem dX13_start_98 : decode cX13_start 98 = .ok (.invokevirtual 1222, 3) := by decide +kernel
theorem dX13_start_101 : decode cX13_start 101 = .ok (.aload_n 0, 1) := by decide +kernel
theorem dX13_start_102 : decode cX13_start 102 = .ok (.iload_n 1, 1) := by decide +kernel
theorem dX13_start_103 : decode cX13_start 103 = .ok (.invokevirtual 548, 3) := by decide +kernel
theorem dX13_start_106 : decode cX13_start 106 = .ok (.ifCond .ne 8, 3) := by decide +kernel
theorem dX13_start_109 : decode cX13_start 109 = .ok (.aload_n 0, 1) := by decide +kernel
theorem dX13_start_110 : decode cX13_start 110 = .ok (.iload_n 1, 1) := by decide +kernel
theorem dX13_start_111 : decode cX13_start 111 = .ok (.invokevirtual 1224, 3) := by decide +kernel
theorem dX13_start_114 : decode cX13_start 114 = .ok (.aload_n 0, 1) := by decide +kernel
theorem dX13_start_115 : decode cX13_start 115 = .ok (.getfield 1207, 3) := by decide +kernel
theorem dX13_start_118 : decode cX13_start 118 = .ok (.ifCond .ne 8, 3) := by decide +kernel
theorem dX13_start_121 : decode cX13_start 121 = .ok (.aload_n 0, 1) := by decide +kernel
theorem dX13_start_122 : decode cX13_start 122 = .ok (.iload_n 1, 1) := by decide +kernel
theorem dX13_start_123 : decode cX13_start 123 = .ok (.invokevirtual 1227, 3) := by decide +kernel
theorem dX13_start_126 : decode cX13_start 126 = .ok (.aload_n 0, 1) := by decide +kernel
theorem dX13_start_127 : decode cX13_start 127 = .ok (.dup, 1) := by decide +kernel
theorem dX13_start_128 : decode cX13_start 128 = .ok (.getfield 1219, 3) := by decide +kernel
theorem dX13_start_131 : decode cX13_start 131 = .ok (.iconst 1, 1) := by decide +kernel
theorem dX13_start_132 : decode cX13_start 132 = .ok (.isub, 1) := by decide +kernel
theorem dX13_start_133 : decode cX13_start 133 = .ok (.putfield 1219, 3) := by decide +kernel
theorem dX13_start_136 : decode cX13_start 136 = .ok (.aload_n 0, 1) := by decide +kernel
theorem dX13_start_137 : decode cX13_start 137 = .ok (.getfield 1207, 3) := by decide +kernel
theorem dX13_start_140 : decode cX13_start 140 = .ok (.iconst 2, 1) := by decide +kernel
theorem dX13_start_141 : decode cX13_start 141 = .ok (.if_icmp .ne 10, 3) := by decide +kernel
theorem dX13_start_144 : decode cX13_start 144 = .ok (.aload_n 0, 1) := by decide +kernel
theorem dX13_start_145 : decode cX13_start 145 = .ok (.bipush 8, 2) := by decide +kernel
theorem dX13_start_147 : decode cX13_start 147 = .ok (.invokevirtual 1213, 3) := by decide +kernel
theorem dX13_start_150 : decode cX13_start 150 = .ok (.pop, 1) := by decide +kernel
theorem dX13_start_151 : decode cX13_start 151 = .ok (.aload_n 0, 1) := by decide +kernel
theorem dX13_start_152 : decode cX13_start 152 = .ok (.iload_n 1, 1) := by decide +kernel
theorem dX13_start_153 : decode cX13_start 153 = .ok (.aload_n 0, 1) := by decide +kernel
theorem dX13_start_154 : decode cX13_start 154 = .ok (.getfield 1207, 3) := by decide +kernel
theorem dX13_start_157 : decode cX13_start 157 = .ok (.ifCond .ne 7, 3) := by decide +kernel
theorem dX13_start_160 : decode cX13_start 160 = .ok (.iconst 4, 1) := by decide +kernel
theorem dX13_start_161 : decode cX13_start 161 = .ok (.goto 5, 3) := by decide +kernel
theorem dX13_start_164 : decode cX13_start 164 = .ok (.bipush 7, 2) := by decide +kernel
theorem dX13_start_166 : decode cX13_start 166 = .ok (.aload_n 0, 1) := by decide +kernel
theorem dX13_start_167 : decode cX13_start 167 = .ok (.getfield 1207, 3) := by decide +kernel
theorem dX13_start_170 : decode cX13_start 170 = .ok (.ifCond .ne 7, 3) := by decide +kernel
theorem dX13_start_173 : decode cX13_start 173 = .ok (.iconst 0, 1) := by decide +kernel
theorem dX13_start_174 : decode cX13_start 174 = .ok (.goto 5, 3) := by decide +kernel
theorem dX13_start_177 : decode cX13_start 177 = .ok (.bipush 9, 2) := by decide +kernel
theorem dX13_start_179 : decode cX13_start 179 = .ok (.invokevirtual 1101, 3) := by decide +kernel
theorem dX13_start_182 : decode cX13_start 182 = .ok (.return_, 1) := by decide +kernel
theorem dX13_startFaces_0 : decode cX13_startFaces 0 = .ok (.aload_n 0, 1) := by decide +kernel
theorem dX13_startFaces_1 : decode cX13_startFaces 1 = .ok (.getfield 1230, 3) := by decide +kernel
theorem dX13_startFaces_4 : decode cX13_startFaces 4 = .ok (.istore_n 2, 1) := by decide +kernel
theorem dX13_startFaces_5 : decode cX13_startFaces 5 = .ok (.aload_n 0, 1) := by decide +kernel
theorem dX13_startFaces_6 : decode cX13_startFaces 6 = .ok (.dup, 1) := by decide +kernel
theorem dX13_startFaces_7 : decode cX13_startFaces 7 = .ok (.getfield 1233, 3) := by decide +kernel
theorem dX13_startFaces_10 : decode cX13_startFaces 10 = .ok (.iconst 1, 1) := by decide +kernel
theorem dX13_startFaces_11 : decode cX13_startFaces 11 = .ok (.iadd, 1) := by decide +kernel
theorem dX13_startFaces_12 : decode cX13_startFaces 12 = .ok (.putfield 1233, 3) := by decide +kernel
theorem dX13_startFaces_15 : decode cX13_startFaces 15 = .ok (.aload_n 0, 1) := by decide +kernel
theorem dX13_startFaces_16 : decode cX13_startFaces 16 = .ok (.getfield 1233, 3) := by decide +kernel
theorem dX13_startFaces_19 : decode cX13_startFaces 19 = .ok (.istore_n 3, 1) := by decide +kernel
theorem dX13_startFaces_20 : decode cX13_startFaces 20 = .ok (.aload_n 0, 1) := by decide +kernel
theorem dX13_startFaces_21 : decode cX13_startFaces 21 = .ok (.iload_n 1, 1) := by decide +kernel
theorem dX13_startFaces_22 : decode cX13_startFaces 22 = .ok (.invokevirtual 1236, 3) := by decide +kernel
theorem dX13_startFaces_25 : decode cX13_startFaces 25 = .ok (.aload_n 0, 1) := by decide +kernel
theorem dX13_startFaces_26 : decode cX13_startFaces 26 = .ok (.getfield 1230, 3) := by decide +kernel
theorem dX13_startFaces_29 : decode cX13_startFaces 29 = .ok (.iload_n 2, 1) := by decide +kernel
theorem dX13_startFaces_30 : decode cX13_startFaces 30 = .ok (.if_icmp .le 116, 3) := by decide +kernel
theorem dX13_startFaces_33 : decode cX13_startFaces 33 = .ok (.aload_n 0, 1) := by decide +kernel
theorem dX13_startFaces_34 : decode cX13_startFaces 34 = .ok (.dup, 1) := by decide +kernel
theorem dX13_startFaces_35 : decode cX13_startFaces 35 = .ok (.getfield 1230, 3) := by decide +kernel
theorem dX13_startFaces_38 : decode cX13_startFaces 38 = .ok (.iconst 1, 1) := by decide +kernel
theorem dX13_startFaces_39 : decode cX13_startFaces 39 = .ok (.isub, 1) := by decide +kernel
theorem dX13_startFaces_40 : decode cX13_startFaces 40 = .ok (.putfield 1230, 3) := by decide +kernel
theorem dX13_startFaces_43 : decode cX13_startFaces 43 = .ok (.aload_n 0, 1) := by decide +kernel
theorem dX13_startFaces_44 : decode cX13_startFaces 44 = .ok (.getfield 1239, 3) := by decide +kernel
theorem dX13_startFaces_47 : decode cX13_startFaces 47 = .ok (.aload_n 0, 1) := by decide +kernel
theorem dX13_startFaces_48 : decode cX13_startFaces 48 = .ok (.getfield 1230, 3) := by decide +kernel
theorem dX13_startFaces_51 : decode cX13_startFaces 51 = .ok (.iaload, 1) := by decide +kernel
theorem dX13_startFaces_52 : decode cX13_startFaces 52 = .ok (.istore 4, 2) := by decide +kernel
theorem dX13_startFaces_54 : decode cX13_startFaces 54 = .ok (.iload 4, 2) := by decide +kernel
theorem dX13_startFaces_56 : decode cX13_startFaces 56 = .ok (.iconst 2, 1) := by decide +kernel
theorem dX13_startFaces_57 : decode cX13_startFaces 57 = .ok (.idiv, 1) := by decide +kernel
theorem dX13_startFaces_58 : decode cX13_startFaces 58 = .ok (.istore 5, 2) := by decide +kernel
theorem dX13_startFaces_60 : decode cX13_startFaces 60 = .ok (.iload 4, 2) := by decide +kernel
theorem dX13_startFaces_62 : decode cX13_startFaces 62 = .ok (.iconst 2, 1) := by decide +kernel
theorem dX13_startFaces_63 : decode cX13_startFaces 63 = .ok (.irem, 1) := by decide +kernel
theorem dX13_startFaces_64 : decode cX13_startFaces 64 = .ok (.iconst 1, 1) := by decide +kernel
theorem dX13_startFaces_65 : decode cX13_startFaces 65 = .ok (.if_icmp .ne 28, 3) := by decide +kernel
theorem dX13_startFaces_68 : decode cX13_startFaces 68 = .ok (.aload_n 0, 1) := by decide +kernel
theorem dX13_startFaces_69 : decode cX13_startFaces 69 = .ok (.getfield 1207, 3) := by decide +kernel
theorem dX13_startFaces_72 : decode cX13_startFaces 72 = .ok (.ifCond .ne 71, 3) := by decide +kernel
theorem dX13_startFaces_75 : decode cX13_startFaces 75 = .ok (.aload_n 0, 1) := by decide +kernel
theorem dX13_startFaces_76 : decode cX13_startFaces 76 = .ok (.iload 5, 2) := by decide +kernel
theorem dX13_startFaces_78 : decode cX13_startFaces 78 = .ok (.invokevirtual 1242, 3) := by decide +kernel
theorem dX13_startFaces_81 : decode cX13_startFaces 81 = .ok (.ifCond .eq 62, 3) := by decide +kernel
theorem dX13_startFaces_84 : decode cX13_startFaces 84 = .ok (.aload_n 0, 1) := by decide +kernel
theorem dX13_startFaces_85 : decode cX13_startFaces 85 = .ok (.iload 5, 2) := by decide +kernel
theorem dX13_startFaces_87 : decode cX13_startFaces 87 = .ok (.invokevirtual 1222, 3) := by decide +kernel
theorem dX13_startFaces_90 : decode cX13_startFaces 90 = .ok (.goto 53, 3) := by decide +kernel
theorem dX13_startFaces_93 : decode cX13_startFaces 93 = .ok (.aload_n 0, 1) := by decide +kernel
theorem dX13_startFaces_94 : decode cX13_startFaces 94 = .ok (.getfield 1245, 3) := by decide +kernel
theorem dX13_startFaces_97 : decode cX13_startFaces 97 = .ok (.iload 5, 2) := by decide +kernel
theorem dX13_startFaces_99 : decode cX13_startFaces 99 = .ok (.iaload, 1) := by decide +kernel
theorem dX13_startFaces_100 : decode cX13_startFaces 100 = .ok (.iload_n 3, 1) := by decide +kernel
theorem dX13_startFaces_101 : decode cX13_startFaces 101 = .ok (.if_icmp .eq 42, 3) := by decide +kernel
theorem dX13_startFaces_104 : decode cX13_startFaces 104 = .ok (.aload_n 0, 1) := by decide +kernel
theorem dX13_startFaces_105 : decode cX13_startFaces 105 = .ok (.getfield 1245, 3) := by decide +kernel
theorem dX13_startFaces_108 : decode cX13_startFaces 108 = .ok (.iload 5, 2) := by decide +kernel
theorem dX13_startFaces_110 : decode cX13_startFaces 110 = .ok (.iload_n 3, 1) := by decide +kernel
theorem dX13_startFaces_111 : decode cX13_startFaces 111 = .ok (.iastore, 1) := by decide +kernel
theorem dX13_startFaces_112 : decode cX13_startFaces 112 = .ok (.aload_n 0, 1) := by decide +kernel
theorem dX13_startFaces_113 : decode cX13_startFaces 113 = .ok (.getfield 1239, 3) := by decide +kernel
theorem dX13_startFaces_116 : decode cX13_startFaces 116 = .ok (.aload_n 0, 1) := by decide +kernel
theorem dX13_startFaces_117 : decode cX13_startFaces 117 = .ok (.getfield 1230, 3) := by decide +kernel
theorem dX13_startFaces_120 : decode cX13_startFaces 120 = .ok (.iconst 2, 1) := by decide +kernel
theorem dX13_startFaces_121 : decode cX13_startFaces 121 = .ok (.iload 5, 2) := by decide +kernel
theorem dX13_startFaces_123 : decode cX13_startFaces 123 = .ok (.imul, 1) := by decide +kernel
theorem dX13_startFaces_124 : decode cX13_startFaces 124 = .ok (.iconst 1, 1) := by decide +kernel
theorem dX13_startFaces_125 : decode cX13_startFaces 125 = .ok (.iadd, 1) := by decide +kernel
theorem dX13_startFaces_126 : decode cX13_startFaces 126 = .ok (.iastore, 1) := by decide +kernel
theorem dX13_startFaces_127 : decode cX13_startFaces 127 = .ok (.aload_n 0, 1) := by decide +kernel
theorem dX13_startFaces_128 : decode cX13_startFaces 128 = .ok (.dup, 1) := by decide +kernel
theorem dX13_startFaces_129 : decode cX13_startFaces 129 = .ok (.getfield 1230, 3) := by decide +kernel
theorem dX13_startFaces_132 : decode cX13_startFaces 132 = .ok (.iconst 1, 1) := by decide +kernel
theorem dX13_startFaces_133 : decode cX13_startFaces 133 = .ok (.iadd, 1) := by decide +kernel
theorem dX13_startFaces_134 : decode cX13_startFaces 134 = .ok (.putfield 1230, 3) := by decide +kernel
theorem dX13_startFaces_137 : decode cX13_startFaces 137 = .ok (.aload_n 0, 1) := by decide +kernel
theorem dX13_startFaces_138 : decode cX13_startFaces 138 = .ok (.iload 5, 2) := by decide +kernel
theorem dX13_startFaces_140 : decode cX13_startFaces 140 = .ok (.invokevirtual 1236, 3) := by decide +kernel
