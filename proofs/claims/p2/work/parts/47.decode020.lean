theorem dX13_hasBridge_31 : decode cX13_hasBridge 31 = .ok (.invokevirtual 621, 3) := by decide +kernel
theorem dX13_hasBridge_34 : decode cX13_hasBridge 34 = .ok (.ifCond .eq 7, 3) := by decide +kernel
theorem dX13_hasBridge_37 : decode cX13_hasBridge 37 = .ok (.iconst 1, 1) := by decide +kernel
theorem dX13_hasBridge_38 : decode cX13_hasBridge 38 = .ok (.goto 4, 3) := by decide +kernel
theorem dX13_hasBridge_41 : decode cX13_hasBridge 41 = .ok (.iconst 0, 1) := by decide +kernel
theorem dX13_hasBridge_42 : decode cX13_hasBridge 42 = .ok (.istore 4, 2) := by decide +kernel
theorem dX13_hasBridge_44 : decode cX13_hasBridge 44 = .ok (.iinc 5 1, 3) := by decide +kernel
theorem dX13_hasBridge_47 : decode cX13_hasBridge 47 = .ok (.goto (-41), 3) := by decide +kernel
theorem dX13_hasBridge_50 : decode cX13_hasBridge 50 = .ok (.iload 4, 2) := by decide +kernel
theorem dX13_hasBridge_52 : decode cX13_hasBridge 52 = .ok (.ireturn, 1) := by decide +kernel
theorem dX13_bridge_0 : decode cX13_bridge 0 = .ok (.iload_n 1, 1) := by decide +kernel
theorem dX13_bridge_1 : decode cX13_bridge 1 = .ok (.bipush 34, 2) := by decide +kernel
theorem dX13_bridge_3 : decode cX13_bridge 3 = .ok (.imul, 1) := by decide +kernel
theorem dX13_bridge_4 : decode cX13_bridge 4 = .ok (.aload_n 0, 1) := by decide +kernel
theorem dX13_bridge_5 : decode cX13_bridge 5 = .ok (.getfield 275, 3) := by decide +kernel
theorem dX13_bridge_8 : decode cX13_bridge 8 = .ok (.iload_n 1, 1) := by decide +kernel
theorem dX13_bridge_9 : decode cX13_bridge 9 = .ok (.iaload, 1) := by decide +kernel
theorem dX13_bridge_10 : decode cX13_bridge 10 = .ok (.iadd, 1) := by decide +kernel
theorem dX13_bridge_11 : decode cX13_bridge 11 = .ok (.istore 5, 2) := by decide +kernel
theorem dX13_bridge_13 : decode cX13_bridge 13 = .ok (.aload_n 0, 1) := by decide +kernel
theorem dX13_bridge_14 : decode cX13_bridge 14 = .ok (.iload 5, 2) := by decide +kernel
theorem dX13_bridge_16 : decode cX13_bridge 16 = .ok (.invokevirtual 396, 3) := by decide +kernel
theorem dX13_bridge_19 : decode cX13_bridge 19 = .ok (.aload_n 0, 1) := by decide +kernel
theorem dX13_bridge_20 : decode cX13_bridge 20 = .ok (.getfield 402, 3) := by decide +kernel
theorem dX13_bridge_23 : decode cX13_bridge 23 = .ok (.iload 5, 2) := by decide +kernel
theorem dX13_bridge_25 : decode cX13_bridge 25 = .ok (.iconst 1, 1) := by decide +kernel
theorem dX13_bridge_26 : decode cX13_bridge 26 = .ok (.iastore, 1) := by decide +kernel
theorem dX13_bridge_27 : decode cX13_bridge 27 = .ok (.aload_n 0, 1) := by decide +kernel
theorem dX13_bridge_28 : decode cX13_bridge 28 = .ok (.getfield 350, 3) := by decide +kernel
theorem dX13_bridge_31 : decode cX13_bridge 31 = .ok (.iload 5, 2) := by decide +kernel
theorem dX13_bridge_33 : decode cX13_bridge 33 = .ok (.iconst 1, 1) := by decide +kernel
theorem dX13_bridge_34 : decode cX13_bridge 34 = .ok (.bastore, 1) := by decide +kernel
theorem dX13_bridge_35 : decode cX13_bridge 35 = .ok (.aload_n 0, 1) := by decide +kernel
theorem dX13_bridge_36 : decode cX13_bridge 36 = .ok (.getfield 399, 3) := by decide +kernel
theorem dX13_bridge_39 : decode cX13_bridge 39 = .ok (.iload 5, 2) := by decide +kernel
theorem dX13_bridge_41 : decode cX13_bridge 41 = .ok (.iconst 0, 1) := by decide +kernel
theorem dX13_bridge_42 : decode cX13_bridge 42 = .ok (.iastore, 1) := by decide +kernel
theorem dX13_bridge_43 : decode cX13_bridge 43 = .ok (.aload_n 0, 1) := by decide +kernel
theorem dX13_bridge_44 : decode cX13_bridge 44 = .ok (.getfield 433, 3) := by decide +kernel
theorem dX13_bridge_47 : decode cX13_bridge 47 = .ok (.iload 5, 2) := by decide +kernel
theorem dX13_bridge_49 : decode cX13_bridge 49 = .ok (.aload_n 0, 1) := by decide +kernel
theorem dX13_bridge_50 : decode cX13_bridge 50 = .ok (.getfield 433, 3) := by decide +kernel
theorem dX13_bridge_53 : decode cX13_bridge 53 = .ok (.iload_n 2, 1) := by decide +kernel
theorem dX13_bridge_54 : decode cX13_bridge 54 = .ok (.iaload, 1) := by decide +kernel
theorem dX13_bridge_55 : decode cX13_bridge 55 = .ok (.iastore, 1) := by decide +kernel
theorem dX13_bridge_56 : decode cX13_bridge 56 = .ok (.aload_n 0, 1) := by decide +kernel
theorem dX13_bridge_57 : decode cX13_bridge 57 = .ok (.getfield 341, 3) := by decide +kernel
theorem dX13_bridge_60 : decode cX13_bridge 60 = .ok (.iload 5, 2) := by decide +kernel
theorem dX13_bridge_62 : decode cX13_bridge 62 = .ok (.aload_n 0, 1) := by decide +kernel
theorem dX13_bridge_63 : decode cX13_bridge 63 = .ok (.getfield 341, 3) := by decide +kernel
theorem dX13_bridge_66 : decode cX13_bridge 66 = .ok (.iload_n 2, 1) := by decide +kernel
theorem dX13_bridge_67 : decode cX13_bridge 67 = .ok (.baload, 1) := by decide +kernel
theorem dX13_bridge_68 : decode cX13_bridge 68 = .ok (.bastore, 1) := by decide +kernel
theorem dX13_bridge_69 : decode cX13_bridge 69 = .ok (.aload_n 0, 1) := by decide +kernel
theorem dX13_bridge_70 : decode cX13_bridge 70 = .ok (.getfield 436, 3) := by decide +kernel
theorem dX13_bridge_73 : decode cX13_bridge 73 = .ok (.iload 5, 2) := by decide +kernel
theorem dX13_bridge_75 : decode cX13_bridge 75 = .ok (.iconst 0, 1) := by decide +kernel
theorem dX13_bridge_76 : decode cX13_bridge 76 = .ok (.bastore, 1) := by decide +kernel
theorem dX13_bridge_77 : decode cX13_bridge 77 = .ok (.aload_n 0, 1) := by decide +kernel
theorem dX13_bridge_78 : decode cX13_bridge 78 = .ok (.getfield 356, 3) := by decide +kernel
theorem dX13_bridge_81 : decode cX13_bridge 81 = .ok (.iload 5, 2) := by decide +kernel
theorem dX13_bridge_83 : decode cX13_bridge 83 = .ok (.aload_n 0, 1) := by decide +kernel
theorem dX13_bridge_84 : decode cX13_bridge 84 = .ok (.getfield 356, 3) := by decide +kernel
theorem dX13_bridge_87 : decode cX13_bridge 87 = .ok (.iload_n 2, 1) := by decide +kernel
theorem dX13_bridge_88 : decode cX13_bridge 88 = .ok (.laload, 1) := by decide +kernel
theorem dX13_bridge_89 : decode cX13_bridge 89 = .ok (.lastore, 1) := by decide +kernel
theorem dX13_bridge_90 : decode cX13_bridge 90 = .ok (.aload_n 0, 1) := by decide +kernel
theorem dX13_bridge_91 : decode cX13_bridge 91 = .ok (.getfield 359, 3) := by decide +kernel
theorem dX13_bridge_94 : decode cX13_bridge 94 = .ok (.iload 5, 2) := by decide +kernel
theorem dX13_bridge_96 : decode cX13_bridge 96 = .ok (.lload_n 3, 1) := by decide +kernel
theorem dX13_bridge_97 : decode cX13_bridge 97 = .ok (.lastore, 1) := by decide +kernel
theorem dX13_bridge_98 : decode cX13_bridge 98 = .ok (.aload_n 0, 1) := by decide +kernel
theorem dX13_bridge_99 : decode cX13_bridge 99 = .ok (.getfield 383, 3) := by decide +kernel
theorem dX13_bridge_102 : decode cX13_bridge 102 = .ok (.iload 5, 2) := by decide +kernel
theorem dX13_bridge_104 : decode cX13_bridge 104 = .ok (.aload_n 0, 1) := by decide +kernel
theorem dX13_bridge_105 : decode cX13_bridge 105 = .ok (.getfield 359, 3) := by decide +kernel
theorem dX13_bridge_108 : decode cX13_bridge 108 = .ok (.iload_n 2, 1) := by decide +kernel
theorem dX13_bridge_109 : decode cX13_bridge 109 = .ok (.laload, 1) := by decide +kernel
theorem dX13_bridge_110 : decode cX13_bridge 110 = .ok (.lastore, 1) := by decide +kernel
theorem dX13_bridge_111 : decode cX13_bridge 111 = .ok (.aload_n 0, 1) := by decide +kernel
theorem dX13_bridge_112 : decode cX13_bridge 112 = .ok (.getfield 362, 3) := by decide +kernel
theorem dX13_bridge_115 : decode cX13_bridge 115 = .ok (.iload 5, 2) := by decide +kernel
theorem dX13_bridge_117 : decode cX13_bridge 117 = .ok (.aload_n 0, 1) := by decide +kernel
theorem dX13_bridge_118 : decode cX13_bridge 118 = .ok (.getfield 362, 3) := by decide +kernel
theorem dX13_bridge_121 : decode cX13_bridge 121 = .ok (.iload_n 2, 1) := by decide +kernel
theorem dX13_bridge_122 : decode cX13_bridge 122 = .ok (.iaload, 1) := by decide +kernel
theorem dX13_bridge_123 : decode cX13_bridge 123 = .ok (.iastore, 1) := by decide +kernel
theorem dX13_bridge_124 : decode cX13_bridge 124 = .ok (.iconst 0, 1) := by decide +kernel
theorem dX13_bridge_125 : decode cX13_bridge 125 = .ok (.istore 6, 2) := by decide +kernel
theorem dX13_bridge_127 : decode cX13_bridge 127 = .ok (.iload 6, 2) := by decide +kernel
theorem dX13_bridge_129 : decode cX13_bridge 129 = .ok (.aload_n 0, 1) := by decide +kernel
theorem dX13_bridge_130 : decode cX13_bridge 130 = .ok (.getfield 362, 3) := by decide +kernel
theorem dX13_bridge_133 : decode cX13_bridge 133 = .ok (.iload_n 2, 1) := by decide +kernel
theorem dX13_bridge_134 : decode cX13_bridge 134 = .ok (.iaload, 1) := by decide +kernel
theorem dX13_bridge_135 : decode cX13_bridge 135 = .ok (.if_icmp .ge 32, 3) := by decide +kernel
theorem dX13_bridge_138 : decode cX13_bridge 138 = .ok (.aload_n 0, 1) := by decide +kernel
theorem dX13_bridge_139 : decode cX13_bridge 139 = .ok (.getfield 442, 3) := by decide +kernel
theorem dX13_bridge_142 : decode cX13_bridge 142 = .ok (.iconst 4, 1) := by decide +kernel
theorem dX13_bridge_143 : decode cX13_bridge 143 = .ok (.iload 5, 2) := by decide +kernel
theorem dX13_bridge_145 : decode cX13_bridge 145 = .ok (.imul, 1) := by decide +kernel
theorem dX13_bridge_146 : decode cX13_bridge 146 = .ok (.iload 6, 2) := by decide +kernel
theorem dX13_bridge_148 : decode cX13_bridge 148 = .ok (.iadd, 1) := by decide +kernel
theorem dX13_bridge_149 : decode cX13_bridge 149 = .ok (.aload_n 0, 1) := by decide +kernel
theorem dX13_bridge_150 : decode cX13_bridge 150 = .ok (.getfield 442, 3) := by decide +kernel
theorem dX13_bridge_153 : decode cX13_bridge 153 = .ok (.iconst 4, 1) := by decide +kernel
theorem dX13_bridge_154 : decode cX13_bridge 154 = .ok (.iload_n 2, 1) := by decide +kernel
theorem dX13_bridge_155 : decode cX13_bridge 155 = .ok (.imul, 1) := by decide +kernel
theorem dX13_bridge_156 : decode cX13_bridge 156 = .ok (.iload 6, 2) := by decide +kernel
theorem dX13_bridge_158 : decode cX13_bridge 158 = .ok (.iadd, 1) := by decide +kernel
theorem dX13_bridge_159 : decode cX13_bridge 159 = .ok (.laload, 1) := by decide +kernel
theorem dX13_bridge_160 : decode cX13_bridge 160 = .ok (.lastore, 1) := by decide +kernel
theorem dX13_bridge_161 : decode cX13_bridge 161 = .ok (.iinc 6 1, 3) := by decide +kernel
theorem dX13_bridge_164 : decode cX13_bridge 164 = .ok (.goto (-37), 3) := by decide +kernel
theorem dX13_bridge_167 : decode cX13_bridge 167 = .ok (.aload_n 0, 1) := by decide +kernel
theorem dX13_bridge_168 : decode cX13_bridge 168 = .ok (.getfield 389, 3) := by decide +kernel
theorem dX13_bridge_171 : decode cX13_bridge 171 = .ok (.iload 5, 2) := by decide +kernel
theorem dX13_bridge_173 : decode cX13_bridge 173 = .ok (.aload_n 0, 1) := by decide +kernel
theorem dX13_bridge_174 : decode cX13_bridge 174 = .ok (.getfield 362, 3) := by decide +kernel
theorem dX13_bridge_177 : decode cX13_bridge 177 = .ok (.iload_n 2, 1) := by decide +kernel
theorem dX13_bridge_178 : decode cX13_bridge 178 = .ok (.iaload, 1) := by decide +kernel
theorem dX13_bridge_179 : decode cX13_bridge 179 = .ok (.iastore, 1) := by decide +kernel
theorem dX13_bridge_180 : decode cX13_bridge 180 = .ok (.aload_n 0, 1) := by decide +kernel
theorem dX13_bridge_181 : decode cX13_bridge 181 = .ok (.getfield 275, 3) := by decide +kernel
theorem dX13_bridge_184 : decode cX13_bridge 184 = .ok (.iload_n 1, 1) := by decide +kernel
theorem dX13_bridge_185 : decode cX13_bridge 185 = .ok (.dup2, 1) := by decide +kernel
theorem dX13_bridge_186 : decode cX13_bridge 186 = .ok (.iaload, 1) := by decide +kernel
theorem dX13_bridge_187 : decode cX13_bridge 187 = .ok (.iconst 1, 1) := by decide +kernel
theorem dX13_bridge_188 : decode cX13_bridge 188 = .ok (.iadd, 1) := by decide +kernel
theorem dX13_bridge_189 : decode cX13_bridge 189 = .ok (.iastore, 1) := by decide +kernel
theorem dX13_bridge_190 : decode cX13_bridge 190 = .ok (.iload 5, 2) := by decide +kernel
theorem dX13_bridge_192 : decode cX13_bridge 192 = .ok (.ireturn, 1) := by decide +kernel
theorem dX13_lacking_0 : decode cX13_lacking 0 = .ok (.iconst 0, 1) := by decide +kernel
theorem dX13_lacking_1 : decode cX13_lacking 1 = .ok (.istore_n 1, 1) := by decide +kernel
theorem dX13_lacking_2 : decode cX13_lacking 2 = .ok (.iload_n 1, 1) := by decide +kernel
theorem dX13_lacking_3 : decode cX13_lacking 3 = .ok (.aload_n 0, 1) := by decide +kernel
theorem dX13_lacking_4 : decode cX13_lacking 4 = .ok (.getfield 230, 3) := by decide +kernel
theorem dX13_lacking_7 : decode cX13_lacking 7 = .ok (.aload_n 0, 1) := by decide +kernel
theorem dX13_lacking_8 : decode cX13_lacking 8 = .ok (.getfield 84, 3) := by decide +kernel
theorem dX13_lacking_11 : decode cX13_lacking 11 = .ok (.iaload, 1) := by decide +kernel
theorem dX13_lacking_12 : decode cX13_lacking 12 = .ok (.if_icmp .ge 123, 3) := by decide +kernel
theorem dX13_lacking_15 : decode cX13_lacking 15 = .ok (.aload_n 0, 1) := by decide +kernel
theorem dX13_lacking_16 : decode cX13_lacking 16 = .ok (.getfield 129, 3) := by decide +kernel
theorem dX13_lacking_19 : decode cX13_lacking 19 = .ok (.ifCond .ne 116, 3) := by decide +kernel
theorem dX13_lacking_22 : decode cX13_lacking 22 = .ok (.aload_n 0, 1) := by decide +kernel
theorem dX13_lacking_23 : decode cX13_lacking 23 = .ok (.getfield 84, 3) := by decide +kernel
theorem dX13_lacking_26 : decode cX13_lacking 26 = .ok (.bipush 12, 2) := by decide +kernel
theorem dX13_lacking_28 : decode cX13_lacking 28 = .ok (.imul, 1) := by decide +kernel
theorem dX13_lacking_29 : decode cX13_lacking 29 = .ok (.iload_n 1, 1) := by decide +kernel
theorem dX13_lacking_30 : decode cX13_lacking 30 = .ok (.iadd, 1) := by decide +kernel
theorem dX13_lacking_31 : decode cX13_lacking 31 = .ok (.istore_n 2, 1) := by decide +kernel
theorem dX13_lacking_32 : decode cX13_lacking 32 = .ok (.aload_n 0, 1) := by decide +kernel
theorem dX13_lacking_33 : decode cX13_lacking 33 = .ok (.getfield 266, 3) := by decide +kernel
theorem dX13_lacking_36 : decode cX13_lacking 36 = .ok (.iload_n 2, 1) := by decide +kernel
theorem dX13_lacking_37 : decode cX13_lacking 37 = .ok (.iaload, 1) := by decide +kernel
theorem dX13_lacking_38 : decode cX13_lacking 38 = .ok (.iconst 2, 1) := by decide +kernel
theorem dX13_lacking_39 : decode cX13_lacking 39 = .ok (.if_icmp .eq 90, 3) := by decide +kernel
theorem dX13_lacking_42 : decode cX13_lacking 42 = .ok (.aload_n 0, 1) := by decide +kernel
theorem dX13_lacking_43 : decode cX13_lacking 43 = .ok (.iload_n 2, 1) := by decide +kernel
theorem dX13_lacking_44 : decode cX13_lacking 44 = .ok (.invokevirtual 548, 3) := by decide +kernel
theorem dX13_lacking_47 : decode cX13_lacking 47 = .ok (.ifCond .eq 6, 3) := by decide +kernel
theorem dX13_lacking_50 : decode cX13_lacking 50 = .ok (.goto 79, 3) := by decide +kernel
theorem dX13_lacking_53 : decode cX13_lacking 53 = .ok (.aload_n 0, 1) := by decide +kernel
theorem dX13_lacking_54 : decode cX13_lacking 54 = .ok (.iload_n 2, 1) := by decide +kernel
theorem dX13_lacking_55 : decode cX13_lacking 55 = .ok (.aload_n 0, 1) := by decide +kernel
theorem dX13_lacking_56 : decode cX13_lacking 56 = .ok (.getfield 705, 3) := by decide +kernel
theorem dX13_lacking_59 : decode cX13_lacking 59 = .ok (.invokevirtual 677, 3) := by decide +kernel
theorem dX13_lacking_62 : decode cX13_lacking 62 = .ok (.istore_n 3, 1) := by decide +kernel
theorem dX13_lacking_63 : decode cX13_lacking 63 = .ok (.iconst 1, 1) := by decide +kernel
theorem dX13_lacking_64 : decode cX13_lacking 64 = .ok (.istore 4, 2) := by decide +kernel
theorem dX13_lacking_66 : decode cX13_lacking 66 = .ok (.iload 4, 2) := by decide +kernel
theorem dX13_lacking_68 : decode cX13_lacking 68 = .ok (.iload_n 3, 1) := by decide +kernel
theorem dX13_lacking_69 : decode cX13_lacking 69 = .ok (.if_icmp .ge 21, 3) := by decide +kernel
theorem dX13_lacking_72 : decode cX13_lacking 72 = .ok (.aload_n 0, 1) := by decide +kernel
theorem dX13_lacking_73 : decode cX13_lacking 73 = .ok (.aload_n 0, 1) := by decide +kernel
theorem dX13_lacking_74 : decode cX13_lacking 74 = .ok (.getfield 705, 3) := by decide +kernel
theorem dX13_lacking_77 : decode cX13_lacking 77 = .ok (.iload 4, 2) := by decide +kernel
theorem dX13_lacking_79 : decode cX13_lacking 79 = .ok (.iaload, 1) := by decide +kernel
theorem dX13_lacking_80 : decode cX13_lacking 80 = .ok (.iload_n 2, 1) := by decide +kernel
theorem dX13_lacking_81 : decode cX13_lacking 81 = .ok (.invokevirtual 708, 3) := by decide +kernel
theorem dX13_lacking_84 : decode cX13_lacking 84 = .ok (.iinc 4 1, 3) := by decide +kernel
theorem dX13_lacking_87 : decode cX13_lacking 87 = .ok (.goto (-21), 3) := by decide +kernel
theorem dX13_lacking_90 : decode cX13_lacking 90 = .ok (.aload_n 0, 1) := by decide +kernel
theorem dX13_lacking_91 : decode cX13_lacking 91 = .ok (.iload_n 2, 1) := by decide +kernel
theorem dX13_lacking_92 : decode cX13_lacking 92 = .ok (.aload_n 0, 1) := by decide +kernel
theorem dX13_lacking_93 : decode cX13_lacking 93 = .ok (.getfield 705, 3) := by decide +kernel
theorem dX13_lacking_96 : decode cX13_lacking 96 = .ok (.invokevirtual 633, 3) := by decide +kernel
theorem dX13_lacking_99 : decode cX13_lacking 99 = .ok (.istore 4, 2) := by decide +kernel
theorem dX13_lacking_101 : decode cX13_lacking 101 = .ok (.iconst 0, 1) := by decide +kernel
theorem dX13_lacking_102 : decode cX13_lacking 102 = .ok (.istore 5, 2) := by decide +kernel
theorem dX13_lacking_104 : decode cX13_lacking 104 = .ok (.iload 5, 2) := by decide +kernel
theorem dX13_lacking_106 : decode cX13_lacking 106 = .ok (.iload 4, 2) := by decide +kernel
theorem dX13_lacking_108 : decode cX13_lacking 108 = .ok (.if_icmp .ge 21, 3) := by decide +kernel
theorem dX13_lacking_111 : decode cX13_lacking 111 = .ok (.aload_n 0, 1) := by decide +kernel
theorem dX13_lacking_112 : decode cX13_lacking 112 = .ok (.aload_n 0, 1) := by decide +kernel
theorem dX13_lacking_113 : decode cX13_lacking 113 = .ok (.getfield 705, 3) := by decide +kernel
theorem dX13_lacking_116 : decode cX13_lacking 116 = .ok (.iload 5, 2) := by decide +kernel
theorem dX13_lacking_118 : decode cX13_lacking 118 = .ok (.iaload, 1) := by decide +kernel
theorem dX13_lacking_119 : decode cX13_lacking 119 = .ok (.iload_n 2, 1) := by decide +kernel
theorem dX13_lacking_120 : decode cX13_lacking 120 = .ok (.invokevirtual 708, 3) := by decide +kernel
theorem dX13_lacking_123 : decode cX13_lacking 123 = .ok (.iinc 5 1, 3) := by decide +kernel
theorem dX13_lacking_126 : decode cX13_lacking 126 = .ok (.goto (-22), 3) := by decide +kernel
theorem dX13_lacking_129 : decode cX13_lacking 129 = .ok (.iinc 1 1, 3) := by decide +kernel
theorem dX13_lacking_132 : decode cX13_lacking 132 = .ok (.goto (-130), 3) := by decide +kernel
theorem dX13_lacking_135 : decode cX13_lacking 135 = .ok (.return_, 1) := by decide +kernel
theorem dX13_lackingOf_0 : decode cX13_lackingOf 0 = .ok (.iconst 0, 1) := by decide +kernel
theorem dX13_lackingOf_1 : decode cX13_lackingOf 1 = .ok (.istore_n 3, 1) := by decide +kernel
theorem dX13_lackingOf_2 : decode cX13_lackingOf 2 = .ok (.iload_n 3, 1) := by decide +kernel
theorem dX13_lackingOf_3 : decode cX13_lackingOf 3 = .ok (.aload_n 0, 1) := by decide +kernel
theorem dX13_lackingOf_4 : decode cX13_lackingOf 4 = .ok (.getfield 275, 3) := by decide +kernel
theorem dX13_lackingOf_7 : decode cX13_lackingOf 7 = .ok (.iload_n 1, 1) := by decide +kernel
theorem dX13_lackingOf_8 : decode cX13_lackingOf 8 = .ok (.iaload, 1) := by decide +kernel
theorem dX13_lackingOf_9 : decode cX13_lackingOf 9 = .ok (.if_icmp .ge 69, 3) := by decide +kernel
theorem dX13_lackingOf_12 : decode cX13_lackingOf 12 = .ok (.iload_n 1, 1) := by decide +kernel
theorem dX13_lackingOf_13 : decode cX13_lackingOf 13 = .ok (.bipush 34, 2) := by decide +kernel
theorem dX13_lackingOf_15 : decode cX13_lackingOf 15 = .ok (.imul, 1) := by decide +kernel
theorem dX13_lackingOf_16 : decode cX13_lackingOf 16 = .ok (.iload_n 3, 1) := by decide +kernel
theorem dX13_lackingOf_17 : decode cX13_lackingOf 17 = .ok (.iadd, 1) := by decide +kernel
theorem dX13_lackingOf_18 : decode cX13_lackingOf 18 = .ok (.istore 4, 2) := by decide +kernel
theorem dX13_lackingOf_20 : decode cX13_lackingOf 20 = .ok (.aload_n 0, 1) := by decide +kernel
theorem dX13_lackingOf_21 : decode cX13_lackingOf 21 = .ok (.getfield 402, 3) := by decide +kernel
theorem dX13_lackingOf_24 : decode cX13_lackingOf 24 = .ok (.iload 4, 2) := by decide +kernel
theorem dX13_lackingOf_26 : decode cX13_lackingOf 26 = .ok (.iaload, 1) := by decide +kernel
theorem dX13_lackingOf_27 : decode cX13_lackingOf 27 = .ok (.iconst 1, 1) := by decide +kernel
theorem dX13_lackingOf_28 : decode cX13_lackingOf 28 = .ok (.if_icmp .ne 44, 3) := by decide +kernel
theorem dX13_lackingOf_31 : decode cX13_lackingOf 31 = .ok (.aload_n 0, 1) := by decide +kernel
theorem dX13_lackingOf_32 : decode cX13_lackingOf 32 = .ok (.iload 4, 2) := by decide +kernel
theorem dX13_lackingOf_34 : decode cX13_lackingOf 34 = .ok (.invokevirtual 624, 3) := by decide +kernel
theorem dX13_lackingOf_37 : decode cX13_lackingOf 37 = .ok (.ifCond .eq 35, 3) := by decide +kernel
theorem dX13_lackingOf_40 : decode cX13_lackingOf 40 = .ok (.aload_n 0, 1) := by decide +kernel
theorem dX13_lackingOf_41 : decode cX13_lackingOf 41 = .ok (.getfield 350, 3) := by decide +kernel
theorem dX13_lackingOf_44 : decode cX13_lackingOf 44 = .ok (.iload 4, 2) := by decide +kernel
theorem dX13_lackingOf_46 : decode cX13_lackingOf 46 = .ok (.baload, 1) := by decide +kernel
theorem dX13_lackingOf_47 : decode cX13_lackingOf 47 = .ok (.ifCond .ne 25, 3) := by decide +kernel
theorem dX13_lackingOf_50 : decode cX13_lackingOf 50 = .ok (.aload_n 0, 1) := by decide +kernel
theorem dX13_lackingOf_51 : decode cX13_lackingOf 51 = .ok (.iload 4, 2) := by decide +kernel
theorem dX13_lackingOf_53 : decode cX13_lackingOf 53 = .ok (.iload_n 2, 1) := by decide +kernel
theorem dX13_lackingOf_54 : decode cX13_lackingOf 54 = .ok (.invokevirtual 711, 3) := by decide +kernel
theorem dX13_lackingOf_57 : decode cX13_lackingOf 57 = .ok (.ifCond .ge 15, 3) := by decide +kernel
theorem dX13_lackingOf_60 : decode cX13_lackingOf 60 = .ok (.aload_n 0, 1) := by decide +kernel
theorem dX13_lackingOf_61 : decode cX13_lackingOf 61 = .ok (.bipush 10, 2) := by decide +kernel
theorem dX13_lackingOf_63 : decode cX13_lackingOf 63 = .ok (.aload_n 0, 1) := by decide +kernel
theorem dX13_lackingOf_64 : decode cX13_lackingOf 64 = .ok (.getfield 259, 3) := by decide +kernel
theorem dX13_lackingOf_67 : decode cX13_lackingOf 67 = .ok (.iload_n 2, 1) := by decide +kernel
theorem dX13_lackingOf_68 : decode cX13_lackingOf 68 = .ok (.iaload, 1) := by decide +kernel
theorem dX13_lackingOf_69 : decode cX13_lackingOf 69 = .ok (.invokevirtual 152, 3) := by decide +kernel
theorem dX13_lackingOf_72 : decode cX13_lackingOf 72 = .ok (.iinc 3 1, 3) := by decide +kernel
theorem dX13_lackingOf_75 : decode cX13_lackingOf 75 = .ok (.goto (-73), 3) := by decide +kernel
theorem dX13_lackingOf_78 : decode cX13_lackingOf 78 = .ok (.return_, 1) := by decide +kernel
theorem dX13_isTwo_0 : decode cX13_isTwo 0 = .ok (.iload_n 0, 1) := by decide +kernel
theorem dX13_isTwo_1 : decode cX13_isTwo 1 = .ok (.bipush 15, 2) := by decide +kernel
theorem dX13_isTwo_3 : decode cX13_isTwo 3 = .ok (.if_icmp .lt 13, 3) := by decide +kernel
theorem dX13_isTwo_6 : decode cX13_isTwo 6 = .ok (.iload_n 0, 1) := by decide +kernel
theorem dX13_isTwo_7 : decode cX13_isTwo 7 = .ok (.bipush 19, 2) := by decide +kernel
theorem dX13_isTwo_9 : decode cX13_isTwo 9 = .ok (.if_icmp .gt 7, 3) := by decide +kernel
theorem dX13_isTwo_12 : decode cX13_isTwo 12 = .ok (.iconst 1, 1) := by decide +kernel
theorem dX13_isTwo_13 : decode cX13_isTwo 13 = .ok (.goto 4, 3) := by decide +kernel
theorem dX13_isTwo_16 : decode cX13_isTwo 16 = .ok (.iconst 0, 1) := by decide +kernel
theorem dX13_isTwo_17 : decode cX13_isTwo 17 = .ok (.ireturn, 1) := by decide +kernel
theorem dX13_act_0 : decode cX13_act 0 = .ok (.iload_n 0, 1) := by decide +kernel
theorem dX13_act_1 : decode cX13_act 1 = .ok (.tableswitch 62 15 18 #[31, 37, 43, 49], 31) := by decide +kernel
theorem dX13_act_32 : decode cX13_act 32 = .ok (.iload_n 1, 1) := by decide +kernel
theorem dX13_act_33 : decode cX13_act 33 = .ok (.iload_n 2, 1) := by decide +kernel
theorem dX13_act_34 : decode cX13_act 34 = .ok (.iadd, 1) := by decide +kernel
theorem dX13_act_35 : decode cX13_act 35 = .ok (.goto 38, 3) := by decide +kernel
theorem dX13_act_38 : decode cX13_act 38 = .ok (.iload_n 1, 1) := by decide +kernel
theorem dX13_act_39 : decode cX13_act 39 = .ok (.iload_n 2, 1) := by decide +kernel
theorem dX13_act_40 : decode cX13_act 40 = .ok (.isub, 1) := by decide +kernel
theorem dX13_act_41 : decode cX13_act 41 = .ok (.goto 32, 3) := by decide +kernel
theorem dX13_act_44 : decode cX13_act 44 = .ok (.iload_n 1, 1) := by decide +kernel
theorem dX13_act_45 : decode cX13_act 45 = .ok (.iload_n 2, 1) := by decide +kernel
theorem dX13_act_46 : decode cX13_act 46 = .ok (.imul, 1) := by decide +kernel
theorem dX13_act_47 : decode cX13_act 47 = .ok (.goto 26, 3) := by decide +kernel
theorem dX13_act_50 : decode cX13_act 50 = .ok (.iload_n 1, 1) := by decide +kernel
theorem dX13_act_51 : decode cX13_act 51 = .ok (.iload_n 2, 1) := by decide +kernel
theorem dX13_act_52 : decode cX13_act 52 = .ok (.if_icmp .ge 7, 3) := by decide +kernel
theorem dX13_act_55 : decode cX13_act 55 = .ok (.iconst 1, 1) := by decide +kernel
theorem dX13_act_56 : decode cX13_act 56 = .ok (.goto 17, 3) := by decide +kernel
theorem dX13_act_59 : decode cX13_act 59 = .ok (.iconst 0, 1) := by decide +kernel
theorem dX13_act_60 : decode cX13_act 60 = .ok (.goto 13, 3) := by decide +kernel
theorem dX13_act_63 : decode cX13_act 63 = .ok (.iload_n 1, 1) := by decide +kernel
theorem dX13_act_64 : decode cX13_act 64 = .ok (.iload_n 2, 1) := by decide +kernel
theorem dX13_act_65 : decode cX13_act 65 = .ok (.if_icmp .ne 7, 3) := by decide +kernel
theorem dX13_act_68 : decode cX13_act 68 = .ok (.iconst 1, 1) := by decide +kernel
theorem dX13_act_69 : decode cX13_act 69 = .ok (.goto 4, 3) := by decide +kernel
theorem dX13_act_72 : decode cX13_act 72 = .ok (.iconst 0, 1) := by decide +kernel
theorem dX13_act_73 : decode cX13_act 73 = .ok (.ireturn, 1) := by decide +kernel
theorem dX13_constants_0 : decode cX13_constants 0 = .ok (.iconst 0, 1) := by decide +kernel
theorem dX13_constants_1 : decode cX13_constants 1 = .ok (.istore_n 1, 1) := by decide +kernel
theorem dX13_constants_2 : decode cX13_constants 2 = .ok (.iload_n 1, 1) := by decide +kernel
theorem dX13_constants_3 : decode cX13_constants 3 = .ok (.aload_n 0, 1) := by decide +kernel
theorem dX13_constants_4 : decode cX13_constants 4 = .ok (.getfield 230, 3) := by decide +kernel
theorem dX13_constants_7 : decode cX13_constants 7 = .ok (.aload_n 0, 1) := by decide +kernel
theorem dX13_constants_8 : decode cX13_constants 8 = .ok (.getfield 84, 3) := by decide +kernel
theorem dX13_constants_11 : decode cX13_constants 11 = .ok (.iaload, 1) := by decide +kernel
theorem dX13_constants_12 : decode cX13_constants 12 = .ok (.if_icmp .ge 164, 3) := by decide +kernel
theorem dX13_constants_15 : decode cX13_constants 15 = .ok (.aload_n 0, 1) := by decide +kernel
theorem dX13_constants_16 : decode cX13_constants 16 = .ok (.getfield 84, 3) := by decide +kernel
theorem dX13_constants_19 : decode cX13_constants 19 = .ok (.bipush 12, 2) := by decide +kernel
theorem dX13_constants_21 : decode cX13_constants 21 = .ok (.imul, 1) := by decide +kernel
theorem dX13_constants_22 : decode cX13_constants 22 = .ok (.iload_n 1, 1) := by decide +kernel
theorem dX13_constants_23 : decode cX13_constants 23 = .ok (.iadd, 1) := by decide +kernel
theorem dX13_constants_24 : decode cX13_constants 24 = .ok (.istore_n 2, 1) := by decide +kernel
theorem dX13_constants_25 : decode cX13_constants 25 = .ok (.iconst 0, 1) := by decide +kernel
theorem dX13_constants_26 : decode cX13_constants 26 = .ok (.istore_n 3, 1) := by decide +kernel
theorem dX13_constants_27 : decode cX13_constants 27 = .ok (.iload_n 3, 1) := by decide +kernel
theorem dX13_constants_28 : decode cX13_constants 28 = .ok (.aload_n 0, 1) := by decide +kernel
theorem dX13_constants_29 : decode cX13_constants 29 = .ok (.getfield 275, 3) := by decide +kernel
theorem dX13_constants_32 : decode cX13_constants 32 = .ok (.iload_n 2, 1) := by decide +kernel
theorem dX13_constants_33 : decode cX13_constants 33 = .ok (.iaload, 1) := by decide +kernel
theorem dX13_constants_34 : decode cX13_constants 34 = .ok (.if_icmp .ge 136, 3) := by decide +kernel
theorem dX13_constants_37 : decode cX13_constants 37 = .ok (.iload_n 2, 1) := by decide +kernel
theorem dX13_constants_38 : decode cX13_constants 38 = .ok (.bipush 34, 2) := by decide +kernel
theorem dX13_constants_40 : decode cX13_constants 40 = .ok (.imul, 1) := by decide +kernel
theorem dX13_constants_41 : decode cX13_constants 41 = .ok (.iload_n 3, 1) := by decide +kernel
theorem dX13_constants_42 : decode cX13_constants 42 = .ok (.iadd, 1) := by decide +kernel
theorem dX13_constants_43 : decode cX13_constants 43 = .ok (.istore 4, 2) := by decide +kernel
theorem dX13_constants_45 : decode cX13_constants 45 = .ok (.aload_n 0, 1) := by decide +kernel
theorem dX13_constants_46 : decode cX13_constants 46 = .ok (.getfield 402, 3) := by decide +kernel
theorem dX13_constants_49 : decode cX13_constants 49 = .ok (.iload 4, 2) := by decide +kernel
theorem dX13_constants_51 : decode cX13_constants 51 = .ok (.iaload, 1) := by decide +kernel
theorem dX13_constants_52 : decode cX13_constants 52 = .ok (.ifCond .ne 112, 3) := by decide +kernel
theorem dX13_constants_55 : decode cX13_constants 55 = .ok (.aload_n 0, 1) := by decide +kernel
theorem dX13_constants_56 : decode cX13_constants 56 = .ok (.getfield 341, 3) := by decide +kernel
theorem dX13_constants_59 : decode cX13_constants 59 = .ok (.iload 4, 2) := by decide +kernel
theorem dX13_constants_61 : decode cX13_constants 61 = .ok (.baload, 1) := by decide +kernel
theorem dX13_constants_62 : decode cX13_constants 62 = .ok (.ifCond .eq 102, 3) := by decide +kernel
theorem dX13_constants_65 : decode cX13_constants 65 = .ok (.aload_n 0, 1) := by decide +kernel
theorem dX13_constants_66 : decode cX13_constants 66 = .ok (.getfield 344, 3) := by decide +kernel
theorem dX13_constants_69 : decode cX13_constants 69 = .ok (.iload 4, 2) := by decide +kernel
theorem dX13_constants_71 : decode cX13_constants 71 = .ok (.baload, 1) := by decide +kernel
theorem dX13_constants_72 : decode cX13_constants 72 = .ok (.ifCond .eq 92, 3) := by decide +kernel
theorem dX13_constants_75 : decode cX13_constants 75 = .ok (.aload_n 0, 1) := by decide +kernel
theorem dX13_constants_76 : decode cX13_constants 76 = .ok (.getfield 359, 3) := by decide +kernel
theorem dX13_constants_79 : decode cX13_constants 79 = .ok (.iload 4, 2) := by decide +kernel
theorem dX13_constants_81 : decode cX13_constants 81 = .ok (.laload, 1) := by decide +kernel
theorem dX13_constants_82 : decode cX13_constants 82 = .ok (.ldc2_w 43, 3) := by decide +kernel
theorem dX13_constants_85 : decode cX13_constants 85 = .ok (.lcmp, 1) := by decide +kernel
theorem dX13_constants_86 : decode cX13_constants 86 = .ok (.ifCond .ne 78, 3) := by decide +kernel
theorem dX13_constants_89 : decode cX13_constants 89 = .ok (.aload_n 0, 1) := by decide +kernel
theorem dX13_constants_90 : decode cX13_constants 90 = .ok (.getfield 365, 3) := by decide +kernel
theorem dX13_constants_93 : decode cX13_constants 93 = .ok (.iload 4, 2) := by decide +kernel
theorem dX13_constants_95 : decode cX13_constants 95 = .ok (.iaload, 1) := by decide +kernel
theorem dX13_constants_96 : decode cX13_constants 96 = .ok (.bipush (-2), 2) := by decide +kernel
theorem dX13_constants_98 : decode cX13_constants 98 = .ok (.if_icmp .eq 66, 3) := by decide +kernel
theorem dX13_constants_101 : decode cX13_constants 101 = .ok (.aload_n 0, 1) := by decide +kernel
theorem dX13_constants_102 : decode cX13_constants 102 = .ok (.iconst 0, 1) := by decide +kernel
theorem dX13_constants_103 : decode cX13_constants 103 = .ok (.putfield 714, 3) := by decide +kernel
theorem dX13_constants_106 : decode cX13_constants 106 = .ok (.aload_n 0, 1) := by decide +kernel
theorem dX13_constants_107 : decode cX13_constants 107 = .ok (.aload_n 0, 1) := by decide +kernel
theorem dX13_constants_108 : decode cX13_constants 108 = .ok (.getfield 365, 3) := by decide +kernel
theorem dX13_constants_111 : decode cX13_constants 111 = .ok (.iload 4, 2) := by decide +kernel
theorem dX13_constants_113 : decode cX13_constants 113 = .ok (.iaload, 1) := by decide +kernel
theorem dX13_constants_114 : decode cX13_constants 114 = .ok (.iload_n 2, 1) := by decide +kernel
theorem dX13_constants_115 : decode cX13_constants 115 = .ok (.invokevirtual 717, 3) := by decide +kernel
theorem dX13_constants_118 : decode cX13_constants 118 = .ok (.lstore 5, 2) := by decide +kernel
theorem dX13_constants_120 : decode cX13_constants 120 = .ok (.aload_n 0, 1) := by decide +kernel
theorem dX13_constants_121 : decode cX13_constants 121 = .ok (.getfield 377, 3) := by decide +kernel
theorem dX13_constants_124 : decode cX13_constants 124 = .ok (.iload 4, 2) := by decide +kernel
theorem dX13_constants_126 : decode cX13_constants 126 = .ok (.lload 5, 2) := by decide +kernel
theorem dX13_constants_128 : decode cX13_constants 128 = .ok (.ldc2_w 721, 3) := by decide +kernel
theorem dX13_constants_131 : decode cX13_constants 131 = .ok (.lcmp, 1) := by decide +kernel
theorem dX13_constants_132 : decode cX13_constants 132 = .ok (.ifCond .eq 7, 3) := by decide +kernel
theorem dX13_constants_135 : decode cX13_constants 135 = .ok (.iconst 1, 1) := by decide +kernel
theorem dX13_constants_136 : decode cX13_constants 136 = .ok (.goto 4, 3) := by decide +kernel
theorem dX13_constants_139 : decode cX13_constants 139 = .ok (.iconst 0, 1) := by decide +kernel
theorem dX13_constants_140 : decode cX13_constants 140 = .ok (.bastore, 1) := by decide +kernel
theorem dX13_constants_141 : decode cX13_constants 141 = .ok (.aload_n 0, 1) := by decide +kernel
theorem dX13_constants_142 : decode cX13_constants 142 = .ok (.getfield 380, 3) := by decide +kernel
theorem dX13_constants_145 : decode cX13_constants 145 = .ok (.iload 4, 2) := by decide +kernel
theorem dX13_constants_147 : decode cX13_constants 147 = .ok (.lload 5, 2) := by decide +kernel
theorem dX13_constants_149 : decode cX13_constants 149 = .ok (.ldc2_w 721, 3) := by decide +kernel
theorem dX13_constants_152 : decode cX13_constants 152 = .ok (.lcmp, 1) := by decide +kernel
theorem dX13_constants_153 : decode cX13_constants 153 = .ok (.ifCond .eq 9, 3) := by decide +kernel
theorem dX13_constants_156 : decode cX13_constants 156 = .ok (.lload 5, 2) := by decide +kernel
theorem dX13_constants_158 : decode cX13_constants 158 = .ok (.l2i, 1) := by decide +kernel
theorem dX13_constants_159 : decode cX13_constants 159 = .ok (.goto 4, 3) := by decide +kernel
theorem dX13_constants_162 : decode cX13_constants 162 = .ok (.iconst 0, 1) := by decide +kernel
theorem dX13_constants_163 : decode cX13_constants 163 = .ok (.iastore, 1) := by decide +kernel
theorem dX13_constants_164 : decode cX13_constants 164 = .ok (.iinc 3 1, 3) := by decide +kernel
theorem dX13_constants_167 : decode cX13_constants 167 = .ok (.goto (-140), 3) := by decide +kernel
theorem dX13_constants_170 : decode cX13_constants 170 = .ok (.iinc 1 1, 3) := by decide +kernel
theorem dX13_constants_173 : decode cX13_constants 173 = .ok (.goto (-171), 3) := by decide +kernel
theorem dX13_constants_176 : decode cX13_constants 176 = .ok (.return_, 1) := by decide +kernel
theorem dX13_folded_0 : decode cX13_folded 0 = .ok (.aload_n 0, 1) := by decide +kernel
theorem dX13_folded_1 : decode cX13_folded 1 = .ok (.getfield 714, 3) := by decide +kernel
theorem dX13_folded_4 : decode cX13_folded 4 = .ok (.istore_n 3, 1) := by decide +kernel
theorem dX13_folded_5 : decode cX13_folded 5 = .ok (.iload_n 1, 1) := by decide +kernel
theorem dX13_folded_6 : decode cX13_folded 6 = .ok (.istore 4, 2) := by decide +kernel
theorem dX13_folded_8 : decode cX13_folded 8 = .ok (.aload_n 0, 1) := by decide +kernel
theorem dX13_folded_9 : decode cX13_folded 9 = .ok (.getfield 173, 3) := by decide +kernel
theorem dX13_folded_12 : decode cX13_folded 12 = .ok (.iload 4, 2) := by decide +kernel
theorem dX13_folded_14 : decode cX13_folded 14 = .ok (.iaload, 1) := by decide +kernel
theorem dX13_folded_15 : decode cX13_folded 15 = .ok (.invokestatic 723, 3) := by decide +kernel
theorem dX13_folded_18 : decode cX13_folded 18 = .ok (.ifCond .ne 15, 3) := by decide +kernel
theorem dX13_folded_21 : decode cX13_folded 21 = .ok (.aload_n 0, 1) := by decide +kernel
theorem dX13_folded_22 : decode cX13_folded 22 = .ok (.getfield 173, 3) := by decide +kernel
theorem dX13_folded_25 : decode cX13_folded 25 = .ok (.iload 4, 2) := by decide +kernel
theorem dX13_folded_27 : decode cX13_folded 27 = .ok (.iaload, 1) := by decide +kernel
theorem dX13_folded_28 : decode cX13_folded 28 = .ok (.bipush 11, 2) := by decide +kernel
theorem dX13_folded_30 : decode cX13_folded 30 = .ok (.if_icmp .ne 36, 3) := by decide +kernel
theorem dX13_folded_33 : decode cX13_folded 33 = .ok (.aload_n 0, 1) := by decide +kernel
theorem dX13_folded_34 : decode cX13_folded 34 = .ok (.getfield 726, 3) := by decide +kernel
theorem dX13_folded_37 : decode cX13_folded 37 = .ok (.aload_n 0, 1) := by decide +kernel
theorem dX13_folded_38 : decode cX13_folded 38 = .ok (.getfield 714, 3) := by decide +kernel
theorem dX13_folded_41 : decode cX13_folded 41 = .ok (.iload 4, 2) := by decide +kernel
theorem dX13_folded_43 : decode cX13_folded 43 = .ok (.iastore, 1) := by decide +kernel
theorem dX13_folded_44 : decode cX13_folded 44 = .ok (.aload_n 0, 1) := by decide +kernel
theorem dX13_folded_45 : decode cX13_folded 45 = .ok (.dup, 1) := by decide +kernel
theorem dX13_folded_46 : decode cX13_folded 46 = .ok (.getfield 714, 3) := by decide +kernel
theorem dX13_folded_49 : decode cX13_folded 49 = .ok (.iconst 1, 1) := by decide +kernel
theorem dX13_folded_50 : decode cX13_folded 50 = .ok (.iadd, 1) := by decide +kernel
theorem dX13_folded_51 : decode cX13_folded 51 = .ok (.putfield 714, 3) := by decide +kernel
theorem dX13_folded_54 : decode cX13_folded 54 = .ok (.aload_n 0, 1) := by decide +kernel
theorem dX13_folded_55 : decode cX13_folded 55 = .ok (.getfield 194, 3) := by decide +kernel
theorem dX13_folded_58 : decode cX13_folded 58 = .ok (.iload 4, 2) := by decide +kernel
theorem dX13_folded_60 : decode cX13_folded 60 = .ok (.iaload, 1) := by decide +kernel
theorem dX13_folded_61 : decode cX13_folded 61 = .ok (.istore 4, 2) := by decide +kernel
theorem dX13_folded_63 : decode cX13_folded 63 = .ok (.goto (-55), 3) := by decide +kernel
theorem dX13_folded_66 : decode cX13_folded 66 = .ok (.aload_n 0, 1) := by decide +kernel
theorem dX13_folded_67 : decode cX13_folded 67 = .ok (.getfield 173, 3) := by decide +kernel
theorem dX13_folded_70 : decode cX13_folded 70 = .ok (.iload 4, 2) := by decide +kernel
theorem dX13_folded_72 : decode cX13_folded 72 = .ok (.iaload, 1) := by decide +kernel
theorem dX13_folded_73 : decode cX13_folded 73 = .ok (.ifCond .ne 14, 3) := by decide +kernel
theorem dX13_folded_76 : decode cX13_folded 76 = .ok (.aload_n 0, 1) := by decide +kernel
theorem dX13_folded_77 : decode cX13_folded 77 = .ok (.getfield 206, 3) := by decide +kernel
theorem dX13_folded_80 : decode cX13_folded 80 = .ok (.iload 4, 2) := by decide +kernel
theorem dX13_folded_82 : decode cX13_folded 82 = .ok (.iaload, 1) := by decide +kernel
theorem dX13_folded_83 : decode cX13_folded 83 = .ok (.i2l, 1) := by decide +kernel
theorem dX13_folded_84 : decode cX13_folded 84 = .ok (.goto 38, 3) := by decide +kernel
theorem dX13_folded_87 : decode cX13_folded 87 = .ok (.aload_n 0, 1) := by decide +kernel
theorem dX13_folded_88 : decode cX13_folded 88 = .ok (.getfield 173, 3) := by decide +kernel
theorem dX13_folded_91 : decode cX13_folded 91 = .ok (.iload 4, 2) := by decide +kernel
theorem dX13_folded_93 : decode cX13_folded 93 = .ok (.iaload, 1) := by decide +kernel
theorem dX13_folded_94 : decode cX13_folded 94 = .ok (.iconst 3, 1) := by decide +kernel
theorem dX13_folded_95 : decode cX13_folded 95 = .ok (.if_icmp .eq 14, 3) := by decide +kernel
theorem dX13_folded_98 : decode cX13_folded 98 = .ok (.aload_n 0, 1) := by decide +kernel
theorem dX13_folded_99 : decode cX13_folded 99 = .ok (.getfield 173, 3) := by decide +kernel
theorem dX13_folded_102 : decode cX13_folded 102 = .ok (.iload 4, 2) := by decide +kernel
theorem dX13_folded_104 : decode cX13_folded 104 = .ok (.iaload, 1) := by decide +kernel
theorem dX13_folded_105 : decode cX13_folded 105 = .ok (.iconst 5, 1) := by decide +kernel
theorem dX13_folded_106 : decode cX13_folded 106 = .ok (.if_icmp .ne 13, 3) := by decide +kernel
theorem dX13_folded_109 : decode cX13_folded 109 = .ok (.aload_n 0, 1) := by decide +kernel
theorem dX13_folded_110 : decode cX13_folded 110 = .ok (.iload 4, 2) := by decide +kernel
theorem dX13_folded_112 : decode cX13_folded 112 = .ok (.iload_n 2, 1) := by decide +kernel
theorem dX13_folded_113 : decode cX13_folded 113 = .ok (.invokevirtual 729, 3) := by decide +kernel
theorem dX13_folded_116 : decode cX13_folded 116 = .ok (.goto 6, 3) := by decide +kernel
theorem dX13_folded_119 : decode cX13_folded 119 = .ok (.ldc2_w 721, 3) := by decide +kernel
theorem dX13_folded_122 : decode cX13_folded 122 = .ok (.lstore 5, 2) := by decide +kernel
theorem dX13_folded_124 : decode cX13_folded 124 = .ok (.aload_n 0, 1) := by decide +kernel
theorem dX13_folded_125 : decode cX13_folded 125 = .ok (.getfield 714, 3) := by decide +kernel
theorem dX13_folded_128 : decode cX13_folded 128 = .ok (.iload_n 3, 1) := by decide +kernel
theorem dX13_folded_129 : decode cX13_folded 129 = .ok (.if_icmp .le 97, 3) := by decide +kernel
theorem dX13_folded_132 : decode cX13_folded 132 = .ok (.aload_n 0, 1) := by decide +kernel
theorem dX13_folded_133 : decode cX13_folded 133 = .ok (.dup, 1) := by decide +kernel
theorem dX13_folded_134 : decode cX13_folded 134 = .ok (.getfield 714, 3) := by decide +kernel
theorem dX13_folded_137 : decode cX13_folded 137 = .ok (.iconst 1, 1) := by decide +kernel
theorem dX13_folded_138 : decode cX13_folded 138 = .ok (.isub, 1) := by decide +kernel
theorem dX13_folded_139 : decode cX13_folded 139 = .ok (.putfield 714, 3) := by decide +kernel
theorem dX13_folded_142 : decode cX13_folded 142 = .ok (.aload_n 0, 1) := by decide +kernel
theorem dX13_folded_143 : decode cX13_folded 143 = .ok (.getfield 726, 3) := by decide +kernel
theorem dX13_folded_146 : decode cX13_folded 146 = .ok (.aload_n 0, 1) := by decide +kernel
theorem dX13_folded_147 : decode cX13_folded 147 = .ok (.getfield 714, 3) := by decide +kernel
theorem dX13_folded_150 : decode cX13_folded 150 = .ok (.iaload, 1) := by decide +kernel
theorem dX13_folded_151 : decode cX13_folded 151 = .ok (.istore 4, 2) := by decide +kernel
theorem dX13_folded_153 : decode cX13_folded 153 = .ok (.aload_n 0, 1) := by decide +kernel
theorem dX13_folded_154 : decode cX13_folded 154 = .ok (.getfield 173, 3) := by decide +kernel
theorem dX13_folded_157 : decode cX13_folded 157 = .ok (.iload 4, 2) := by decide +kernel
theorem dX13_folded_159 : decode cX13_folded 159 = .ok (.iaload, 1) := by decide +kernel
theorem dX13_folded_160 : decode cX13_folded 160 = .ok (.invokestatic 723, 3) := by decide +kernel
theorem dX13_folded_163 : decode cX13_folded 163 = .ok (.ifCond .eq (-39), 3) := by decide +kernel
theorem dX13_folded_166 : decode cX13_folded 166 = .ok (.aload_n 0, 1) := by decide +kernel
theorem dX13_folded_167 : decode cX13_folded 167 = .ok (.aload_n 0, 1) := by decide +kernel
theorem dX13_folded_168 : decode cX13_folded 168 = .ok (.getfield 197, 3) := by decide +kernel
theorem dX13_folded_171 : decode cX13_folded 171 = .ok (.iload 4, 2) := by decide +kernel
theorem dX13_folded_173 : decode cX13_folded 173 = .ok (.iaload, 1) := by decide +kernel
theorem dX13_folded_174 : decode cX13_folded 174 = .ok (.iload_n 2, 1) := by decide +kernel
theorem dX13_folded_175 : decode cX13_folded 175 = .ok (.invokevirtual 717, 3) := by decide +kernel
theorem dX13_folded_178 : decode cX13_folded 178 = .ok (.lstore 7, 2) := by decide +kernel
theorem dX13_folded_180 : decode cX13_folded 180 = .ok (.lload 5, 2) := by decide +kernel
theorem dX13_folded_182 : decode cX13_folded 182 = .ok (.ldc2_w 721, 3) := by decide +kernel
theorem dX13_folded_185 : decode cX13_folded 185 = .ok (.lcmp, 1) := by decide +kernel
theorem dX13_folded_186 : decode cX13_folded 186 = .ok (.ifCond .eq 12, 3) := by decide +kernel
theorem dX13_folded_189 : decode cX13_folded 189 = .ok (.lload 7, 2) := by decide +kernel
theorem dX13_folded_191 : decode cX13_folded 191 = .ok (.ldc2_w 721, 3) := by decide +kernel
theorem dX13_folded_194 : decode cX13_folded 194 = .ok (.lcmp, 1) := by decide +kernel
theorem dX13_folded_195 : decode cX13_folded 195 = .ok (.ifCond .ne 9, 3) := by decide +kernel
theorem dX13_folded_198 : decode cX13_folded 198 = .ok (.ldc2_w 721, 3) := by decide +kernel
theorem dX13_folded_201 : decode cX13_folded 201 = .ok (.goto 20, 3) := by decide +kernel
theorem dX13_folded_204 : decode cX13_folded 204 = .ok (.aload_n 0, 1) := by decide +kernel
theorem dX13_folded_205 : decode cX13_folded 205 = .ok (.getfield 173, 3) := by decide +kernel
theorem dX13_folded_208 : decode cX13_folded 208 = .ok (.iload 4, 2) := by decide +kernel
theorem dX13_folded_210 : decode cX13_folded 210 = .ok (.iaload, 1) := by decide +kernel
theorem dX13_folded_211 : decode cX13_folded 211 = .ok (.lload 5, 2) := by decide +kernel
theorem dX13_folded_213 : decode cX13_folded 213 = .ok (.l2i, 1) := by decide +kernel
theorem dX13_folded_214 : decode cX13_folded 214 = .ok (.lload 7, 2) := by decide +kernel
theorem dX13_folded_216 : decode cX13_folded 216 = .ok (.l2i, 1) := by decide +kernel
theorem dX13_folded_217 : decode cX13_folded 217 = .ok (.invokestatic 732, 3) := by decide +kernel
theorem dX13_folded_220 : decode cX13_folded 220 = .ok (.i2l, 1) := by decide +kernel
theorem dX13_folded_221 : decode cX13_folded 221 = .ok (.lstore 5, 2) := by decide +kernel
theorem dX13_folded_223 : decode cX13_folded 223 = .ok (.goto (-99), 3) := by decide +kernel
theorem dX13_folded_226 : decode cX13_folded 226 = .ok (.lload 5, 2) := by decide +kernel
theorem dX13_folded_228 : decode cX13_folded 228 = .ok (.lreturn, 1) := by decide +kernel
theorem dX13_knownConstant_0 : decode cX13_knownConstant 0 = .ok (.aload_n 0, 1) := by decide +kernel
theorem dX13_knownConstant_1 : decode cX13_knownConstant 1 = .ok (.getfield 173, 3) := by decide +kernel
theorem dX13_knownConstant_4 : decode cX13_knownConstant 4 = .ok (.iload_n 1, 1) := by decide +kernel
theorem dX13_knownConstant_5 : decode cX13_knownConstant 5 = .ok (.iaload, 1) := by decide +kernel
theorem dX13_knownConstant_6 : decode cX13_knownConstant 6 = .ok (.iconst 3, 1) := by decide +kernel
theorem dX13_knownConstant_7 : decode cX13_knownConstant 7 = .ok (.if_icmp .ne 7, 3) := by decide +kernel
theorem dX13_knownConstant_10 : decode cX13_knownConstant 10 = .ok (.iload_n 2, 1) := by decide +kernel
theorem dX13_knownConstant_11 : decode cX13_knownConstant 11 = .ok (.goto 13, 3) := by decide +kernel
theorem dX13_knownConstant_14 : decode cX13_knownConstant 14 = .ok (.aload_n 0, 1) := by decide +kernel
theorem dX13_knownConstant_15 : decode cX13_knownConstant 15 = .ok (.aload_n 0, 1) := by decide +kernel
theorem dX13_knownConstant_16 : decode cX13_knownConstant 16 = .ok (.getfield 188, 3) := by decide +kernel
theorem dX13_knownConstant_19 : decode cX13_knownConstant 19 = .ok (.iload_n 1, 1) := by decide +kernel
theorem dX13_knownConstant_20 : decode cX13_knownConstant 20 = .ok (.laload, 1) := by decide +kernel
theorem dX13_knownConstant_21 : decode cX13_knownConstant 21 = .ok (.invokevirtual 551, 3) := by decide +kernel
theorem dX13_knownConstant_24 : decode cX13_knownConstant 24 = .ok (.istore_n 3, 1) := by decide +kernel
theorem dX13_knownConstant_25 : decode cX13_knownConstant 25 = .ok (.iload_n 3, 1) := by decide +kernel
theorem dX13_knownConstant_26 : decode cX13_knownConstant 26 = .ok (.bipush (-2), 2) := by decide +kernel
theorem dX13_knownConstant_28 : decode cX13_knownConstant 28 = .ok (.if_icmp .eq 22, 3) := by decide +kernel
theorem dX13_knownConstant_31 : decode cX13_knownConstant 31 = .ok (.aload_n 0, 1) := by decide +kernel
theorem dX13_knownConstant_32 : decode cX13_knownConstant 32 = .ok (.getfield 173, 3) := by decide +kernel
theorem dX13_knownConstant_35 : decode cX13_knownConstant 35 = .ok (.iload_n 1, 1) := by decide +kernel
theorem dX13_knownConstant_36 : decode cX13_knownConstant 36 = .ok (.iaload, 1) := by decide +kernel
theorem dX13_knownConstant_37 : decode cX13_knownConstant 37 = .ok (.iconst 5, 1) := by decide +kernel
theorem dX13_knownConstant_38 : decode cX13_knownConstant 38 = .ok (.if_icmp .ne 16, 3) := by decide +kernel
theorem dX13_knownConstant_41 : decode cX13_knownConstant 41 = .ok (.aload_n 0, 1) := by decide +kernel
theorem dX13_knownConstant_42 : decode cX13_knownConstant 42 = .ok (.iload_n 3, 1) := by decide +kernel
theorem dX13_knownConstant_43 : decode cX13_knownConstant 43 = .ok (.iload_n 2, 1) := by decide +kernel
theorem dX13_knownConstant_44 : decode cX13_knownConstant 44 = .ok (.invokevirtual 652, 3) := by decide +kernel
theorem dX13_knownConstant_47 : decode cX13_knownConstant 47 = .ok (.ifCond .ne 7, 3) := by decide +kernel
theorem dX13_knownConstant_50 : decode cX13_knownConstant 50 = .ok (.ldc2_w 721, 3) := by decide +kernel
theorem dX13_knownConstant_53 : decode cX13_knownConstant 53 = .ok (.lreturn, 1) := by decide +kernel
theorem dX13_knownConstant_54 : decode cX13_knownConstant 54 = .ok (.aload_n 0, 1) := by decide +kernel
theorem dX13_knownConstant_55 : decode cX13_knownConstant 55 = .ok (.iload_n 3, 1) := by decide +kernel
theorem dX13_knownConstant_56 : decode cX13_knownConstant 56 = .ok (.aload_n 0, 1) := by decide +kernel
theorem dX13_knownConstant_57 : decode cX13_knownConstant 57 = .ok (.getfield 185, 3) := by decide +kernel
theorem dX13_knownConstant_60 : decode cX13_knownConstant 60 = .ok (.iload_n 1, 1) := by decide +kernel
theorem dX13_knownConstant_61 : decode cX13_knownConstant 61 = .ok (.laload, 1) := by decide +kernel
theorem dX13_knownConstant_62 : decode cX13_knownConstant 62 = .ok (.lconst 0, 1) := by decide +kernel
theorem dX13_knownConstant_63 : decode cX13_knownConstant 63 = .ok (.invokevirtual 736, 3) := by decide +kernel
theorem dX13_knownConstant_66 : decode cX13_knownConstant 66 = .ok (.istore 4, 2) := by decide +kernel
theorem dX13_knownConstant_68 : decode cX13_knownConstant 68 = .ok (.iload 4, 2) := by decide +kernel
theorem dX13_knownConstant_70 : decode cX13_knownConstant 70 = .ok (.bipush (-2), 2) := by decide +kernel
theorem dX13_knownConstant_72 : decode cX13_knownConstant 72 = .ok (.if_icmp .eq 35, 3) := by decide +kernel
theorem dX13_knownConstant_75 : decode cX13_knownConstant 75 = .ok (.aload_n 0, 1) := by decide +kernel
theorem dX13_knownConstant_76 : decode cX13_knownConstant 76 = .ok (.getfield 377, 3) := by decide +kernel
theorem dX13_knownConstant_79 : decode cX13_knownConstant 79 = .ok (.iload 4, 2) := by decide +kernel
theorem dX13_knownConstant_81 : decode cX13_knownConstant 81 = .ok (.baload, 1) := by decide +kernel
theorem dX13_knownConstant_82 : decode cX13_knownConstant 82 = .ok (.ifCond .eq 25, 3) := by decide +kernel
theorem dX13_knownConstant_85 : decode cX13_knownConstant 85 = .ok (.aload_n 0, 1) := by decide +kernel
theorem dX13_knownConstant_86 : decode cX13_knownConstant 86 = .ok (.iload 4, 2) := by decide +kernel
theorem dX13_knownConstant_88 : decode cX13_knownConstant 88 = .ok (.iload_n 3, 1) := by decide +kernel
theorem dX13_knownConstant_89 : decode cX13_knownConstant 89 = .ok (.iload_n 2, 1) := by decide +kernel
theorem dX13_knownConstant_90 : decode cX13_knownConstant 90 = .ok (.invokevirtual 739, 3) := by decide +kernel
theorem dX13_knownConstant_93 : decode cX13_knownConstant 93 = .ok (.ifCond .eq 14, 3) := by decide +kernel
theorem dX13_knownConstant_96 : decode cX13_knownConstant 96 = .ok (.aload_n 0, 1) := by decide +kernel
theorem dX13_knownConstant_97 : decode cX13_knownConstant 97 = .ok (.getfield 380, 3) := by decide +kernel
theorem dX13_knownConstant_100 : decode cX13_knownConstant 100 = .ok (.iload 4, 2) := by decide +kernel
theorem dX13_knownConstant_102 : decode cX13_knownConstant 102 = .ok (.iaload, 1) := by decide +kernel
theorem dX13_knownConstant_103 : decode cX13_knownConstant 103 = .ok (.i2l, 1) := by decide +kernel
theorem dX13_knownConstant_104 : decode cX13_knownConstant 104 = .ok (.goto 6, 3) := by decide +kernel
theorem dX13_knownConstant_107 : decode cX13_knownConstant 107 = .ok (.ldc2_w 721, 3) := by decide +kernel
theorem dX13_knownConstant_110 : decode cX13_knownConstant 110 = .ok (.lreturn, 1) := by decide +kernel
theorem dX13_bodies_0 : decode cX13_bodies 0 = .ok (.iconst 0, 1) := by decide +kernel
theorem dX13_bodies_1 : decode cX13_bodies 1 = .ok (.istore_n 1, 1) := by decide +kernel
theorem dX13_bodies_2 : decode cX13_bodies 2 = .ok (.iload_n 1, 1) := by decide +kernel
theorem dX13_bodies_3 : decode cX13_bodies 3 = .ok (.aload_n 0, 1) := by decide +kernel
theorem dX13_bodies_4 : decode cX13_bodies 4 = .ok (.getfield 230, 3) := by decide +kernel
theorem dX13_bodies_7 : decode cX13_bodies 7 = .ok (.aload_n 0, 1) := by decide +kernel
theorem dX13_bodies_8 : decode cX13_bodies 8 = .ok (.getfield 84, 3) := by decide +kernel
theorem dX13_bodies_11 : decode cX13_bodies 11 = .ok (.iaload, 1) := by decide +kernel
theorem dX13_bodies_12 : decode cX13_bodies 12 = .ok (.if_icmp .ge 76, 3) := by decide +kernel
theorem dX13_bodies_15 : decode cX13_bodies 15 = .ok (.aload_n 0, 1) := by decide +kernel
theorem dX13_bodies_16 : decode cX13_bodies 16 = .ok (.getfield 129, 3) := by decide +kernel
theorem dX13_bodies_19 : decode cX13_bodies 19 = .ok (.ifCond .ne 69, 3) := by decide +kernel
theorem dX13_bodies_22 : decode cX13_bodies 22 = .ok (.aload_n 0, 1) := by decide +kernel
theorem dX13_bodies_23 : decode cX13_bodies 23 = .ok (.getfield 84, 3) := by decide +kernel
theorem dX13_bodies_26 : decode cX13_bodies 26 = .ok (.bipush 12, 2) := by decide +kernel
theorem dX13_bodies_28 : decode cX13_bodies 28 = .ok (.imul, 1) := by decide +kernel
theorem dX13_bodies_29 : decode cX13_bodies 29 = .ok (.iload_n 1, 1) := by decide +kernel
theorem dX13_bodies_30 : decode cX13_bodies 30 = .ok (.iadd, 1) := by decide +kernel
theorem dX13_bodies_31 : decode cX13_bodies 31 = .ok (.istore_n 2, 1) := by decide +kernel
theorem dX13_bodies_32 : decode cX13_bodies 32 = .ok (.iconst 0, 1) := by decide +kernel
theorem dX13_bodies_33 : decode cX13_bodies 33 = .ok (.istore_n 3, 1) := by decide +kernel
theorem dX13_bodies_34 : decode cX13_bodies 34 = .ok (.iload_n 3, 1) := by decide +kernel
theorem dX13_bodies_35 : decode cX13_bodies 35 = .ok (.aload_n 0, 1) := by decide +kernel
theorem dX13_bodies_36 : decode cX13_bodies 36 = .ok (.getfield 275, 3) := by decide +kernel
theorem dX13_bodies_39 : decode cX13_bodies 39 = .ok (.iload_n 2, 1) := by decide +kernel
theorem dX13_bodies_40 : decode cX13_bodies 40 = .ok (.iaload, 1) := by decide +kernel
theorem dX13_bodies_41 : decode cX13_bodies 41 = .ok (.if_icmp .ge 41, 3) := by decide +kernel
theorem dX13_bodies_44 : decode cX13_bodies 44 = .ok (.aload_n 0, 1) := by decide +kernel
theorem dX13_bodies_45 : decode cX13_bodies 45 = .ok (.getfield 129, 3) := by decide +kernel
theorem dX13_bodies_48 : decode cX13_bodies 48 = .ok (.ifCond .ne 34, 3) := by decide +kernel
theorem dX13_bodies_51 : decode cX13_bodies 51 = .ok (.aload_n 0, 1) := by decide +kernel
theorem dX13_bodies_52 : decode cX13_bodies 52 = .ok (.getfield 350, 3) := by decide +kernel
theorem dX13_bodies_55 : decode cX13_bodies 55 = .ok (.iload_n 2, 1) := by decide +kernel
theorem dX13_bodies_56 : decode cX13_bodies 56 = .ok (.bipush 34, 2) := by decide +kernel
theorem dX13_bodies_58 : decode cX13_bodies 58 = .ok (.imul, 1) := by decide +kernel
theorem dX13_bodies_59 : decode cX13_bodies 59 = .ok (.iload_n 3, 1) := by decide +kernel
theorem dX13_bodies_60 : decode cX13_bodies 60 = .ok (.iadd, 1) := by decide +kernel
theorem dX13_bodies_61 : decode cX13_bodies 61 = .ok (.baload, 1) := by decide +kernel
theorem dX13_bodies_62 : decode cX13_bodies 62 = .ok (.ifCond .ne 14, 3) := by decide +kernel
theorem dX13_bodies_65 : decode cX13_bodies 65 = .ok (.aload_n 0, 1) := by decide +kernel
theorem dX13_bodies_66 : decode cX13_bodies 66 = .ok (.iload_n 2, 1) := by decide +kernel
theorem dX13_bodies_67 : decode cX13_bodies 67 = .ok (.iload_n 2, 1) := by decide +kernel
theorem dX13_bodies_68 : decode cX13_bodies 68 = .ok (.bipush 34, 2) := by decide +kernel
theorem dX13_bodies_70 : decode cX13_bodies 70 = .ok (.imul, 1) := by decide +kernel
theorem dX13_bodies_71 : decode cX13_bodies 71 = .ok (.iload_n 3, 1) := by decide +kernel
theorem dX13_bodies_72 : decode cX13_bodies 72 = .ok (.iadd, 1) := by decide +kernel
theorem dX13_bodies_73 : decode cX13_bodies 73 = .ok (.invokevirtual 742, 3) := by decide +kernel
theorem dX13_bodies_76 : decode cX13_bodies 76 = .ok (.iinc 3 1, 3) := by decide +kernel
theorem dX13_bodies_79 : decode cX13_bodies 79 = .ok (.goto (-45), 3) := by decide +kernel
theorem dX13_bodies_82 : decode cX13_bodies 82 = .ok (.iinc 1 1, 3) := by decide +kernel
theorem dX13_bodies_85 : decode cX13_bodies 85 = .ok (.goto (-83), 3) := by decide +kernel
theorem dX13_bodies_88 : decode cX13_bodies 88 = .ok (.return_, 1) := by decide +kernel
theorem dX13_bodyOf_0 : decode cX13_bodyOf 0 = .ok (.aload_n 0, 1) := by decide +kernel
theorem dX13_bodyOf_1 : decode cX13_bodyOf 1 = .ok (.iload_n 1, 1) := by decide +kernel
theorem dX13_bodyOf_2 : decode cX13_bodyOf 2 = .ok (.putfield 745, 3) := by decide +kernel
theorem dX13_bodyOf_5 : decode cX13_bodyOf 5 = .ok (.aload_n 0, 1) := by decide +kernel
theorem dX13_bodyOf_6 : decode cX13_bodyOf 6 = .ok (.iload_n 2, 1) := by decide +kernel
theorem dX13_bodyOf_7 : decode cX13_bodyOf 7 = .ok (.putfield 748, 3) := by decide +kernel
theorem dX13_bodyOf_10 : decode cX13_bodyOf 10 = .ok (.aload_n 0, 1) := by decide +kernel
theorem dX13_bodyOf_11 : decode cX13_bodyOf 11 = .ok (.aload_n 0, 1) := by decide +kernel
theorem dX13_bodyOf_12 : decode cX13_bodyOf 12 = .ok (.getfield 341, 3) := by decide +kernel
theorem dX13_bodyOf_15 : decode cX13_bodyOf 15 = .ok (.iload_n 2, 1) := by decide +kernel
theorem dX13_bodyOf_16 : decode cX13_bodyOf 16 = .ok (.baload, 1) := by decide +kernel
theorem dX13_bodyOf_17 : decode cX13_bodyOf 17 = .ok (.ifCond .ne 13, 3) := by decide +kernel
theorem dX13_bodyOf_20 : decode cX13_bodyOf 20 = .ok (.aload_n 0, 1) := by decide +kernel
theorem dX13_bodyOf_21 : decode cX13_bodyOf 21 = .ok (.getfield 402, 3) := by decide +kernel
theorem dX13_bodyOf_24 : decode cX13_bodyOf 24 = .ok (.iload_n 2, 1) := by decide +kernel
theorem dX13_bodyOf_25 : decode cX13_bodyOf 25 = .ok (.iaload, 1) := by decide +kernel
theorem dX13_bodyOf_26 : decode cX13_bodyOf 26 = .ok (.iconst 3, 1) := by decide +kernel
theorem dX13_bodyOf_27 : decode cX13_bodyOf 27 = .ok (.if_icmp .ne 7, 3) := by decide +kernel
theorem dX13_bodyOf_30 : decode cX13_bodyOf 30 = .ok (.iconst 1, 1) := by decide +kernel
theorem dX13_bodyOf_31 : decode cX13_bodyOf 31 = .ok (.goto 4, 3) := by decide +kernel
theorem dX13_bodyOf_34 : decode cX13_bodyOf 34 = .ok (.iconst 0, 1) := by decide +kernel
theorem dX13_bodyOf_35 : decode cX13_bodyOf 35 = .ok (.putfield 751, 3) := by decide +kernel
theorem dX13_bodyOf_38 : decode cX13_bodyOf 38 = .ok (.aload_n 0, 1) := by decide +kernel
theorem dX13_bodyOf_39 : decode cX13_bodyOf 39 = .ok (.iconst 0, 1) := by decide +kernel
theorem dX13_bodyOf_40 : decode cX13_bodyOf 40 = .ok (.putfield 754, 3) := by decide +kernel
theorem dX13_bodyOf_43 : decode cX13_bodyOf 43 = .ok (.aload_n 0, 1) := by decide +kernel
theorem dX13_bodyOf_44 : decode cX13_bodyOf 44 = .ok (.iconst 0, 1) := by decide +kernel
theorem dX13_bodyOf_45 : decode cX13_bodyOf 45 = .ok (.putfield 714, 3) := by decide +kernel
theorem dX13_bodyOf_48 : decode cX13_bodyOf 48 = .ok (.aload_n 0, 1) := by decide +kernel
theorem dX13_bodyOf_49 : decode cX13_bodyOf 49 = .ok (.getfield 402, 3) := by decide +kernel
theorem dX13_bodyOf_52 : decode cX13_bodyOf 52 = .ok (.iload_n 2, 1) := by decide +kernel
theorem dX13_bodyOf_53 : decode cX13_bodyOf 53 = .ok (.iaload, 1) := by decide +kernel
theorem dX13_bodyOf_54 : decode cX13_bodyOf 54 = .ok (.ifCond .ne 41, 3) := by decide +kernel
theorem dX13_bodyOf_57 : decode cX13_bodyOf 57 = .ok (.aload_n 0, 1) := by decide +kernel
theorem dX13_bodyOf_58 : decode cX13_bodyOf 58 = .ok (.getfield 365, 3) := by decide +kernel
theorem dX13_bodyOf_61 : decode cX13_bodyOf 61 = .ok (.iload_n 2, 1) := by decide +kernel
theorem dX13_bodyOf_62 : decode cX13_bodyOf 62 = .ok (.iaload, 1) := by decide +kernel
theorem dX13_bodyOf_63 : decode cX13_bodyOf 63 = .ok (.bipush (-2), 2) := by decide +kernel
theorem dX13_bodyOf_65 : decode cX13_bodyOf 65 = .ok (.if_icmp .eq 29, 3) := by decide +kernel
theorem dX13_bodyOf_68 : decode cX13_bodyOf 68 = .ok (.aload_n 0, 1) := by decide +kernel
theorem dX13_bodyOf_69 : decode cX13_bodyOf 69 = .ok (.aload_n 0, 1) := by decide +kernel
theorem dX13_bodyOf_70 : decode cX13_bodyOf 70 = .ok (.getfield 365, 3) := by decide +kernel
theorem dX13_bodyOf_73 : decode cX13_bodyOf 73 = .ok (.iload_n 2, 1) := by decide +kernel
theorem dX13_bodyOf_74 : decode cX13_bodyOf 74 = .ok (.iaload, 1) := by decide +kernel
theorem dX13_bodyOf_75 : decode cX13_bodyOf 75 = .ok (.aload_n 0, 1) := by decide +kernel
theorem dX13_bodyOf_76 : decode cX13_bodyOf 76 = .ok (.aload_n 0, 1) := by decide +kernel
theorem dX13_bodyOf_77 : decode cX13_bodyOf 77 = .ok (.getfield 365, 3) := by decide +kernel
theorem dX13_bodyOf_80 : decode cX13_bodyOf 80 = .ok (.iload_n 2, 1) := by decide +kernel
theorem dX13_bodyOf_81 : decode cX13_bodyOf 81 = .ok (.iaload, 1) := by decide +kernel
theorem dX13_bodyOf_82 : decode cX13_bodyOf 82 = .ok (.invokevirtual 757, 3) := by decide +kernel
theorem dX13_bodyOf_85 : decode cX13_bodyOf 85 = .ok (.aload_n 0, 1) := by decide +kernel
theorem dX13_bodyOf_86 : decode cX13_bodyOf 86 = .ok (.getfield 359, 3) := by decide +kernel
theorem dX13_bodyOf_89 : decode cX13_bodyOf 89 = .ok (.iload_n 2, 1) := by decide +kernel
theorem dX13_bodyOf_90 : decode cX13_bodyOf 90 = .ok (.laload, 1) := by decide +kernel
theorem dX13_bodyOf_91 : decode cX13_bodyOf 91 = .ok (.invokevirtual 760, 3) := by decide +kernel
theorem dX13_bodyOf_94 : decode cX13_bodyOf 94 = .ok (.return_, 1) := by decide +kernel
theorem dX13_bodyOf_95 : decode cX13_bodyOf 95 = .ok (.iconst 0, 1) := by decide +kernel
theorem dX13_bodyOf_96 : decode cX13_bodyOf 96 = .ok (.istore_n 3, 1) := by decide +kernel
theorem dX13_bodyOf_97 : decode cX13_bodyOf 97 = .ok (.iload_n 3, 1) := by decide +kernel
theorem dX13_bodyOf_98 : decode cX13_bodyOf 98 = .ok (.aload_n 0, 1) := by decide +kernel
theorem dX13_bodyOf_99 : decode cX13_bodyOf 99 = .ok (.getfield 362, 3) := by decide +kernel
theorem dX13_bodyOf_102 : decode cX13_bodyOf 102 = .ok (.iload_n 2, 1) := by decide +kernel
theorem dX13_bodyOf_103 : decode cX13_bodyOf 103 = .ok (.iaload, 1) := by decide +kernel
theorem dX13_bodyOf_104 : decode cX13_bodyOf 104 = .ok (.if_icmp .ge 43, 3) := by decide +kernel
theorem dX13_bodyOf_107 : decode cX13_bodyOf 107 = .ok (.aload_n 0, 1) := by decide +kernel
theorem dX13_bodyOf_108 : decode cX13_bodyOf 108 = .ok (.aload_n 0, 1) := by decide +kernel
theorem dX13_bodyOf_109 : decode cX13_bodyOf 109 = .ok (.getfield 445, 3) := by decide +kernel
theorem dX13_bodyOf_112 : decode cX13_bodyOf 112 = .ok (.iconst 4, 1) := by decide +kernel
theorem dX13_bodyOf_113 : decode cX13_bodyOf 113 = .ok (.iload_n 2, 1) := by decide +kernel
theorem dX13_bodyOf_114 : decode cX13_bodyOf 114 = .ok (.imul, 1) := by decide +kernel
theorem dX13_bodyOf_115 : decode cX13_bodyOf 115 = .ok (.iload_n 3, 1) := by decide +kernel
theorem dX13_bodyOf_116 : decode cX13_bodyOf 116 = .ok (.iadd, 1) := by decide +kernel
theorem dX13_bodyOf_117 : decode cX13_bodyOf 117 = .ok (.laload, 1) := by decide +kernel
theorem dX13_bodyOf_118 : decode cX13_bodyOf 118 = .ok (.aload_n 0, 1) := by decide +kernel
theorem dX13_bodyOf_119 : decode cX13_bodyOf 119 = .ok (.getfield 442, 3) := by decide +kernel
theorem dX13_bodyOf_122 : decode cX13_bodyOf 122 = .ok (.iconst 4, 1) := by decide +kernel
theorem dX13_bodyOf_123 : decode cX13_bodyOf 123 = .ok (.iload_n 2, 1) := by decide +kernel
theorem dX13_bodyOf_124 : decode cX13_bodyOf 124 = .ok (.imul, 1) := by decide +kernel
theorem dX13_bodyOf_125 : decode cX13_bodyOf 125 = .ok (.iload_n 3, 1) := by decide +kernel
theorem dX13_bodyOf_126 : decode cX13_bodyOf 126 = .ok (.iadd, 1) := by decide +kernel
theorem dX13_bodyOf_127 : decode cX13_bodyOf 127 = .ok (.laload, 1) := by decide +kernel
theorem dX13_bodyOf_128 : decode cX13_bodyOf 128 = .ok (.aload_n 0, 1) := by decide +kernel
theorem dX13_bodyOf_129 : decode cX13_bodyOf 129 = .ok (.getfield 448, 3) := by decide +kernel
theorem dX13_bodyOf_132 : decode cX13_bodyOf 132 = .ok (.iconst 4, 1) := by decide +kernel
theorem dX13_bodyOf_133 : decode cX13_bodyOf 133 = .ok (.iload_n 2, 1) := by decide +kernel
theorem dX13_bodyOf_134 : decode cX13_bodyOf 134 = .ok (.imul, 1) := by decide +kernel
theorem dX13_bodyOf_135 : decode cX13_bodyOf 135 = .ok (.iload_n 3, 1) := by decide +kernel
theorem dX13_bodyOf_136 : decode cX13_bodyOf 136 = .ok (.iadd, 1) := by decide +kernel
theorem dX13_bodyOf_137 : decode cX13_bodyOf 137 = .ok (.iaload, 1) := by decide +kernel
theorem dX13_bodyOf_138 : decode cX13_bodyOf 138 = .ok (.invokevirtual 764, 3) := by decide +kernel
theorem dX13_bodyOf_141 : decode cX13_bodyOf 141 = .ok (.iinc 3 1, 3) := by decide +kernel
theorem dX13_bodyOf_144 : decode cX13_bodyOf 144 = .ok (.goto (-47), 3) := by decide +kernel
theorem dX13_bodyOf_147 : decode cX13_bodyOf 147 = .ok (.aload_n 0, 1) := by decide +kernel
theorem dX13_bodyOf_148 : decode cX13_bodyOf 148 = .ok (.getfield 402, 3) := by decide +kernel
theorem dX13_bodyOf_151 : decode cX13_bodyOf 151 = .ok (.iload_n 2, 1) := by decide +kernel
theorem dX13_bodyOf_152 : decode cX13_bodyOf 152 = .ok (.iaload, 1) := by decide +kernel
theorem dX13_bodyOf_153 : decode cX13_bodyOf 153 = .ok (.iconst 2, 1) := by decide +kernel
theorem dX13_bodyOf_154 : decode cX13_bodyOf 154 = .ok (.if_icmp .ne 39, 3) := by decide +kernel
theorem dX13_bodyOf_157 : decode cX13_bodyOf 157 = .ok (.aload_n 0, 1) := by decide +kernel
theorem dX13_bodyOf_158 : decode cX13_bodyOf 158 = .ok (.iload_n 2, 1) := by decide +kernel
theorem dX13_bodyOf_159 : decode cX13_bodyOf 159 = .ok (.invokevirtual 768, 3) := by decide +kernel
theorem dX13_bodyOf_162 : decode cX13_bodyOf 162 = .ok (.ifCond .ne 31, 3) := by decide +kernel
theorem dX13_bodyOf_165 : decode cX13_bodyOf 165 = .ok (.aload_n 0, 1) := by decide +kernel
theorem dX13_bodyOf_166 : decode cX13_bodyOf 166 = .ok (.aload_n 0, 1) := by decide +kernel
theorem dX13_bodyOf_167 : decode cX13_bodyOf 167 = .ok (.iload_n 1, 1) := by decide +kernel
theorem dX13_bodyOf_168 : decode cX13_bodyOf 168 = .ok (.invokevirtual 558, 3) := by decide +kernel
theorem dX13_bodyOf_171 : decode cX13_bodyOf 171 = .ok (.bipush (-2), 2) := by decide +kernel
theorem dX13_bodyOf_173 : decode cX13_bodyOf 173 = .ok (.invokevirtual 771, 3) := by decide +kernel
theorem dX13_bodyOf_176 : decode cX13_bodyOf 176 = .ok (.bipush (-2), 2) := by decide +kernel
theorem dX13_bodyOf_178 : decode cX13_bodyOf 178 = .ok (.if_icmp .ne 15, 3) := by decide +kernel
theorem dX13_bodyOf_181 : decode cX13_bodyOf 181 = .ok (.aload_n 0, 1) := by decide +kernel
theorem dX13_bodyOf_182 : decode cX13_bodyOf 182 = .ok (.bipush 18, 2) := by decide +kernel
theorem dX13_bodyOf_184 : decode cX13_bodyOf 184 = .ok (.aload_n 0, 1) := by decide +kernel
theorem dX13_bodyOf_185 : decode cX13_bodyOf 185 = .ok (.getfield 405, 3) := by decide +kernel
theorem dX13_bodyOf_188 : decode cX13_bodyOf 188 = .ok (.iload_n 2, 1) := by decide +kernel
theorem dX13_bodyOf_189 : decode cX13_bodyOf 189 = .ok (.iaload, 1) := by decide +kernel
theorem dX13_bodyOf_190 : decode cX13_bodyOf 190 = .ok (.invokevirtual 152, 3) := by decide +kernel
theorem dX13_bodyOf_193 : decode cX13_bodyOf 193 = .ok (.aload_n 0, 1) := by decide +kernel
theorem dX13_bodyOf_194 : decode cX13_bodyOf 194 = .ok (.getfield 368, 3) := by decide +kernel
theorem dX13_bodyOf_197 : decode cX13_bodyOf 197 = .ok (.iload_n 2, 1) := by decide +kernel
theorem dX13_bodyOf_198 : decode cX13_bodyOf 198 = .ok (.iaload, 1) := by decide +kernel
theorem dX13_bodyOf_199 : decode cX13_bodyOf 199 = .ok (.bipush (-2), 2) := by decide +kernel
theorem dX13_bodyOf_201 : decode cX13_bodyOf 201 = .ok (.if_icmp .eq 13, 3) := by decide +kernel
theorem dX13_bodyOf_204 : decode cX13_bodyOf 204 = .ok (.aload_n 0, 1) := by decide +kernel
theorem dX13_bodyOf_205 : decode cX13_bodyOf 205 = .ok (.aload_n 0, 1) := by decide +kernel
theorem dX13_bodyOf_206 : decode cX13_bodyOf 206 = .ok (.getfield 368, 3) := by decide +kernel
theorem dX13_bodyOf_209 : decode cX13_bodyOf 209 = .ok (.iload_n 2, 1) := by decide +kernel
theorem dX13_bodyOf_210 : decode cX13_bodyOf 210 = .ok (.iaload, 1) := by decide +kernel
theorem dX13_bodyOf_211 : decode cX13_bodyOf 211 = .ok (.invokevirtual 774, 3) := by decide +kernel
theorem dX13_bodyOf_214 : decode cX13_bodyOf 214 = .ok (.aload_n 0, 1) := by decide +kernel
theorem dX13_bodyOf_215 : decode cX13_bodyOf 215 = .ok (.getfield 129, 3) := by decide +kernel
theorem dX13_bodyOf_218 : decode cX13_bodyOf 218 = .ok (.ifCond .ne 60, 3) := by decide +kernel
theorem dX13_bodyOf_221 : decode cX13_bodyOf 221 = .ok (.aload_n 0, 1) := by decide +kernel
theorem dX13_bodyOf_222 : decode cX13_bodyOf 222 = .ok (.getfield 402, 3) := by decide +kernel
theorem dX13_bodyOf_225 : decode cX13_bodyOf 225 = .ok (.iload_n 2, 1) := by decide +kernel
theorem dX13_bodyOf_226 : decode cX13_bodyOf 226 = .ok (.iaload, 1) := by decide +kernel
theorem dX13_bodyOf_227 : decode cX13_bodyOf 227 = .ok (.iconst 1, 1) := by decide +kernel
theorem dX13_bodyOf_228 : decode cX13_bodyOf 228 = .ok (.if_icmp .ne 50, 3) := by decide +kernel
theorem dX13_bodyOf_231 : decode cX13_bodyOf 231 = .ok (.aload_n 0, 1) := by decide +kernel
theorem dX13_bodyOf_232 : decode cX13_bodyOf 232 = .ok (.getfield 368, 3) := by decide +kernel
theorem dX13_bodyOf_235 : decode cX13_bodyOf 235 = .ok (.iload_n 2, 1) := by decide +kernel
theorem dX13_bodyOf_236 : decode cX13_bodyOf 236 = .ok (.iaload, 1) := by decide +kernel
theorem dX13_bodyOf_237 : decode cX13_bodyOf 237 = .ok (.bipush (-2), 2) := by decide +kernel
theorem dX13_bodyOf_239 : decode cX13_bodyOf 239 = .ok (.if_icmp .eq 39, 3) := by decide +kernel
theorem dX13_bodyOf_242 : decode cX13_bodyOf 242 = .ok (.aload_n 0, 1) := by decide +kernel
theorem dX13_bodyOf_243 : decode cX13_bodyOf 243 = .ok (.getfield 359, 3) := by decide +kernel
theorem dX13_bodyOf_246 : decode cX13_bodyOf 246 = .ok (.iload_n 2, 1) := by decide +kernel
theorem dX13_bodyOf_247 : decode cX13_bodyOf 247 = .ok (.laload, 1) := by decide +kernel
theorem dX13_bodyOf_248 : decode cX13_bodyOf 248 = .ok (.lconst 1, 1) := by decide +kernel
theorem dX13_bodyOf_249 : decode cX13_bodyOf 249 = .ok (.lcmp, 1) := by decide +kernel
theorem dX13_bodyOf_250 : decode cX13_bodyOf 250 = .ok (.ifCond .eq 28, 3) := by decide +kernel
theorem dX13_bodyOf_253 : decode cX13_bodyOf 253 = .ok (.aload_n 0, 1) := by decide +kernel
theorem dX13_bodyOf_254 : decode cX13_bodyOf 254 = .ok (.aload_n 0, 1) := by decide +kernel
theorem dX13_bodyOf_255 : decode cX13_bodyOf 255 = .ok (.getfield 368, 3) := by decide +kernel
theorem dX13_bodyOf_258 : decode cX13_bodyOf 258 = .ok (.iload_n 2, 1) := by decide +kernel
theorem dX13_bodyOf_259 : decode cX13_bodyOf 259 = .ok (.iaload, 1) := by decide +kernel
theorem dX13_bodyOf_260 : decode cX13_bodyOf 260 = .ok (.invokevirtual 777, 3) := by decide +kernel
theorem dX13_bodyOf_263 : decode cX13_bodyOf 263 = .ok (.ifCond .eq 15, 3) := by decide +kernel
theorem dX13_bodyOf_266 : decode cX13_bodyOf 266 = .ok (.aload_n 0, 1) := by decide +kernel
theorem dX13_bodyOf_267 : decode cX13_bodyOf 267 = .ok (.bipush 17, 2) := by decide +kernel
theorem dX13_bodyOf_269 : decode cX13_bodyOf 269 = .ok (.aload_n 0, 1) := by decide +kernel
theorem dX13_bodyOf_270 : decode cX13_bodyOf 270 = .ok (.getfield 405, 3) := by decide +kernel
theorem dX13_bodyOf_273 : decode cX13_bodyOf 273 = .ok (.iload_n 2, 1) := by decide +kernel
theorem dX13_bodyOf_274 : decode cX13_bodyOf 274 = .ok (.iaload, 1) := by decide +kernel
theorem dX13_bodyOf_275 : decode cX13_bodyOf 275 = .ok (.invokevirtual 152, 3) := by decide +kernel
theorem dX13_bodyOf_278 : decode cX13_bodyOf 278 = .ok (.return_, 1) := by decide +kernel
theorem dX13_beginsBySuper_0 : decode cX13_beginsBySuper 0 = .ok (.aload_n 0, 1) := by decide +kernel
theorem dX13_beginsBySuper_1 : decode cX13_beginsBySuper 1 = .ok (.getfield 368, 3) := by decide +kernel
theorem dX13_beginsBySuper_4 : decode cX13_beginsBySuper 4 = .ok (.iload_n 1, 1) := by decide +kernel
theorem dX13_beginsBySuper_5 : decode cX13_beginsBySuper 5 = .ok (.iaload, 1) := by decide +kernel
theorem dX13_beginsBySuper_6 : decode cX13_beginsBySuper 6 = .ok (.bipush (-2), 2) := by decide +kernel
theorem dX13_beginsBySuper_8 : decode cX13_beginsBySuper 8 = .ok (.if_icmp .ne 8, 3) := by decide +kernel
theorem dX13_beginsBySuper_11 : decode cX13_beginsBySuper 11 = .ok (.bipush (-2), 2) := by decide +kernel
theorem dX13_beginsBySuper_13 : decode cX13_beginsBySuper 13 = .ok (.goto 14, 3) := by decide +kernel
theorem dX13_beginsBySuper_16 : decode cX13_beginsBySuper 16 = .ok (.aload_n 0, 1) := by decide +kernel
theorem dX13_beginsBySuper_17 : decode cX13_beginsBySuper 17 = .ok (.getfield 194, 3) := by decide +kernel
theorem dX13_beginsBySuper_20 : decode cX13_beginsBySuper 20 = .ok (.aload_n 0, 1) := by decide +kernel
theorem dX13_beginsBySuper_21 : decode cX13_beginsBySuper 21 = .ok (.getfield 368, 3) := by decide +kernel
theorem dX13_beginsBySuper_24 : decode cX13_beginsBySuper 24 = .ok (.iload_n 1, 1) := by decide +kernel
theorem dX13_beginsBySuper_25 : decode cX13_beginsBySuper 25 = .ok (.iaload, 1) := by decide +kernel
theorem dX13_beginsBySuper_26 : decode cX13_beginsBySuper 26 = .ok (.iaload, 1) := by decide +kernel
theorem dX13_beginsBySuper_27 : decode cX13_beginsBySuper 27 = .ok (.istore_n 2, 1) := by decide +kernel
theorem dX13_beginsBySuper_28 : decode cX13_beginsBySuper 28 = .ok (.iload_n 2, 1) := by decide +kernel
theorem dX13_beginsBySuper_29 : decode cX13_beginsBySuper 29 = .ok (.bipush (-2), 2) := by decide +kernel
theorem dX13_beginsBySuper_31 : decode cX13_beginsBySuper 31 = .ok (.if_icmp .eq 18, 3) := by decide +kernel
theorem dX13_beginsBySuper_34 : decode cX13_beginsBySuper 34 = .ok (.aload_n 0, 1) := by decide +kernel
theorem dX13_beginsBySuper_35 : decode cX13_beginsBySuper 35 = .ok (.getfield 173, 3) := by decide +kernel
theorem dX13_beginsBySuper_38 : decode cX13_beginsBySuper 38 = .ok (.iload_n 2, 1) := by decide +kernel
theorem dX13_beginsBySuper_39 : decode cX13_beginsBySuper 39 = .ok (.iaload, 1) := by decide +kernel
theorem dX13_beginsBySuper_40 : decode cX13_beginsBySuper 40 = .ok (.bipush 28, 2) := by decide +kernel
theorem dX13_beginsBySuper_42 : decode cX13_beginsBySuper 42 = .ok (.if_icmp .ne 7, 3) := by decide +kernel
theorem dX13_beginsBySuper_45 : decode cX13_beginsBySuper 45 = .ok (.iconst 1, 1) := by decide +kernel
theorem dX13_beginsBySuper_46 : decode cX13_beginsBySuper 46 = .ok (.goto 4, 3) := by decide +kernel
theorem dX13_beginsBySuper_49 : decode cX13_beginsBySuper 49 = .ok (.iconst 0, 1) := by decide +kernel
theorem dX13_beginsBySuper_50 : decode cX13_beginsBySuper 50 = .ok (.ireturn, 1) := by decide +kernel
theorem dX13_local_0 : decode cX13_local 0 = .ok (.iconst 0, 1) := by decide +kernel
theorem dX13_local_1 : decode cX13_local 1 = .ok (.istore 6, 2) := by decide +kernel
theorem dX13_local_3 : decode cX13_local 3 = .ok (.iload 6, 2) := by decide +kernel
theorem dX13_local_5 : decode cX13_local 5 = .ok (.aload_n 0, 1) := by decide +kernel
theorem dX13_local_6 : decode cX13_local 6 = .ok (.getfield 754, 3) := by decide +kernel
theorem dX13_local_9 : decode cX13_local 9 = .ok (.if_icmp .ge 29, 3) := by decide +kernel
theorem dX13_local_12 : decode cX13_local 12 = .ok (.aload_n 0, 1) := by decide +kernel
theorem dX13_local_13 : decode cX13_local 13 = .ok (.getfield 780, 3) := by decide +kernel
theorem dX13_local_16 : decode cX13_local 16 = .ok (.iload 6, 2) := by decide +kernel
theorem dX13_local_18 : decode cX13_local 18 = .ok (.laload, 1) := by decide +kernel
theorem dX13_local_19 : decode cX13_local 19 = .ok (.lload_n 1, 1) := by decide +kernel
theorem dX13_local_20 : decode cX13_local 20 = .ok (.lcmp, 1) := by decide +kernel
theorem dX13_local_21 : decode cX13_local 21 = .ok (.ifCond .ne 11, 3) := by decide +kernel
theorem dX13_local_24 : decode cX13_local 24 = .ok (.aload_n 0, 1) := by decide +kernel
theorem dX13_local_25 : decode cX13_local 25 = .ok (.bipush 16, 2) := by decide +kernel
theorem dX13_local_27 : decode cX13_local 27 = .ok (.iload 5, 2) := by decide +kernel
theorem dX13_local_29 : decode cX13_local 29 = .ok (.invokevirtual 152, 3) := by decide +kernel
theorem dX13_local_32 : decode cX13_local 32 = .ok (.iinc 6 1, 3) := by decide +kernel
theorem dX13_local_35 : decode cX13_local 35 = .ok (.goto (-32), 3) := by decide +kernel
theorem dX13_local_38 : decode cX13_local 38 = .ok (.aload_n 0, 1) := by decide +kernel
theorem dX13_local_39 : decode cX13_local 39 = .ok (.getfield 780, 3) := by decide +kernel
theorem dX13_local_42 : decode cX13_local 42 = .ok (.aload_n 0, 1) := by decide +kernel
theorem dX13_local_43 : decode cX13_local 43 = .ok (.getfield 754, 3) := by decide +kernel
theorem dX13_local_46 : decode cX13_local 46 = .ok (.lload_n 1, 1) := by decide +kernel
theorem dX13_local_47 : decode cX13_local 47 = .ok (.lastore, 1) := by decide +kernel
theorem dX13_local_48 : decode cX13_local 48 = .ok (.aload_n 0, 1) := by decide +kernel
theorem dX13_local_49 : decode cX13_local 49 = .ok (.getfield 783, 3) := by decide +kernel
theorem dX13_local_52 : decode cX13_local 52 = .ok (.aload_n 0, 1) := by decide +kernel
theorem dX13_local_53 : decode cX13_local 53 = .ok (.getfield 754, 3) := by decide +kernel
theorem dX13_local_56 : decode cX13_local 56 = .ok (.lload_n 3, 1) := by decide +kernel
theorem dX13_local_57 : decode cX13_local 57 = .ok (.lastore, 1) := by decide +kernel
theorem dX13_local_58 : decode cX13_local 58 = .ok (.aload_n 0, 1) := by decide +kernel
theorem dX13_local_59 : decode cX13_local 59 = .ok (.dup, 1) := by decide +kernel
theorem dX13_local_60 : decode cX13_local 60 = .ok (.getfield 754, 3) := by decide +kernel
theorem dX13_local_63 : decode cX13_local 63 = .ok (.iconst 1, 1) := by decide +kernel
theorem dX13_local_64 : decode cX13_local 64 = .ok (.iadd, 1) := by decide +kernel
theorem dX13_local_65 : decode cX13_local 65 = .ok (.putfield 754, 3) := by decide +kernel
theorem dX13_local_68 : decode cX13_local 68 = .ok (.aload_n 0, 1) := by decide +kernel
theorem dX13_local_69 : decode cX13_local 69 = .ok (.getfield 389, 3) := by decide +kernel
theorem dX13_local_72 : decode cX13_local 72 = .ok (.aload_n 0, 1) := by decide +kernel
theorem dX13_local_73 : decode cX13_local 73 = .ok (.getfield 748, 3) := by decide +kernel
theorem dX13_local_76 : decode cX13_local 76 = .ok (.aload_n 0, 1) := by decide +kernel
theorem dX13_local_77 : decode cX13_local 77 = .ok (.getfield 389, 3) := by decide +kernel
theorem dX13_local_80 : decode cX13_local 80 = .ok (.aload_n 0, 1) := by decide +kernel
theorem dX13_local_81 : decode cX13_local 81 = .ok (.getfield 748, 3) := by decide +kernel
theorem dX13_local_84 : decode cX13_local 84 = .ok (.iaload, 1) := by decide +kernel
theorem dX13_local_85 : decode cX13_local 85 = .ok (.aload_n 0, 1) := by decide +kernel
theorem dX13_local_86 : decode cX13_local 86 = .ok (.getfield 754, 3) := by decide +kernel
theorem dX13_local_89 : decode cX13_local 89 = .ok (.if_icmp .ge 10, 3) := by decide +kernel
theorem dX13_local_92 : decode cX13_local 92 = .ok (.aload_n 0, 1) := by decide +kernel
theorem dX13_local_93 : decode cX13_local 93 = .ok (.getfield 754, 3) := by decide +kernel
theorem dX13_local_96 : decode cX13_local 96 = .ok (.goto 12, 3) := by decide +kernel
theorem dX13_local_99 : decode cX13_local 99 = .ok (.aload_n 0, 1) := by decide +kernel
theorem dX13_local_100 : decode cX13_local 100 = .ok (.getfield 389, 3) := by decide +kernel
theorem dX13_local_103 : decode cX13_local 103 = .ok (.aload_n 0, 1) := by decide +kernel
theorem dX13_local_104 : decode cX13_local 104 = .ok (.getfield 748, 3) := by decide +kernel
theorem dX13_local_107 : decode cX13_local 107 = .ok (.iaload, 1) := by decide +kernel
theorem dX13_local_108 : decode cX13_local 108 = .ok (.iastore, 1) := by decide +kernel
theorem dX13_local_109 : decode cX13_local 109 = .ok (.return_, 1) := by decide +kernel
theorem dX13_wanted_0 : decode cX13_wanted 0 = .ok (.aload_n 0, 1) := by decide +kernel
theorem dX13_wanted_1 : decode cX13_wanted 1 = .ok (.getfield 129, 3) := by decide +kernel
theorem dX13_wanted_4 : decode cX13_wanted 4 = .ok (.ifCond .ne 25, 3) := by decide +kernel
theorem dX13_wanted_7 : decode cX13_wanted 7 = .ok (.aload_n 0, 1) := by decide +kernel
theorem dX13_wanted_8 : decode cX13_wanted 8 = .ok (.lload_n 2, 1) := by decide +kernel
theorem dX13_wanted_9 : decode cX13_wanted 9 = .ok (.lload 4, 2) := by decide +kernel
theorem dX13_wanted_11 : decode cX13_wanted 11 = .ok (.invokevirtual 690, 3) := by decide +kernel
theorem dX13_wanted_14 : decode cX13_wanted 14 = .ok (.ifCond .ne 15, 3) := by decide +kernel
theorem dX13_wanted_17 : decode cX13_wanted 17 = .ok (.aload_n 0, 1) := by decide +kernel
theorem dX13_wanted_18 : decode cX13_wanted 18 = .ok (.bipush 13, 2) := by decide +kernel
theorem dX13_wanted_20 : decode cX13_wanted 20 = .ok (.aload_n 0, 1) := by decide +kernel
theorem dX13_wanted_21 : decode cX13_wanted 21 = .ok (.getfield 176, 3) := by decide +kernel
theorem dX13_wanted_24 : decode cX13_wanted 24 = .ok (.iload_n 1, 1) := by decide +kernel
theorem dX13_wanted_25 : decode cX13_wanted 25 = .ok (.iaload, 1) := by decide +kernel
theorem dX13_wanted_26 : decode cX13_wanted 26 = .ok (.invokevirtual 152, 3) := by decide +kernel
theorem dX13_wanted_29 : decode cX13_wanted 29 = .ok (.return_, 1) := by decide +kernel
theorem dX13_isObject_0 : decode cX13_isObject 0 = .ok (.lload_n 0, 1) := by decide +kernel
theorem dX13_isObject_1 : decode cX13_isObject 1 = .ok (.invokestatic 37, 3) := by decide +kernel
theorem dX13_isObject_4 : decode cX13_isObject 4 = .ok (.ifCond .ne 11, 3) := by decide +kernel
theorem dX13_isObject_7 : decode cX13_isObject 7 = .ok (.lload_n 0, 1) := by decide +kernel
theorem dX13_isObject_8 : decode cX13_isObject 8 = .ok (.ldc2_w 579, 3) := by decide +kernel
theorem dX13_isObject_11 : decode cX13_isObject 11 = .ok (.lcmp, 1) := by decide +kernel
theorem dX13_isObject_12 : decode cX13_isObject 12 = .ok (.ifCond .ne 7, 3) := by decide +kernel
theorem dX13_isObject_15 : decode cX13_isObject 15 = .ok (.iconst 1, 1) := by decide +kernel
theorem dX13_isObject_16 : decode cX13_isObject 16 = .ok (.goto 4, 3) := by decide +kernel
theorem dX13_isObject_19 : decode cX13_isObject 19 = .ok (.iconst 0, 1) := by decide +kernel
theorem dX13_isObject_20 : decode cX13_isObject 20 = .ok (.ireturn, 1) := by decide +kernel
theorem dX13_judge_0 : decode cX13_judge 0 = .ok (.aload_n 0, 1) := by decide +kernel
theorem dX13_judge_1 : decode cX13_judge 1 = .ok (.getfield 714, 3) := by decide +kernel
theorem dX13_judge_4 : decode cX13_judge 4 = .ok (.istore_n 2, 1) := by decide +kernel
theorem dX13_judge_5 : decode cX13_judge 5 = .ok (.iload_n 1, 1) := by decide +kernel
theorem dX13_judge_6 : decode cX13_judge 6 = .ok (.istore_n 3, 1) := by decide +kernel
theorem dX13_judge_7 : decode cX13_judge 7 = .ok (.aload_n 0, 1) := by decide +kernel
theorem dX13_judge_8 : decode cX13_judge 8 = .ok (.getfield 173, 3) := by decide +kernel
theorem dX13_judge_11 : decode cX13_judge 11 = .ok (.iload_n 3, 1) := by decide +kernel
theorem dX13_judge_12 : decode cX13_judge 12 = .ok (.iaload, 1) := by decide +kernel
theorem dX13_judge_13 : decode cX13_judge 13 = .ok (.invokestatic 723, 3) := by decide +kernel
theorem dX13_judge_16 : decode cX13_judge 16 = .ok (.ifCond .ne 47, 3) := by decide +kernel
theorem dX13_judge_19 : decode cX13_judge 19 = .ok (.aload_n 0, 1) := by decide +kernel
theorem dX13_judge_20 : decode cX13_judge 20 = .ok (.getfield 173, 3) := by decide +kernel
theorem dX13_judge_23 : decode cX13_judge 23 = .ok (.iload_n 3, 1) := by decide +kernel
theorem dX13_judge_24 : decode cX13_judge 24 = .ok (.iaload, 1) := by decide +kernel
theorem dX13_judge_25 : decode cX13_judge 25 = .ok (.bipush 11, 2) := by decide +kernel
theorem dX13_judge_27 : decode cX13_judge 27 = .ok (.if_icmp .eq 36, 3) := by decide +kernel
theorem dX13_judge_30 : decode cX13_judge 30 = .ok (.aload_n 0, 1) := by decide +kernel
theorem dX13_judge_31 : decode cX13_judge 31 = .ok (.getfield 173, 3) := by decide +kernel
theorem dX13_judge_34 : decode cX13_judge 34 = .ok (.iload_n 3, 1) := by decide +kernel
theorem dX13_judge_35 : decode cX13_judge 35 = .ok (.iaload, 1) := by decide +kernel
theorem dX13_judge_36 : decode cX13_judge 36 = .ok (.bipush 12, 2) := by decide +kernel
theorem dX13_judge_38 : decode cX13_judge 38 = .ok (.if_icmp .eq 25, 3) := by decide +kernel
theorem dX13_judge_41 : decode cX13_judge 41 = .ok (.aload_n 0, 1) := by decide +kernel
theorem dX13_judge_42 : decode cX13_judge 42 = .ok (.getfield 173, 3) := by decide +kernel
theorem dX13_judge_45 : decode cX13_judge 45 = .ok (.iload_n 3, 1) := by decide +kernel
theorem dX13_judge_46 : decode cX13_judge 46 = .ok (.iaload, 1) := by decide +kernel
theorem dX13_judge_47 : decode cX13_judge 47 = .ok (.bipush 13, 2) := by decide +kernel
theorem dX13_judge_49 : decode cX13_judge 49 = .ok (.if_icmp .eq 14, 3) := by decide +kernel
theorem dX13_judge_52 : decode cX13_judge 52 = .ok (.aload_n 0, 1) := by decide +kernel
theorem dX13_judge_53 : decode cX13_judge 53 = .ok (.getfield 173, 3) := by decide +kernel
theorem dX13_judge_56 : decode cX13_judge 56 = .ok (.iload_n 3, 1) := by decide +kernel
theorem dX13_judge_57 : decode cX13_judge 57 = .ok (.iaload, 1) := by decide +kernel
theorem dX13_judge_58 : decode cX13_judge 58 = .ok (.bipush 14, 2) := by decide +kernel
theorem dX13_judge_60 : decode cX13_judge 60 = .ok (.if_icmp .ne 33, 3) := by decide +kernel
theorem dX13_judge_63 : decode cX13_judge 63 = .ok (.aload_n 0, 1) := by decide +kernel
theorem dX13_judge_64 : decode cX13_judge 64 = .ok (.getfield 726, 3) := by decide +kernel
theorem dX13_judge_67 : decode cX13_judge 67 = .ok (.aload_n 0, 1) := by decide +kernel
theorem dX13_judge_68 : decode cX13_judge 68 = .ok (.getfield 714, 3) := by decide +kernel
theorem dX13_judge_71 : decode cX13_judge 71 = .ok (.iload_n 3, 1) := by decide +kernel
theorem dX13_judge_72 : decode cX13_judge 72 = .ok (.iastore, 1) := by decide +kernel
theorem dX13_judge_73 : decode cX13_judge 73 = .ok (.aload_n 0, 1) := by decide +kernel
theorem dX13_judge_74 : decode cX13_judge 74 = .ok (.dup, 1) := by decide +kernel
theorem dX13_judge_75 : decode cX13_judge 75 = .ok (.getfield 714, 3) := by decide +kernel
theorem dX13_judge_78 : decode cX13_judge 78 = .ok (.iconst 1, 1) := by decide +kernel
theorem dX13_judge_79 : decode cX13_judge 79 = .ok (.iadd, 1) := by decide +kernel
theorem dX13_judge_80 : decode cX13_judge 80 = .ok (.putfield 714, 3) := by decide +kernel
theorem dX13_judge_83 : decode cX13_judge 83 = .ok (.aload_n 0, 1) := by decide +kernel
theorem dX13_judge_84 : decode cX13_judge 84 = .ok (.getfield 194, 3) := by decide +kernel
theorem dX13_judge_87 : decode cX13_judge 87 = .ok (.iload_n 3, 1) := by decide +kernel
theorem dX13_judge_88 : decode cX13_judge 88 = .ok (.iaload, 1) := by decide +kernel
theorem dX13_judge_89 : decode cX13_judge 89 = .ok (.istore_n 3, 1) := by decide +kernel
theorem dX13_judge_90 : decode cX13_judge 90 = .ok (.goto (-83), 3) := by decide +kernel
theorem dX13_judge_93 : decode cX13_judge 93 = .ok (.aload_n 0, 1) := by decide +kernel
theorem dX13_judge_94 : decode cX13_judge 94 = .ok (.getfield 191, 3) := by decide +kernel
theorem dX13_judge_97 : decode cX13_judge 97 = .ok (.iload_n 3, 1) := by decide +kernel
theorem dX13_judge_98 : decode cX13_judge 98 = .ok (.aload_n 0, 1) := by decide +kernel
theorem dX13_judge_99 : decode cX13_judge 99 = .ok (.getfield 129, 3) := by decide +kernel
theorem dX13_judge_102 : decode cX13_judge 102 = .ok (.ifCond .ne 11, 3) := by decide +kernel
theorem dX13_judge_105 : decode cX13_judge 105 = .ok (.aload_n 0, 1) := by decide +kernel
theorem dX13_judge_106 : decode cX13_judge 106 = .ok (.iload_n 3, 1) := by decide +kernel
theorem dX13_judge_107 : decode cX13_judge 107 = .ok (.invokevirtual 786, 3) := by decide +kernel
theorem dX13_judge_110 : decode cX13_judge 110 = .ok (.goto 6, 3) := by decide +kernel
theorem dX13_judge_113 : decode cX13_judge 113 = .ok (.ldc2_w 43, 3) := by decide +kernel
theorem dX13_judge_116 : decode cX13_judge 116 = .ok (.lastore, 1) := by decide +kernel
theorem dX13_judge_117 : decode cX13_judge 117 = .ok (.aload_n 0, 1) := by decide +kernel
theorem dX13_judge_118 : decode cX13_judge 118 = .ok (.getfield 714, 3) := by decide +kernel
theorem dX13_judge_121 : decode cX13_judge 121 = .ok (.iload_n 2, 1) := by decide +kernel
theorem dX13_judge_122 : decode cX13_judge 122 = .ok (.if_icmp .le 63, 3) := by decide +kernel
theorem dX13_judge_125 : decode cX13_judge 125 = .ok (.aload_n 0, 1) := by decide +kernel
theorem dX13_judge_126 : decode cX13_judge 126 = .ok (.dup, 1) := by decide +kernel
theorem dX13_judge_127 : decode cX13_judge 127 = .ok (.getfield 714, 3) := by decide +kernel
theorem dX13_judge_130 : decode cX13_judge 130 = .ok (.iconst 1, 1) := by decide +kernel
theorem dX13_judge_131 : decode cX13_judge 131 = .ok (.isub, 1) := by decide +kernel
theorem dX13_judge_132 : decode cX13_judge 132 = .ok (.putfield 714, 3) := by decide +kernel
theorem dX13_judge_135 : decode cX13_judge 135 = .ok (.aload_n 0, 1) := by decide +kernel
theorem dX13_judge_136 : decode cX13_judge 136 = .ok (.getfield 726, 3) := by decide +kernel
theorem dX13_judge_139 : decode cX13_judge 139 = .ok (.aload_n 0, 1) := by decide +kernel
theorem dX13_judge_140 : decode cX13_judge 140 = .ok (.getfield 714, 3) := by decide +kernel
theorem dX13_judge_143 : decode cX13_judge 143 = .ok (.iaload, 1) := by decide +kernel
theorem dX13_judge_144 : decode cX13_judge 144 = .ok (.istore 4, 2) := by decide +kernel
theorem dX13_judge_146 : decode cX13_judge 146 = .ok (.aload_n 0, 1) := by decide +kernel
theorem dX13_judge_147 : decode cX13_judge 147 = .ok (.getfield 191, 3) := by decide +kernel
theorem dX13_judge_150 : decode cX13_judge 150 = .ok (.iload 4, 2) := by decide +kernel
theorem dX13_judge_152 : decode cX13_judge 152 = .ok (.aload_n 0, 1) := by decide +kernel
theorem dX13_judge_153 : decode cX13_judge 153 = .ok (.getfield 129, 3) := by decide +kernel
theorem dX13_judge_156 : decode cX13_judge 156 = .ok (.ifCond .ne 19, 3) := by decide +kernel
theorem dX13_judge_159 : decode cX13_judge 159 = .ok (.aload_n 0, 1) := by decide +kernel
theorem dX13_judge_160 : decode cX13_judge 160 = .ok (.iload 4, 2) := by decide +kernel
theorem dX13_judge_162 : decode cX13_judge 162 = .ok (.iload_n 3, 1) := by decide +kernel
theorem dX13_judge_163 : decode cX13_judge 163 = .ok (.aload_n 0, 1) := by decide +kernel
theorem dX13_judge_164 : decode cX13_judge 164 = .ok (.getfield 191, 3) := by decide +kernel
theorem dX13_judge_167 : decode cX13_judge 167 = .ok (.iload_n 3, 1) := by decide +kernel
theorem dX13_judge_168 : decode cX13_judge 168 = .ok (.laload, 1) := by decide +kernel
theorem dX13_judge_169 : decode cX13_judge 169 = .ok (.invokevirtual 789, 3) := by decide +kernel
theorem dX13_judge_172 : decode cX13_judge 172 = .ok (.goto 6, 3) := by decide +kernel
theorem dX13_judge_175 : decode cX13_judge 175 = .ok (.ldc2_w 43, 3) := by decide +kernel
theorem dX13_judge_178 : decode cX13_judge 178 = .ok (.lastore, 1) := by decide +kernel
theorem dX13_judge_179 : decode cX13_judge 179 = .ok (.iload 4, 2) := by decide +kernel
theorem dX13_judge_181 : decode cX13_judge 181 = .ok (.istore_n 3, 1) := by decide +kernel
theorem dX13_judge_182 : decode cX13_judge 182 = .ok (.goto (-65), 3) := by decide +kernel
theorem dX13_judge_185 : decode cX13_judge 185 = .ok (.aload_n 0, 1) := by decide +kernel
theorem dX13_judge_186 : decode cX13_judge 186 = .ok (.getfield 191, 3) := by decide +kernel
theorem dX13_judge_189 : decode cX13_judge 189 = .ok (.iload_n 1, 1) := by decide +kernel
theorem dX13_judge_190 : decode cX13_judge 190 = .ok (.laload, 1) := by decide +kernel
theorem dX13_judge_191 : decode cX13_judge 191 = .ok (.lreturn, 1) := by decide +kernel
theorem dX13_overLeft_0 : decode cX13_overLeft 0 = .ok (.aload_n 0, 1) := by decide +kernel
theorem dX13_overLeft_1 : decode cX13_overLeft 1 = .ok (.getfield 173, 3) := by decide +kernel
theorem dX13_overLeft_4 : decode cX13_overLeft 4 = .ok (.iload_n 1, 1) := by decide +kernel
theorem dX13_overLeft_5 : decode cX13_overLeft 5 = .ok (.iaload, 1) := by decide +kernel
theorem dX13_overLeft_6 : decode cX13_overLeft 6 = .ok (.tableswitch 152 11 14 #[30, 32, 40, 102], 30) := by decide +kernel
theorem dX13_overLeft_36 : decode cX13_overLeft 36 = .ok (.lload_n 3, 1) := by decide +kernel
theorem dX13_overLeft_37 : decode cX13_overLeft 37 = .ok (.lreturn, 1) := by decide +kernel
theorem dX13_overLeft_38 : decode cX13_overLeft 38 = .ok (.aload_n 0, 1) := by decide +kernel
theorem dX13_overLeft_39 : decode cX13_overLeft 39 = .ok (.iload_n 1, 1) := by decide +kernel
theorem dX13_overLeft_40 : decode cX13_overLeft 40 = .ok (.iload_n 2, 1) := by decide +kernel
theorem dX13_overLeft_41 : decode cX13_overLeft 41 = .ok (.lload_n 3, 1) := by decide +kernel
theorem dX13_overLeft_42 : decode cX13_overLeft 42 = .ok (.invokevirtual 793, 3) := by decide +kernel
theorem dX13_overLeft_45 : decode cX13_overLeft 45 = .ok (.lreturn, 1) := by decide +kernel
theorem dX13_overLeft_46 : decode cX13_overLeft 46 = .ok (.aload_n 0, 1) := by decide +kernel
theorem dX13_overLeft_47 : decode cX13_overLeft 47 = .ok (.aload_n 0, 1) := by decide +kernel
theorem dX13_overLeft_48 : decode cX13_overLeft 48 = .ok (.getfield 197, 3) := by decide +kernel
theorem dX13_overLeft_51 : decode cX13_overLeft 51 = .ok (.iload_n 1, 1) := by decide +kernel
theorem dX13_overLeft_52 : decode cX13_overLeft 52 = .ok (.iaload, 1) := by decide +kernel
theorem dX13_overLeft_53 : decode cX13_overLeft 53 = .ok (.invokevirtual 796, 3) := by decide +kernel
theorem dX13_overLeft_56 : decode cX13_overLeft 56 = .ok (.aload_n 0, 1) := by decide +kernel
theorem dX13_overLeft_57 : decode cX13_overLeft 57 = .ok (.getfield 129, 3) := by decide +kernel
theorem dX13_overLeft_60 : decode cX13_overLeft 60 = .ok (.ifCond .ne 22, 3) := by decide +kernel
theorem dX13_overLeft_63 : decode cX13_overLeft 63 = .ok (.lload_n 3, 1) := by decide +kernel
theorem dX13_overLeft_64 : decode cX13_overLeft 64 = .ok (.invokestatic 37, 3) := by decide +kernel
theorem dX13_overLeft_67 : decode cX13_overLeft 67 = .ok (.ifCond .ne 15, 3) := by decide +kernel
theorem dX13_overLeft_70 : decode cX13_overLeft 70 = .ok (.aload_n 0, 1) := by decide +kernel
theorem dX13_overLeft_71 : decode cX13_overLeft 71 = .ok (.bipush 13, 2) := by decide +kernel
theorem dX13_overLeft_73 : decode cX13_overLeft 73 = .ok (.aload_n 0, 1) := by decide +kernel
theorem dX13_overLeft_74 : decode cX13_overLeft 74 = .ok (.getfield 176, 3) := by decide +kernel
theorem dX13_overLeft_77 : decode cX13_overLeft 77 = .ok (.iload_n 2, 1) := by decide +kernel
theorem dX13_overLeft_78 : decode cX13_overLeft 78 = .ok (.iaload, 1) := by decide +kernel
theorem dX13_overLeft_79 : decode cX13_overLeft 79 = .ok (.invokevirtual 152, 3) := by decide +kernel
theorem dX13_overLeft_82 : decode cX13_overLeft 82 = .ok (.aload_n 0, 1) := by decide +kernel
theorem dX13_overLeft_83 : decode cX13_overLeft 83 = .ok (.getfield 129, 3) := by decide +kernel
theorem dX13_overLeft_86 : decode cX13_overLeft 86 = .ok (.ifCond .ne 18, 3) := by decide +kernel
theorem dX13_overLeft_89 : decode cX13_overLeft 89 = .ok (.aload_n 0, 1) := by decide +kernel
theorem dX13_overLeft_90 : decode cX13_overLeft 90 = .ok (.iload_n 1, 1) := by decide +kernel
theorem dX13_overLeft_91 : decode cX13_overLeft 91 = .ok (.aload_n 0, 1) := by decide +kernel
theorem dX13_overLeft_92 : decode cX13_overLeft 92 = .ok (.lload_n 3, 1) := by decide +kernel
theorem dX13_overLeft_93 : decode cX13_overLeft 93 = .ok (.invokevirtual 551, 3) := by decide +kernel
theorem dX13_overLeft_96 : decode cX13_overLeft 96 = .ok (.lload_n 3, 1) := by decide +kernel
theorem dX13_overLeft_97 : decode cX13_overLeft 97 = .ok (.iconst 0, 1) := by decide +kernel
theorem dX13_overLeft_98 : decode cX13_overLeft 98 = .ok (.invokevirtual 799, 3) := by decide +kernel
theorem dX13_overLeft_101 : decode cX13_overLeft 101 = .ok (.goto 6, 3) := by decide +kernel
theorem dX13_overLeft_104 : decode cX13_overLeft 104 = .ok (.ldc2_w 43, 3) := by decide +kernel
theorem dX13_overLeft_107 : decode cX13_overLeft 107 = .ok (.lreturn, 1) := by decide +kernel
theorem dX13_overLeft_108 : decode cX13_overLeft 108 = .ok (.aload_n 0, 1) := by decide +kernel
theorem dX13_overLeft_109 : decode cX13_overLeft 109 = .ok (.aload_n 0, 1) := by decide +kernel
theorem dX13_overLeft_110 : decode cX13_overLeft 110 = .ok (.getfield 188, 3) := by decide +kernel
theorem dX13_overLeft_113 : decode cX13_overLeft 113 = .ok (.iload_n 1, 1) := by decide +kernel
theorem dX13_overLeft_114 : decode cX13_overLeft 114 = .ok (.laload, 1) := by decide +kernel
theorem dX13_overLeft_115 : decode cX13_overLeft 115 = .ok (.aload_n 0, 1) := by decide +kernel
theorem dX13_overLeft_116 : decode cX13_overLeft 116 = .ok (.getfield 182, 3) := by decide +kernel
theorem dX13_overLeft_119 : decode cX13_overLeft 119 = .ok (.iload_n 1, 1) := by decide +kernel
theorem dX13_overLeft_120 : decode cX13_overLeft 120 = .ok (.iaload, 1) := by decide +kernel
theorem dX13_overLeft_121 : decode cX13_overLeft 121 = .ok (.aload_n 0, 1) := by decide +kernel
theorem dX13_overLeft_122 : decode cX13_overLeft 122 = .ok (.getfield 745, 3) := by decide +kernel
theorem dX13_overLeft_125 : decode cX13_overLeft 125 = .ok (.invokevirtual 664, 3) := by decide +kernel
theorem dX13_overLeft_128 : decode cX13_overLeft 128 = .ok (.aload_n 0, 1) := by decide +kernel
theorem dX13_overLeft_129 : decode cX13_overLeft 129 = .ok (.getfield 129, 3) := by decide +kernel
theorem dX13_overLeft_132 : decode cX13_overLeft 132 = .ok (.ifCond .ne 22, 3) := by decide +kernel
theorem dX13_overLeft_135 : decode cX13_overLeft 135 = .ok (.lload_n 3, 1) := by decide +kernel
theorem dX13_overLeft_136 : decode cX13_overLeft 136 = .ok (.invokestatic 803, 3) := by decide +kernel
theorem dX13_overLeft_139 : decode cX13_overLeft 139 = .ok (.ifCond .ne 15, 3) := by decide +kernel
theorem dX13_overLeft_142 : decode cX13_overLeft 142 = .ok (.aload_n 0, 1) := by decide +kernel
theorem dX13_overLeft_143 : decode cX13_overLeft 143 = .ok (.bipush 13, 2) := by decide +kernel
theorem dX13_overLeft_145 : decode cX13_overLeft 145 = .ok (.aload_n 0, 1) := by decide +kernel
theorem dX13_overLeft_146 : decode cX13_overLeft 146 = .ok (.getfield 176, 3) := by decide +kernel
theorem dX13_overLeft_149 : decode cX13_overLeft 149 = .ok (.iload_n 2, 1) := by decide +kernel
theorem dX13_overLeft_150 : decode cX13_overLeft 150 = .ok (.iaload, 1) := by decide +kernel
theorem dX13_overLeft_151 : decode cX13_overLeft 151 = .ok (.invokevirtual 152, 3) := by decide +kernel
theorem dX13_overLeft_154 : decode cX13_overLeft 154 = .ok (.ldc2_w 43, 3) := by decide +kernel
theorem dX13_overLeft_157 : decode cX13_overLeft 157 = .ok (.lreturn, 1) := by decide +kernel
theorem dX13_overLeft_158 : decode cX13_overLeft 158 = .ok (.aload_n 0, 1) := by decide +kernel
theorem dX13_overLeft_159 : decode cX13_overLeft 159 = .ok (.iload_n 1, 1) := by decide +kernel
theorem dX13_overLeft_160 : decode cX13_overLeft 160 = .ok (.iload_n 2, 1) := by decide +kernel
theorem dX13_overLeft_161 : decode cX13_overLeft 161 = .ok (.lload_n 3, 1) := by decide +kernel
theorem dX13_overLeft_162 : decode cX13_overLeft 162 = .ok (.invokevirtual 806, 3) := by decide +kernel
theorem dX13_overLeft_165 : decode cX13_overLeft 165 = .ok (.lreturn, 1) := by decide +kernel
theorem dX13_two_0 : decode cX13_two 0 = .ok (.aload_n 0, 1) := by decide +kernel
theorem dX13_two_1 : decode cX13_two 1 = .ok (.getfield 197, 3) := by decide +kernel
theorem dX13_two_4 : decode cX13_two 4 = .ok (.iload_n 1, 1) := by decide +kernel
theorem dX13_two_5 : decode cX13_two 5 = .ok (.iaload, 1) := by decide +kernel
theorem dX13_two_6 : decode cX13_two 6 = .ok (.istore 5, 2) := by decide +kernel
theorem dX13_two_8 : decode cX13_two 8 = .ok (.aload_n 0, 1) := by decide +kernel
theorem dX13_two_9 : decode cX13_two 9 = .ok (.iload 5, 2) := by decide +kernel
theorem dX13_two_11 : decode cX13_two 11 = .ok (.invokevirtual 757, 3) := by decide +kernel
theorem dX13_two_14 : decode cX13_two 14 = .ok (.lstore 6, 2) := by decide +kernel
theorem dX13_two_16 : decode cX13_two 16 = .ok (.aload_n 0, 1) := by decide +kernel
theorem dX13_two_17 : decode cX13_two 17 = .ok (.getfield 129, 3) := by decide +kernel
theorem dX13_two_20 : decode cX13_two 20 = .ok (.ifCond .eq 7, 3) := by decide +kernel
theorem dX13_two_23 : decode cX13_two 23 = .ok (.ldc2_w 43, 3) := by decide +kernel
theorem dX13_two_26 : decode cX13_two 26 = .ok (.lreturn, 1) := by decide +kernel
theorem dX13_two_27 : decode cX13_two 27 = .ok (.aload_n 0, 1) := by decide +kernel
theorem dX13_two_28 : decode cX13_two 28 = .ok (.getfield 173, 3) := by decide +kernel
theorem dX13_two_31 : decode cX13_two 31 = .ok (.iload_n 1, 1) := by decide +kernel
theorem dX13_two_32 : decode cX13_two 32 = .ok (.iaload, 1) := by decide +kernel
theorem dX13_two_33 : decode cX13_two 33 = .ok (.bipush 19, 2) := by decide +kernel
theorem dX13_two_35 : decode cX13_two 35 = .ok (.if_icmp .eq 51, 3) := by decide +kernel
theorem dX13_two_38 : decode cX13_two 38 = .ok (.lload_n 3, 1) := by decide +kernel
theorem dX13_two_39 : decode cX13_two 39 = .ok (.ldc2_w 43, 3) := by decide +kernel
theorem dX13_two_42 : decode cX13_two 42 = .ok (.lcmp, 1) := by decide +kernel
theorem dX13_two_43 : decode cX13_two 43 = .ok (.ifCond .eq 18, 3) := by decide +kernel
theorem dX13_two_46 : decode cX13_two 46 = .ok (.aload_n 0, 1) := by decide +kernel
theorem dX13_two_47 : decode cX13_two 47 = .ok (.bipush 13, 2) := by decide +kernel
theorem dX13_two_49 : decode cX13_two 49 = .ok (.aload_n 0, 1) := by decide +kernel
theorem dX13_two_50 : decode cX13_two 50 = .ok (.getfield 176, 3) := by decide +kernel
theorem dX13_two_53 : decode cX13_two 53 = .ok (.iload_n 2, 1) := by decide +kernel
theorem dX13_two_54 : decode cX13_two 54 = .ok (.iaload, 1) := by decide +kernel
theorem dX13_two_55 : decode cX13_two 55 = .ok (.invokevirtual 152, 3) := by decide +kernel
theorem dX13_two_58 : decode cX13_two 58 = .ok (.goto 99, 3) := by decide +kernel
theorem dX13_two_61 : decode cX13_two 61 = .ok (.lload 6, 2) := by decide +kernel
theorem dX13_two_63 : decode cX13_two 63 = .ok (.ldc2_w 43, 3) := by decide +kernel
theorem dX13_two_66 : decode cX13_two 66 = .ok (.lcmp, 1) := by decide +kernel
theorem dX13_two_67 : decode cX13_two 67 = .ok (.ifCond .eq 90, 3) := by decide +kernel
theorem dX13_two_70 : decode cX13_two 70 = .ok (.aload_n 0, 1) := by decide +kernel
theorem dX13_two_71 : decode cX13_two 71 = .ok (.bipush 13, 2) := by decide +kernel
theorem dX13_two_73 : decode cX13_two 73 = .ok (.aload_n 0, 1) := by decide +kernel
theorem dX13_two_74 : decode cX13_two 74 = .ok (.getfield 176, 3) := by decide +kernel
theorem dX13_two_77 : decode cX13_two 77 = .ok (.iload 5, 2) := by decide +kernel
theorem dX13_two_79 : decode cX13_two 79 = .ok (.iaload, 1) := by decide +kernel
theorem dX13_two_80 : decode cX13_two 80 = .ok (.invokevirtual 152, 3) := by decide +kernel
theorem dX13_two_83 : decode cX13_two 83 = .ok (.goto 74, 3) := by decide +kernel
theorem dX13_two_86 : decode cX13_two 86 = .ok (.lload_n 3, 1) := by decide +kernel
theorem dX13_two_87 : decode cX13_two 87 = .ok (.lconst 1, 1) := by decide +kernel
theorem dX13_two_88 : decode cX13_two 88 = .ok (.lcmp, 1) := by decide +kernel
theorem dX13_two_89 : decode cX13_two 89 = .ok (.ifCond .ne 18, 3) := by decide +kernel
theorem dX13_two_92 : decode cX13_two 92 = .ok (.aload_n 0, 1) := by decide +kernel
theorem dX13_two_93 : decode cX13_two 93 = .ok (.bipush 13, 2) := by decide +kernel
theorem dX13_two_95 : decode cX13_two 95 = .ok (.aload_n 0, 1) := by decide +kernel
theorem dX13_two_96 : decode cX13_two 96 = .ok (.getfield 176, 3) := by decide +kernel
theorem dX13_two_99 : decode cX13_two 99 = .ok (.iload_n 2, 1) := by decide +kernel
theorem dX13_two_100 : decode cX13_two 100 = .ok (.iaload, 1) := by decide +kernel
theorem dX13_two_101 : decode cX13_two 101 = .ok (.invokevirtual 152, 3) := by decide +kernel
theorem dX13_two_104 : decode cX13_two 104 = .ok (.goto 53, 3) := by decide +kernel
theorem dX13_two_107 : decode cX13_two 107 = .ok (.lload 6, 2) := by decide +kernel
theorem dX13_two_109 : decode cX13_two 109 = .ok (.lconst 1, 1) := by decide +kernel
theorem dX13_two_110 : decode cX13_two 110 = .ok (.lcmp, 1) := by decide +kernel
theorem dX13_two_111 : decode cX13_two 111 = .ok (.ifCond .eq 33, 3) := by decide +kernel
theorem dX13_two_114 : decode cX13_two 114 = .ok (.lload_n 3, 1) := by decide +kernel
theorem dX13_two_115 : decode cX13_two 115 = .ok (.ldc2_w 43, 3) := by decide +kernel
theorem dX13_two_118 : decode cX13_two 118 = .ok (.lcmp, 1) := by decide +kernel
theorem dX13_two_119 : decode cX13_two 119 = .ok (.ifCond .ne 7, 3) := by decide +kernel
theorem dX13_two_122 : decode cX13_two 122 = .ok (.iconst 1, 1) := by decide +kernel
theorem dX13_two_123 : decode cX13_two 123 = .ok (.goto 4, 3) := by decide +kernel
theorem dX13_two_126 : decode cX13_two 126 = .ok (.iconst 0, 1) := by decide +kernel
theorem dX13_two_127 : decode cX13_two 127 = .ok (.lload 6, 2) := by decide +kernel
theorem dX13_two_129 : decode cX13_two 129 = .ok (.ldc2_w 43, 3) := by decide +kernel
theorem dX13_two_132 : decode cX13_two 132 = .ok (.lcmp, 1) := by decide +kernel
theorem dX13_two_133 : decode cX13_two 133 = .ok (.ifCond .ne 7, 3) := by decide +kernel
theorem dX13_two_136 : decode cX13_two 136 = .ok (.iconst 1, 1) := by decide +kernel
theorem dX13_two_137 : decode cX13_two 137 = .ok (.goto 4, 3) := by decide +kernel
theorem dX13_two_140 : decode cX13_two 140 = .ok (.iconst 0, 1) := by decide +kernel
theorem dX13_two_141 : decode cX13_two 141 = .ok (.if_icmp .eq 16, 3) := by decide +kernel
theorem dX13_two_144 : decode cX13_two 144 = .ok (.aload_n 0, 1) := by decide +kernel
theorem dX13_two_145 : decode cX13_two 145 = .ok (.bipush 13, 2) := by decide +kernel
theorem dX13_two_147 : decode cX13_two 147 = .ok (.aload_n 0, 1) := by decide +kernel
theorem dX13_two_148 : decode cX13_two 148 = .ok (.getfield 176, 3) := by decide +kernel
theorem dX13_two_151 : decode cX13_two 151 = .ok (.iload 5, 2) := by decide +kernel
theorem dX13_two_153 : decode cX13_two 153 = .ok (.iaload, 1) := by decide +kernel
theorem dX13_two_154 : decode cX13_two 154 = .ok (.invokevirtual 152, 3) := by decide +kernel
theorem dX13_two_157 : decode cX13_two 157 = .ok (.ldc2_w 43, 3) := by decide +kernel
theorem dX13_two_160 : decode cX13_two 160 = .ok (.lreturn, 1) := by decide +kernel
theorem dX13_dot_0 : decode cX13_dot 0 = .ok (.lload_n 3, 1) := by decide +kernel
theorem dX13_dot_1 : decode cX13_dot 1 = .ok (.invokestatic 37, 3) := by decide +kernel
theorem dX13_dot_4 : decode cX13_dot 4 = .ok (.ifCond .ne 19, 3) := by decide +kernel
theorem dX13_dot_7 : decode cX13_dot 7 = .ok (.aload_n 0, 1) := by decide +kernel
theorem dX13_dot_8 : decode cX13_dot 8 = .ok (.bipush 13, 2) := by decide +kernel
theorem dX13_dot_10 : decode cX13_dot 10 = .ok (.aload_n 0, 1) := by decide +kernel
theorem dX13_dot_11 : decode cX13_dot 11 = .ok (.getfield 176, 3) := by decide +kernel
theorem dX13_dot_14 : decode cX13_dot 14 = .ok (.iload_n 2, 1) := by decide +kernel
theorem dX13_dot_15 : decode cX13_dot 15 = .ok (.iaload, 1) := by decide +kernel
theorem dX13_dot_16 : decode cX13_dot 16 = .ok (.invokevirtual 152, 3) := by decide +kernel
theorem dX13_dot_19 : decode cX13_dot 19 = .ok (.ldc2_w 43, 3) := by decide +kernel
theorem dX13_dot_22 : decode cX13_dot 22 = .ok (.lreturn, 1) := by decide +kernel
theorem dX13_dot_23 : decode cX13_dot 23 = .ok (.aload_n 0, 1) := by decide +kernel
theorem dX13_dot_24 : decode cX13_dot 24 = .ok (.iload_n 1, 1) := by decide +kernel
theorem dX13_dot_25 : decode cX13_dot 25 = .ok (.aload_n 0, 1) := by decide +kernel
theorem dX13_dot_26 : decode cX13_dot 26 = .ok (.lload_n 3, 1) := by decide +kernel
theorem dX13_dot_27 : decode cX13_dot 27 = .ok (.invokevirtual 551, 3) := by decide +kernel
theorem dX13_dot_30 : decode cX13_dot 30 = .ok (.lload_n 3, 1) := by decide +kernel
theorem dX13_dot_31 : decode cX13_dot 31 = .ok (.iconst 0, 1) := by decide +kernel
theorem dX13_dot_32 : decode cX13_dot 32 = .ok (.invokevirtual 809, 3) := by decide +kernel
theorem dX13_dot_35 : decode cX13_dot 35 = .ok (.lreturn, 1) := by decide +kernel
theorem dX13_field_0 : decode cX13_field 0 = .ok (.iload_n 2, 1) := by decide +kernel
theorem dX13_field_1 : decode cX13_field 1 = .ok (.bipush (-2), 2) := by decide +kernel
theorem dX13_field_3 : decode cX13_field 3 = .ok (.if_icmp .ne 8, 3) := by decide +kernel
theorem dX13_field_6 : decode cX13_field 6 = .ok (.bipush (-2), 2) := by decide +kernel
theorem dX13_field_8 : decode cX13_field 8 = .ok (.goto 15, 3) := by decide +kernel
theorem dX13_field_11 : decode cX13_field 11 = .ok (.aload_n 0, 1) := by decide +kernel
theorem dX13_field_12 : decode cX13_field 12 = .ok (.iload_n 2, 1) := by decide +kernel
theorem dX13_field_13 : decode cX13_field 13 = .ok (.aload_n 0, 1) := by decide +kernel
theorem dX13_field_14 : decode cX13_field 14 = .ok (.getfield 185, 3) := by decide +kernel
theorem dX13_field_17 : decode cX13_field 17 = .ok (.iload_n 1, 1) := by decide +kernel
theorem dX13_field_18 : decode cX13_field 18 = .ok (.laload, 1) := by decide +kernel
theorem dX13_field_19 : decode cX13_field 19 = .ok (.lconst 0, 1) := by decide +kernel
theorem dX13_field_20 : decode cX13_field 20 = .ok (.invokevirtual 736, 3) := by decide +kernel
