theorem dX13_selected_156 : decode cX13_selected 156 = .ok (.if_icmp .le 8, 3) := by decide +kernel
theorem dX13_selected_159 : decode cX13_selected 159 = .ok (.bipush (-3), 2) := by decide +kernel
theorem dX13_selected_161 : decode cX13_selected 161 = .ok (.goto 5, 3) := by decide +kernel
theorem dX13_selected_164 : decode cX13_selected 164 = .ok (.bipush (-6), 2) := by decide +kernel
theorem dX13_selected_166 : decode cX13_selected 166 = .ok (.ireturn, 1) := by decide +kernel
theorem dX13_heads_0 : decode cX13_heads 0 = .ok (.iconst 0, 1) := by decide +kernel
theorem dX13_heads_1 : decode cX13_heads 1 = .ok (.istore_n 1, 1) := by decide +kernel
theorem dX13_heads_2 : decode cX13_heads 2 = .ok (.iload_n 1, 1) := by decide +kernel
theorem dX13_heads_3 : decode cX13_heads 3 = .ok (.aload_n 0, 1) := by decide +kernel
theorem dX13_heads_4 : decode cX13_heads 4 = .ok (.getfield 230, 3) := by decide +kernel
theorem dX13_heads_7 : decode cX13_heads 7 = .ok (.aload_n 0, 1) := by decide +kernel
theorem dX13_heads_8 : decode cX13_heads 8 = .ok (.getfield 84, 3) := by decide +kernel
theorem dX13_heads_11 : decode cX13_heads 11 = .ok (.iaload, 1) := by decide +kernel
theorem dX13_heads_12 : decode cX13_heads 12 = .ok (.if_icmp .ge 29, 3) := by decide +kernel
theorem dX13_heads_15 : decode cX13_heads 15 = .ok (.aload_n 0, 1) := by decide +kernel
theorem dX13_heads_16 : decode cX13_heads 16 = .ok (.getfield 129, 3) := by decide +kernel
theorem dX13_heads_19 : decode cX13_heads 19 = .ok (.ifCond .ne 22, 3) := by decide +kernel
theorem dX13_heads_22 : decode cX13_heads 22 = .ok (.aload_n 0, 1) := by decide +kernel
theorem dX13_heads_23 : decode cX13_heads 23 = .ok (.aload_n 0, 1) := by decide +kernel
theorem dX13_heads_24 : decode cX13_heads 24 = .ok (.getfield 84, 3) := by decide +kernel
theorem dX13_heads_27 : decode cX13_heads 27 = .ok (.bipush 12, 2) := by decide +kernel
theorem dX13_heads_29 : decode cX13_heads 29 = .ok (.imul, 1) := by decide +kernel
theorem dX13_heads_30 : decode cX13_heads 30 = .ok (.iload_n 1, 1) := by decide +kernel
theorem dX13_heads_31 : decode cX13_heads 31 = .ok (.iadd, 1) := by decide +kernel
theorem dX13_heads_32 : decode cX13_heads 32 = .ok (.invokevirtual 649, 3) := by decide +kernel
theorem dX13_heads_35 : decode cX13_heads 35 = .ok (.iinc 1 1, 3) := by decide +kernel
theorem dX13_heads_38 : decode cX13_heads 38 = .ok (.goto (-36), 3) := by decide +kernel
theorem dX13_heads_41 : decode cX13_heads 41 = .ok (.iconst 0, 1) := by decide +kernel
theorem dX13_heads_42 : decode cX13_heads 42 = .ok (.istore_n 1, 1) := by decide +kernel
theorem dX13_heads_43 : decode cX13_heads 43 = .ok (.iload_n 1, 1) := by decide +kernel
theorem dX13_heads_44 : decode cX13_heads 44 = .ok (.aload_n 0, 1) := by decide +kernel
theorem dX13_heads_45 : decode cX13_heads 45 = .ok (.getfield 230, 3) := by decide +kernel
theorem dX13_heads_48 : decode cX13_heads 48 = .ok (.aload_n 0, 1) := by decide +kernel
theorem dX13_heads_49 : decode cX13_heads 49 = .ok (.getfield 84, 3) := by decide +kernel
theorem dX13_heads_52 : decode cX13_heads 52 = .ok (.iaload, 1) := by decide +kernel
theorem dX13_heads_53 : decode cX13_heads 53 = .ok (.if_icmp .ge 46, 3) := by decide +kernel
theorem dX13_heads_56 : decode cX13_heads 56 = .ok (.aload_n 0, 1) := by decide +kernel
theorem dX13_heads_57 : decode cX13_heads 57 = .ok (.getfield 129, 3) := by decide +kernel
theorem dX13_heads_60 : decode cX13_heads 60 = .ok (.ifCond .ne 39, 3) := by decide +kernel
theorem dX13_heads_63 : decode cX13_heads 63 = .ok (.aload_n 0, 1) := by decide +kernel
theorem dX13_heads_64 : decode cX13_heads 64 = .ok (.getfield 84, 3) := by decide +kernel
theorem dX13_heads_67 : decode cX13_heads 67 = .ok (.bipush 12, 2) := by decide +kernel
theorem dX13_heads_69 : decode cX13_heads 69 = .ok (.imul, 1) := by decide +kernel
theorem dX13_heads_70 : decode cX13_heads 70 = .ok (.iload_n 1, 1) := by decide +kernel
theorem dX13_heads_71 : decode cX13_heads 71 = .ok (.iadd, 1) := by decide +kernel
theorem dX13_heads_72 : decode cX13_heads 72 = .ok (.istore_n 2, 1) := by decide +kernel
theorem dX13_heads_73 : decode cX13_heads 73 = .ok (.aload_n 0, 1) := by decide +kernel
theorem dX13_heads_74 : decode cX13_heads 74 = .ok (.iload_n 2, 1) := by decide +kernel
theorem dX13_heads_75 : decode cX13_heads 75 = .ok (.iload_n 2, 1) := by decide +kernel
theorem dX13_heads_76 : decode cX13_heads 76 = .ok (.invokevirtual 581, 3) := by decide +kernel
theorem dX13_heads_79 : decode cX13_heads 79 = .ok (.ifCond .eq 14, 3) := by decide +kernel
theorem dX13_heads_82 : decode cX13_heads 82 = .ok (.aload_n 0, 1) := by decide +kernel
theorem dX13_heads_83 : decode cX13_heads 83 = .ok (.iconst 5, 1) := by decide +kernel
theorem dX13_heads_84 : decode cX13_heads 84 = .ok (.aload_n 0, 1) := by decide +kernel
theorem dX13_heads_85 : decode cX13_heads 85 = .ok (.getfield 259, 3) := by decide +kernel
theorem dX13_heads_88 : decode cX13_heads 88 = .ok (.iload_n 2, 1) := by decide +kernel
theorem dX13_heads_89 : decode cX13_heads 89 = .ok (.iaload, 1) := by decide +kernel
theorem dX13_heads_90 : decode cX13_heads 90 = .ok (.invokevirtual 152, 3) := by decide +kernel
theorem dX13_heads_93 : decode cX13_heads 93 = .ok (.iinc 1 1, 3) := by decide +kernel
theorem dX13_heads_96 : decode cX13_heads 96 = .ok (.goto (-53), 3) := by decide +kernel
theorem dX13_heads_99 : decode cX13_heads 99 = .ok (.return_, 1) := by decide +kernel
theorem dX13_letsBelow_0 : decode cX13_letsBelow 0 = .ok (.aload_n 0, 1) := by decide +kernel
theorem dX13_letsBelow_1 : decode cX13_letsBelow 1 = .ok (.iload_n 1, 1) := by decide +kernel
theorem dX13_letsBelow_2 : decode cX13_letsBelow 2 = .ok (.iload_n 2, 1) := by decide +kernel
theorem dX13_letsBelow_3 : decode cX13_letsBelow 3 = .ok (.invokevirtual 652, 3) := by decide +kernel
theorem dX13_letsBelow_6 : decode cX13_letsBelow 6 = .ok (.ifCond .eq 42, 3) := by decide +kernel
theorem dX13_letsBelow_9 : decode cX13_letsBelow 9 = .ok (.aload_n 0, 1) := by decide +kernel
theorem dX13_letsBelow_10 : decode cX13_letsBelow 10 = .ok (.getfield 314, 3) := by decide +kernel
theorem dX13_letsBelow_13 : decode cX13_letsBelow 13 = .ok (.iload_n 1, 1) := by decide +kernel
theorem dX13_letsBelow_14 : decode cX13_letsBelow 14 = .ok (.iaload, 1) := by decide +kernel
theorem dX13_letsBelow_15 : decode cX13_letsBelow 15 = .ok (.ifCond .eq 29, 3) := by decide +kernel
theorem dX13_letsBelow_18 : decode cX13_letsBelow 18 = .ok (.aload_n 0, 1) := by decide +kernel
theorem dX13_letsBelow_19 : decode cX13_letsBelow 19 = .ok (.getfield 319, 3) := by decide +kernel
theorem dX13_letsBelow_22 : decode cX13_letsBelow 22 = .ok (.bipush 8, 2) := by decide +kernel
theorem dX13_letsBelow_24 : decode cX13_letsBelow 24 = .ok (.iload_n 1, 1) := by decide +kernel
theorem dX13_letsBelow_25 : decode cX13_letsBelow 25 = .ok (.imul, 1) := by decide +kernel
theorem dX13_letsBelow_26 : decode cX13_letsBelow 26 = .ok (.aload_n 0, 1) := by decide +kernel
theorem dX13_letsBelow_27 : decode cX13_letsBelow 27 = .ok (.getfield 314, 3) := by decide +kernel
theorem dX13_letsBelow_30 : decode cX13_letsBelow 30 = .ok (.iload_n 1, 1) := by decide +kernel
theorem dX13_letsBelow_31 : decode cX13_letsBelow 31 = .ok (.iaload, 1) := by decide +kernel
theorem dX13_letsBelow_32 : decode cX13_letsBelow 32 = .ok (.aload_n 0, 1) := by decide +kernel
theorem dX13_letsBelow_33 : decode cX13_letsBelow 33 = .ok (.getfield 256, 3) := by decide +kernel
theorem dX13_letsBelow_36 : decode cX13_letsBelow 36 = .ok (.iload_n 2, 1) := by decide +kernel
theorem dX13_letsBelow_37 : decode cX13_letsBelow 37 = .ok (.laload, 1) := by decide +kernel
theorem dX13_letsBelow_38 : decode cX13_letsBelow 38 = .ok (.invokestatic 595, 3) := by decide +kernel
theorem dX13_letsBelow_41 : decode cX13_letsBelow 41 = .ok (.ifCond .eq 7, 3) := by decide +kernel
theorem dX13_letsBelow_44 : decode cX13_letsBelow 44 = .ok (.iconst 1, 1) := by decide +kernel
theorem dX13_letsBelow_45 : decode cX13_letsBelow 45 = .ok (.goto 4, 3) := by decide +kernel
theorem dX13_letsBelow_48 : decode cX13_letsBelow 48 = .ok (.iconst 0, 1) := by decide +kernel
theorem dX13_letsBelow_49 : decode cX13_letsBelow 49 = .ok (.ireturn, 1) := by decide +kernel
theorem dX13_head_0 : decode cX13_head 0 = .ok (.aload_n 0, 1) := by decide +kernel
theorem dX13_head_1 : decode cX13_head 1 = .ok (.aload_n 0, 1) := by decide +kernel
theorem dX13_head_2 : decode cX13_head 2 = .ok (.getfield 84, 3) := by decide +kernel
theorem dX13_head_5 : decode cX13_head 5 = .ok (.aload_n 0, 1) := by decide +kernel
theorem dX13_head_6 : decode cX13_head 6 = .ok (.getfield 256, 3) := by decide +kernel
theorem dX13_head_9 : decode cX13_head 9 = .ok (.iload_n 1, 1) := by decide +kernel
theorem dX13_head_10 : decode cX13_head 10 = .ok (.laload, 1) := by decide +kernel
theorem dX13_head_11 : decode cX13_head 11 = .ok (.invokevirtual 531, 3) := by decide +kernel
theorem dX13_head_14 : decode cX13_head 14 = .ok (.iload_n 1, 1) := by decide +kernel
theorem dX13_head_15 : decode cX13_head 15 = .ok (.if_icmp .ne 17, 3) := by decide +kernel
theorem dX13_head_18 : decode cX13_head 18 = .ok (.aload_n 0, 1) := by decide +kernel
theorem dX13_head_19 : decode cX13_head 19 = .ok (.getfield 256, 3) := by decide +kernel
theorem dX13_head_22 : decode cX13_head 22 = .ok (.iload_n 1, 1) := by decide +kernel
theorem dX13_head_23 : decode cX13_head 23 = .ok (.laload, 1) := by decide +kernel
theorem dX13_head_24 : decode cX13_head 24 = .ok (.invokestatic 545, 3) := by decide +kernel
theorem dX13_head_27 : decode cX13_head 27 = .ok (.bipush 26, 2) := by decide +kernel
theorem dX13_head_29 : decode cX13_head 29 = .ok (.if_icmp .ne 14, 3) := by decide +kernel
theorem dX13_head_32 : decode cX13_head 32 = .ok (.aload_n 0, 1) := by decide +kernel
theorem dX13_head_33 : decode cX13_head 33 = .ok (.iconst 4, 1) := by decide +kernel
theorem dX13_head_34 : decode cX13_head 34 = .ok (.aload_n 0, 1) := by decide +kernel
theorem dX13_head_35 : decode cX13_head 35 = .ok (.getfield 259, 3) := by decide +kernel
theorem dX13_head_38 : decode cX13_head 38 = .ok (.iload_n 1, 1) := by decide +kernel
theorem dX13_head_39 : decode cX13_head 39 = .ok (.iaload, 1) := by decide +kernel
theorem dX13_head_40 : decode cX13_head 40 = .ok (.invokevirtual 152, 3) := by decide +kernel
theorem dX13_head_43 : decode cX13_head 43 = .ok (.aload_n 0, 1) := by decide +kernel
theorem dX13_head_44 : decode cX13_head 44 = .ok (.getfield 269, 3) := by decide +kernel
theorem dX13_head_47 : decode cX13_head 47 = .ok (.iload_n 1, 1) := by decide +kernel
theorem dX13_head_48 : decode cX13_head 48 = .ok (.laload, 1) := by decide +kernel
theorem dX13_head_49 : decode cX13_head 49 = .ok (.lconst 0, 1) := by decide +kernel
theorem dX13_head_50 : decode cX13_head 50 = .ok (.lcmp, 1) := by decide +kernel
theorem dX13_head_51 : decode cX13_head 51 = .ok (.ifCond .eq 66, 3) := by decide +kernel
theorem dX13_head_54 : decode cX13_head 54 = .ok (.aload_n 0, 1) := by decide +kernel
theorem dX13_head_55 : decode cX13_head 55 = .ok (.aload_n 0, 1) := by decide +kernel
theorem dX13_head_56 : decode cX13_head 56 = .ok (.getfield 269, 3) := by decide +kernel
theorem dX13_head_59 : decode cX13_head 59 = .ok (.iload_n 1, 1) := by decide +kernel
theorem dX13_head_60 : decode cX13_head 60 = .ok (.laload, 1) := by decide +kernel
theorem dX13_head_61 : decode cX13_head 61 = .ok (.invokevirtual 551, 3) := by decide +kernel
theorem dX13_head_64 : decode cX13_head 64 = .ok (.istore_n 2, 1) := by decide +kernel
theorem dX13_head_65 : decode cX13_head 65 = .ok (.aload_n 0, 1) := by decide +kernel
theorem dX13_head_66 : decode cX13_head 66 = .ok (.iload_n 1, 1) := by decide +kernel
theorem dX13_head_67 : decode cX13_head 67 = .ok (.invokevirtual 548, 3) := by decide +kernel
theorem dX13_head_70 : decode cX13_head 70 = .ok (.ifCond .ne 36, 3) := by decide +kernel
theorem dX13_head_73 : decode cX13_head 73 = .ok (.iload_n 2, 1) := by decide +kernel
theorem dX13_head_74 : decode cX13_head 74 = .ok (.bipush (-2), 2) := by decide +kernel
theorem dX13_head_76 : decode cX13_head 76 = .ok (.if_icmp .eq 30, 3) := by decide +kernel
theorem dX13_head_79 : decode cX13_head 79 = .ok (.aload_n 0, 1) := by decide +kernel
theorem dX13_head_80 : decode cX13_head 80 = .ok (.iload_n 2, 1) := by decide +kernel
theorem dX13_head_81 : decode cX13_head 81 = .ok (.invokevirtual 548, 3) := by decide +kernel
theorem dX13_head_84 : decode cX13_head 84 = .ok (.ifCond .ne 22, 3) := by decide +kernel
theorem dX13_head_87 : decode cX13_head 87 = .ok (.aload_n 0, 1) := by decide +kernel
theorem dX13_head_88 : decode cX13_head 88 = .ok (.getfield 266, 3) := by decide +kernel
theorem dX13_head_91 : decode cX13_head 91 = .ok (.iload_n 2, 1) := by decide +kernel
theorem dX13_head_92 : decode cX13_head 92 = .ok (.iaload, 1) := by decide +kernel
theorem dX13_head_93 : decode cX13_head 93 = .ok (.iconst 1, 1) := by decide +kernel
theorem dX13_head_94 : decode cX13_head 94 = .ok (.if_icmp .eq 12, 3) := by decide +kernel
theorem dX13_head_97 : decode cX13_head 97 = .ok (.aload_n 0, 1) := by decide +kernel
theorem dX13_head_98 : decode cX13_head 98 = .ok (.iload_n 2, 1) := by decide +kernel
theorem dX13_head_99 : decode cX13_head 99 = .ok (.iload_n 1, 1) := by decide +kernel
theorem dX13_head_100 : decode cX13_head 100 = .ok (.invokevirtual 655, 3) := by decide +kernel
theorem dX13_head_103 : decode cX13_head 103 = .ok (.ifCond .ne 14, 3) := by decide +kernel
theorem dX13_head_106 : decode cX13_head 106 = .ok (.aload_n 0, 1) := by decide +kernel
theorem dX13_head_107 : decode cX13_head 107 = .ok (.iconst 5, 1) := by decide +kernel
theorem dX13_head_108 : decode cX13_head 108 = .ok (.aload_n 0, 1) := by decide +kernel
theorem dX13_head_109 : decode cX13_head 109 = .ok (.getfield 280, 3) := by decide +kernel
theorem dX13_head_112 : decode cX13_head 112 = .ok (.iload_n 1, 1) := by decide +kernel
theorem dX13_head_113 : decode cX13_head 113 = .ok (.iaload, 1) := by decide +kernel
theorem dX13_head_114 : decode cX13_head 114 = .ok (.invokevirtual 152, 3) := by decide +kernel
theorem dX13_head_117 : decode cX13_head 117 = .ok (.iconst 0, 1) := by decide +kernel
theorem dX13_head_118 : decode cX13_head 118 = .ok (.istore_n 2, 1) := by decide +kernel
theorem dX13_head_119 : decode cX13_head 119 = .ok (.iload_n 2, 1) := by decide +kernel
theorem dX13_head_120 : decode cX13_head 120 = .ok (.aload_n 0, 1) := by decide +kernel
theorem dX13_head_121 : decode cX13_head 121 = .ok (.getfield 283, 3) := by decide +kernel
theorem dX13_head_124 : decode cX13_head 124 = .ok (.iload_n 1, 1) := by decide +kernel
theorem dX13_head_125 : decode cX13_head 125 = .ok (.iaload, 1) := by decide +kernel
theorem dX13_head_126 : decode cX13_head 126 = .ok (.if_icmp .ge 86, 3) := by decide +kernel
theorem dX13_head_129 : decode cX13_head 129 = .ok (.aload_n 0, 1) := by decide +kernel
theorem dX13_head_130 : decode cX13_head 130 = .ok (.aload_n 0, 1) := by decide +kernel
theorem dX13_head_131 : decode cX13_head 131 = .ok (.getfield 288, 3) := by decide +kernel
theorem dX13_head_134 : decode cX13_head 134 = .ok (.iconst 4, 1) := by decide +kernel
theorem dX13_head_135 : decode cX13_head 135 = .ok (.iload_n 1, 1) := by decide +kernel
theorem dX13_head_136 : decode cX13_head 136 = .ok (.imul, 1) := by decide +kernel
theorem dX13_head_137 : decode cX13_head 137 = .ok (.iload_n 2, 1) := by decide +kernel
theorem dX13_head_138 : decode cX13_head 138 = .ok (.iadd, 1) := by decide +kernel
theorem dX13_head_139 : decode cX13_head 139 = .ok (.laload, 1) := by decide +kernel
theorem dX13_head_140 : decode cX13_head 140 = .ok (.invokevirtual 551, 3) := by decide +kernel
theorem dX13_head_143 : decode cX13_head 143 = .ok (.istore_n 3, 1) := by decide +kernel
theorem dX13_head_144 : decode cX13_head 144 = .ok (.iload_n 3, 1) := by decide +kernel
theorem dX13_head_145 : decode cX13_head 145 = .ok (.bipush (-2), 2) := by decide +kernel
theorem dX13_head_147 : decode cX13_head 147 = .ok (.if_icmp .eq 44, 3) := by decide +kernel
theorem dX13_head_150 : decode cX13_head 150 = .ok (.aload_n 0, 1) := by decide +kernel
theorem dX13_head_151 : decode cX13_head 151 = .ok (.iload_n 3, 1) := by decide +kernel
theorem dX13_head_152 : decode cX13_head 152 = .ok (.invokevirtual 548, 3) := by decide +kernel
theorem dX13_head_155 : decode cX13_head 155 = .ok (.ifCond .eq 36, 3) := by decide +kernel
theorem dX13_head_158 : decode cX13_head 158 = .ok (.aload_n 0, 1) := by decide +kernel
theorem dX13_head_159 : decode cX13_head 159 = .ok (.iload_n 3, 1) := by decide +kernel
theorem dX13_head_160 : decode cX13_head 160 = .ok (.iload_n 1, 1) := by decide +kernel
theorem dX13_head_161 : decode cX13_head 161 = .ok (.invokevirtual 655, 3) := by decide +kernel
theorem dX13_head_164 : decode cX13_head 164 = .ok (.ifCond .eq 27, 3) := by decide +kernel
theorem dX13_head_167 : decode cX13_head 167 = .ok (.aload_n 0, 1) := by decide +kernel
theorem dX13_head_168 : decode cX13_head 168 = .ok (.getfield 288, 3) := by decide +kernel
theorem dX13_head_171 : decode cX13_head 171 = .ok (.iconst 4, 1) := by decide +kernel
theorem dX13_head_172 : decode cX13_head 172 = .ok (.iload_n 1, 1) := by decide +kernel
theorem dX13_head_173 : decode cX13_head 173 = .ok (.imul, 1) := by decide +kernel
theorem dX13_head_174 : decode cX13_head 174 = .ok (.iload_n 2, 1) := by decide +kernel
theorem dX13_head_175 : decode cX13_head 175 = .ok (.aload_n 0, 1) := by decide +kernel
theorem dX13_head_176 : decode cX13_head 176 = .ok (.getfield 288, 3) := by decide +kernel
theorem dX13_head_179 : decode cX13_head 179 = .ok (.iconst 4, 1) := by decide +kernel
theorem dX13_head_180 : decode cX13_head 180 = .ok (.iload_n 1, 1) := by decide +kernel
theorem dX13_head_181 : decode cX13_head 181 = .ok (.imul, 1) := by decide +kernel
theorem dX13_head_182 : decode cX13_head 182 = .ok (.iload_n 2, 1) := by decide +kernel
theorem dX13_head_183 : decode cX13_head 183 = .ok (.iadd, 1) := by decide +kernel
theorem dX13_head_184 : decode cX13_head 184 = .ok (.laload, 1) := by decide +kernel
theorem dX13_head_185 : decode cX13_head 185 = .ok (.invokestatic 595, 3) := by decide +kernel
theorem dX13_head_188 : decode cX13_head 188 = .ok (.ifCond .eq 18, 3) := by decide +kernel
theorem dX13_head_191 : decode cX13_head 191 = .ok (.aload_n 0, 1) := by decide +kernel
theorem dX13_head_192 : decode cX13_head 192 = .ok (.iconst 5, 1) := by decide +kernel
theorem dX13_head_193 : decode cX13_head 193 = .ok (.aload_n 0, 1) := by decide +kernel
theorem dX13_head_194 : decode cX13_head 194 = .ok (.getfield 291, 3) := by decide +kernel
theorem dX13_head_197 : decode cX13_head 197 = .ok (.iconst 4, 1) := by decide +kernel
theorem dX13_head_198 : decode cX13_head 198 = .ok (.iload_n 1, 1) := by decide +kernel
theorem dX13_head_199 : decode cX13_head 199 = .ok (.imul, 1) := by decide +kernel
theorem dX13_head_200 : decode cX13_head 200 = .ok (.iload_n 2, 1) := by decide +kernel
theorem dX13_head_201 : decode cX13_head 201 = .ok (.iadd, 1) := by decide +kernel
theorem dX13_head_202 : decode cX13_head 202 = .ok (.iaload, 1) := by decide +kernel
theorem dX13_head_203 : decode cX13_head 203 = .ok (.invokevirtual 152, 3) := by decide +kernel
theorem dX13_head_206 : decode cX13_head 206 = .ok (.iinc 2 1, 3) := by decide +kernel
theorem dX13_head_209 : decode cX13_head 209 = .ok (.goto (-90), 3) := by decide +kernel
theorem dX13_head_212 : decode cX13_head 212 = .ok (.aload_n 0, 1) := by decide +kernel
theorem dX13_head_213 : decode cX13_head 213 = .ok (.getfield 272, 3) := by decide +kernel
theorem dX13_head_216 : decode cX13_head 216 = .ok (.iload_n 1, 1) := by decide +kernel
theorem dX13_head_217 : decode cX13_head 217 = .ok (.laload, 1) := by decide +kernel
theorem dX13_head_218 : decode cX13_head 218 = .ok (.lconst 0, 1) := by decide +kernel
theorem dX13_head_219 : decode cX13_head 219 = .ok (.lcmp, 1) := by decide +kernel
theorem dX13_head_220 : decode cX13_head 220 = .ok (.ifCond .eq 70, 3) := by decide +kernel
theorem dX13_head_223 : decode cX13_head 223 = .ok (.aload_n 0, 1) := by decide +kernel
theorem dX13_head_224 : decode cX13_head 224 = .ok (.aload_n 0, 1) := by decide +kernel
theorem dX13_head_225 : decode cX13_head 225 = .ok (.getfield 84, 3) := by decide +kernel
theorem dX13_head_228 : decode cX13_head 228 = .ok (.aload_n 0, 1) := by decide +kernel
theorem dX13_head_229 : decode cX13_head 229 = .ok (.getfield 272, 3) := by decide +kernel
theorem dX13_head_232 : decode cX13_head 232 = .ok (.iload_n 1, 1) := by decide +kernel
theorem dX13_head_233 : decode cX13_head 233 = .ok (.laload, 1) := by decide +kernel
theorem dX13_head_234 : decode cX13_head 234 = .ok (.invokevirtual 531, 3) := by decide +kernel
theorem dX13_head_237 : decode cX13_head 237 = .ok (.istore_n 2, 1) := by decide +kernel
theorem dX13_head_238 : decode cX13_head 238 = .ok (.iload_n 2, 1) := by decide +kernel
theorem dX13_head_239 : decode cX13_head 239 = .ok (.bipush (-2), 2) := by decide +kernel
theorem dX13_head_241 : decode cX13_head 241 = .ok (.if_icmp .eq 38, 3) := by decide +kernel
theorem dX13_head_244 : decode cX13_head 244 = .ok (.aload_n 0, 1) := by decide +kernel
theorem dX13_head_245 : decode cX13_head 245 = .ok (.iload_n 2, 1) := by decide +kernel
theorem dX13_head_246 : decode cX13_head 246 = .ok (.iload_n 1, 1) := by decide +kernel
theorem dX13_head_247 : decode cX13_head 247 = .ok (.invokevirtual 585, 3) := by decide +kernel
theorem dX13_head_250 : decode cX13_head 250 = .ok (.ifCond .eq 29, 3) := by decide +kernel
theorem dX13_head_253 : decode cX13_head 253 = .ok (.aload_n 0, 1) := by decide +kernel
theorem dX13_head_254 : decode cX13_head 254 = .ok (.getfield 308, 3) := by decide +kernel
theorem dX13_head_257 : decode cX13_head 257 = .ok (.bipush 8, 2) := by decide +kernel
theorem dX13_head_259 : decode cX13_head 259 = .ok (.iload_n 2, 1) := by decide +kernel
theorem dX13_head_260 : decode cX13_head 260 = .ok (.imul, 1) := by decide +kernel
theorem dX13_head_261 : decode cX13_head 261 = .ok (.aload_n 0, 1) := by decide +kernel
theorem dX13_head_262 : decode cX13_head 262 = .ok (.getfield 303, 3) := by decide +kernel
theorem dX13_head_265 : decode cX13_head 265 = .ok (.iload_n 2, 1) := by decide +kernel
theorem dX13_head_266 : decode cX13_head 266 = .ok (.iaload, 1) := by decide +kernel
theorem dX13_head_267 : decode cX13_head 267 = .ok (.aload_n 0, 1) := by decide +kernel
theorem dX13_head_268 : decode cX13_head 268 = .ok (.getfield 256, 3) := by decide +kernel
theorem dX13_head_271 : decode cX13_head 271 = .ok (.iload_n 1, 1) := by decide +kernel
theorem dX13_head_272 : decode cX13_head 272 = .ok (.laload, 1) := by decide +kernel
theorem dX13_head_273 : decode cX13_head 273 = .ok (.invokestatic 595, 3) := by decide +kernel
theorem dX13_head_276 : decode cX13_head 276 = .ok (.ifCond .ne 14, 3) := by decide +kernel
theorem dX13_head_279 : decode cX13_head 279 = .ok (.aload_n 0, 1) := by decide +kernel
theorem dX13_head_280 : decode cX13_head 280 = .ok (.iconst 5, 1) := by decide +kernel
theorem dX13_head_281 : decode cX13_head 281 = .ok (.aload_n 0, 1) := by decide +kernel
theorem dX13_head_282 : decode cX13_head 282 = .ok (.getfield 300, 3) := by decide +kernel
theorem dX13_head_285 : decode cX13_head 285 = .ok (.iload_n 1, 1) := by decide +kernel
theorem dX13_head_286 : decode cX13_head 286 = .ok (.iaload, 1) := by decide +kernel
theorem dX13_head_287 : decode cX13_head 287 = .ok (.invokevirtual 152, 3) := by decide +kernel
theorem dX13_head_290 : decode cX13_head 290 = .ok (.iconst 0, 1) := by decide +kernel
theorem dX13_head_291 : decode cX13_head 291 = .ok (.istore_n 2, 1) := by decide +kernel
theorem dX13_head_292 : decode cX13_head 292 = .ok (.iload_n 2, 1) := by decide +kernel
theorem dX13_head_293 : decode cX13_head 293 = .ok (.aload_n 0, 1) := by decide +kernel
theorem dX13_head_294 : decode cX13_head 294 = .ok (.getfield 303, 3) := by decide +kernel
theorem dX13_head_297 : decode cX13_head 297 = .ok (.iload_n 1, 1) := by decide +kernel
theorem dX13_head_298 : decode cX13_head 298 = .ok (.iaload, 1) := by decide +kernel
theorem dX13_head_299 : decode cX13_head 299 = .ok (.if_icmp .ge 67, 3) := by decide +kernel
theorem dX13_head_302 : decode cX13_head 302 = .ok (.aload_n 0, 1) := by decide +kernel
theorem dX13_head_303 : decode cX13_head 303 = .ok (.aload_n 0, 1) := by decide +kernel
theorem dX13_head_304 : decode cX13_head 304 = .ok (.getfield 84, 3) := by decide +kernel
theorem dX13_head_307 : decode cX13_head 307 = .ok (.aload_n 0, 1) := by decide +kernel
theorem dX13_head_308 : decode cX13_head 308 = .ok (.getfield 308, 3) := by decide +kernel
theorem dX13_head_311 : decode cX13_head 311 = .ok (.bipush 8, 2) := by decide +kernel
theorem dX13_head_313 : decode cX13_head 313 = .ok (.iload_n 1, 1) := by decide +kernel
theorem dX13_head_314 : decode cX13_head 314 = .ok (.imul, 1) := by decide +kernel
theorem dX13_head_315 : decode cX13_head 315 = .ok (.iload_n 2, 1) := by decide +kernel
theorem dX13_head_316 : decode cX13_head 316 = .ok (.iadd, 1) := by decide +kernel
theorem dX13_head_317 : decode cX13_head 317 = .ok (.laload, 1) := by decide +kernel
theorem dX13_head_318 : decode cX13_head 318 = .ok (.invokevirtual 531, 3) := by decide +kernel
theorem dX13_head_321 : decode cX13_head 321 = .ok (.istore_n 3, 1) := by decide +kernel
theorem dX13_head_322 : decode cX13_head 322 = .ok (.iload_n 3, 1) := by decide +kernel
theorem dX13_head_323 : decode cX13_head 323 = .ok (.bipush (-2), 2) := by decide +kernel
theorem dX13_head_325 : decode cX13_head 325 = .ok (.if_icmp .eq 19, 3) := by decide +kernel
theorem dX13_head_328 : decode cX13_head 328 = .ok (.aload_n 0, 1) := by decide +kernel
theorem dX13_head_329 : decode cX13_head 329 = .ok (.getfield 272, 3) := by decide +kernel
theorem dX13_head_332 : decode cX13_head 332 = .ok (.iload_n 3, 1) := by decide +kernel
theorem dX13_head_333 : decode cX13_head 333 = .ok (.laload, 1) := by decide +kernel
theorem dX13_head_334 : decode cX13_head 334 = .ok (.aload_n 0, 1) := by decide +kernel
theorem dX13_head_335 : decode cX13_head 335 = .ok (.getfield 256, 3) := by decide +kernel
theorem dX13_head_338 : decode cX13_head 338 = .ok (.iload_n 1, 1) := by decide +kernel
theorem dX13_head_339 : decode cX13_head 339 = .ok (.laload, 1) := by decide +kernel
theorem dX13_head_340 : decode cX13_head 340 = .ok (.lcmp, 1) := by decide +kernel
theorem dX13_head_341 : decode cX13_head 341 = .ok (.ifCond .eq 19, 3) := by decide +kernel
theorem dX13_head_344 : decode cX13_head 344 = .ok (.aload_n 0, 1) := by decide +kernel
theorem dX13_head_345 : decode cX13_head 345 = .ok (.iconst 5, 1) := by decide +kernel
theorem dX13_head_346 : decode cX13_head 346 = .ok (.aload_n 0, 1) := by decide +kernel
theorem dX13_head_347 : decode cX13_head 347 = .ok (.getfield 311, 3) := by decide +kernel
theorem dX13_head_350 : decode cX13_head 350 = .ok (.bipush 8, 2) := by decide +kernel
theorem dX13_head_352 : decode cX13_head 352 = .ok (.iload_n 1, 1) := by decide +kernel
theorem dX13_head_353 : decode cX13_head 353 = .ok (.imul, 1) := by decide +kernel
theorem dX13_head_354 : decode cX13_head 354 = .ok (.iload_n 2, 1) := by decide +kernel
theorem dX13_head_355 : decode cX13_head 355 = .ok (.iadd, 1) := by decide +kernel
theorem dX13_head_356 : decode cX13_head 356 = .ok (.iaload, 1) := by decide +kernel
theorem dX13_head_357 : decode cX13_head 357 = .ok (.invokevirtual 152, 3) := by decide +kernel
theorem dX13_head_360 : decode cX13_head 360 = .ok (.iinc 2 1, 3) := by decide +kernel
theorem dX13_head_363 : decode cX13_head 363 = .ok (.goto (-71), 3) := by decide +kernel
theorem dX13_head_366 : decode cX13_head 366 = .ok (.iconst 0, 1) := by decide +kernel
theorem dX13_head_367 : decode cX13_head 367 = .ok (.istore_n 2, 1) := by decide +kernel
theorem dX13_head_368 : decode cX13_head 368 = .ok (.iload_n 2, 1) := by decide +kernel
theorem dX13_head_369 : decode cX13_head 369 = .ok (.aload_n 0, 1) := by decide +kernel
theorem dX13_head_370 : decode cX13_head 370 = .ok (.getfield 314, 3) := by decide +kernel
theorem dX13_head_373 : decode cX13_head 373 = .ok (.iload_n 1, 1) := by decide +kernel
theorem dX13_head_374 : decode cX13_head 374 = .ok (.iaload, 1) := by decide +kernel
theorem dX13_head_375 : decode cX13_head 375 = .ok (.if_icmp .ge 49, 3) := by decide +kernel
theorem dX13_head_378 : decode cX13_head 378 = .ok (.aload_n 0, 1) := by decide +kernel
theorem dX13_head_379 : decode cX13_head 379 = .ok (.aload_n 0, 1) := by decide +kernel
theorem dX13_head_380 : decode cX13_head 380 = .ok (.getfield 84, 3) := by decide +kernel
theorem dX13_head_383 : decode cX13_head 383 = .ok (.aload_n 0, 1) := by decide +kernel
theorem dX13_head_384 : decode cX13_head 384 = .ok (.getfield 319, 3) := by decide +kernel
theorem dX13_head_387 : decode cX13_head 387 = .ok (.bipush 8, 2) := by decide +kernel
theorem dX13_head_389 : decode cX13_head 389 = .ok (.iload_n 1, 1) := by decide +kernel
theorem dX13_head_390 : decode cX13_head 390 = .ok (.imul, 1) := by decide +kernel
theorem dX13_head_391 : decode cX13_head 391 = .ok (.iload_n 2, 1) := by decide +kernel
theorem dX13_head_392 : decode cX13_head 392 = .ok (.iadd, 1) := by decide +kernel
theorem dX13_head_393 : decode cX13_head 393 = .ok (.laload, 1) := by decide +kernel
theorem dX13_head_394 : decode cX13_head 394 = .ok (.invokevirtual 531, 3) := by decide +kernel
theorem dX13_head_397 : decode cX13_head 397 = .ok (.bipush (-2), 2) := by decide +kernel
theorem dX13_head_399 : decode cX13_head 399 = .ok (.if_icmp .ne 19, 3) := by decide +kernel
theorem dX13_head_402 : decode cX13_head 402 = .ok (.aload_n 0, 1) := by decide +kernel
theorem dX13_head_403 : decode cX13_head 403 = .ok (.iconst 5, 1) := by decide +kernel
theorem dX13_head_404 : decode cX13_head 404 = .ok (.aload_n 0, 1) := by decide +kernel
theorem dX13_head_405 : decode cX13_head 405 = .ok (.getfield 322, 3) := by decide +kernel
theorem dX13_head_408 : decode cX13_head 408 = .ok (.bipush 8, 2) := by decide +kernel
theorem dX13_head_410 : decode cX13_head 410 = .ok (.iload_n 1, 1) := by decide +kernel
theorem dX13_head_411 : decode cX13_head 411 = .ok (.imul, 1) := by decide +kernel
theorem dX13_head_412 : decode cX13_head 412 = .ok (.iload_n 2, 1) := by decide +kernel
theorem dX13_head_413 : decode cX13_head 413 = .ok (.iadd, 1) := by decide +kernel
theorem dX13_head_414 : decode cX13_head 414 = .ok (.iaload, 1) := by decide +kernel
theorem dX13_head_415 : decode cX13_head 415 = .ok (.invokevirtual 152, 3) := by decide +kernel
theorem dX13_head_418 : decode cX13_head 418 = .ok (.iinc 2 1, 3) := by decide +kernel
theorem dX13_head_421 : decode cX13_head 421 = .ok (.goto (-53), 3) := by decide +kernel
theorem dX13_head_424 : decode cX13_head 424 = .ok (.return_, 1) := by decide +kernel
theorem dX13_membersOf_0 : decode cX13_membersOf 0 = .ok (.iconst 0, 1) := by decide +kernel
theorem dX13_membersOf_1 : decode cX13_membersOf 1 = .ok (.istore_n 1, 1) := by decide +kernel
theorem dX13_membersOf_2 : decode cX13_membersOf 2 = .ok (.iload_n 1, 1) := by decide +kernel
theorem dX13_membersOf_3 : decode cX13_membersOf 3 = .ok (.aload_n 0, 1) := by decide +kernel
theorem dX13_membersOf_4 : decode cX13_membersOf 4 = .ok (.getfield 230, 3) := by decide +kernel
theorem dX13_membersOf_7 : decode cX13_membersOf 7 = .ok (.aload_n 0, 1) := by decide +kernel
theorem dX13_membersOf_8 : decode cX13_membersOf 8 = .ok (.getfield 84, 3) := by decide +kernel
theorem dX13_membersOf_11 : decode cX13_membersOf 11 = .ok (.iaload, 1) := by decide +kernel
theorem dX13_membersOf_12 : decode cX13_membersOf 12 = .ok (.if_icmp .ge 308, 3) := by decide +kernel
theorem dX13_membersOf_15 : decode cX13_membersOf 15 = .ok (.aload_n 0, 1) := by decide +kernel
theorem dX13_membersOf_16 : decode cX13_membersOf 16 = .ok (.getfield 129, 3) := by decide +kernel
theorem dX13_membersOf_19 : decode cX13_membersOf 19 = .ok (.ifCond .ne 301, 3) := by decide +kernel
theorem dX13_membersOf_22 : decode cX13_membersOf 22 = .ok (.aload_n 0, 1) := by decide +kernel
theorem dX13_membersOf_23 : decode cX13_membersOf 23 = .ok (.getfield 84, 3) := by decide +kernel
theorem dX13_membersOf_26 : decode cX13_membersOf 26 = .ok (.bipush 12, 2) := by decide +kernel
theorem dX13_membersOf_28 : decode cX13_membersOf 28 = .ok (.imul, 1) := by decide +kernel
theorem dX13_membersOf_29 : decode cX13_membersOf 29 = .ok (.iload_n 1, 1) := by decide +kernel
theorem dX13_membersOf_30 : decode cX13_membersOf 30 = .ok (.iadd, 1) := by decide +kernel
theorem dX13_membersOf_31 : decode cX13_membersOf 31 = .ok (.istore_n 2, 1) := by decide +kernel
theorem dX13_membersOf_32 : decode cX13_membersOf 32 = .ok (.iconst 0, 1) := by decide +kernel
theorem dX13_membersOf_33 : decode cX13_membersOf 33 = .ok (.istore_n 3, 1) := by decide +kernel
theorem dX13_membersOf_34 : decode cX13_membersOf 34 = .ok (.iload_n 3, 1) := by decide +kernel
theorem dX13_membersOf_35 : decode cX13_membersOf 35 = .ok (.aload_n 0, 1) := by decide +kernel
theorem dX13_membersOf_36 : decode cX13_membersOf 36 = .ok (.getfield 275, 3) := by decide +kernel
theorem dX13_membersOf_39 : decode cX13_membersOf 39 = .ok (.iload_n 2, 1) := by decide +kernel
theorem dX13_membersOf_40 : decode cX13_membersOf 40 = .ok (.iaload, 1) := by decide +kernel
theorem dX13_membersOf_41 : decode cX13_membersOf 41 = .ok (.if_icmp .ge 273, 3) := by decide +kernel
theorem dX13_membersOf_44 : decode cX13_membersOf 44 = .ok (.aload_n 0, 1) := by decide +kernel
theorem dX13_membersOf_45 : decode cX13_membersOf 45 = .ok (.getfield 129, 3) := by decide +kernel
theorem dX13_membersOf_48 : decode cX13_membersOf 48 = .ok (.ifCond .ne 266, 3) := by decide +kernel
theorem dX13_membersOf_51 : decode cX13_membersOf 51 = .ok (.iload_n 2, 1) := by decide +kernel
theorem dX13_membersOf_52 : decode cX13_membersOf 52 = .ok (.bipush 34, 2) := by decide +kernel
theorem dX13_membersOf_54 : decode cX13_membersOf 54 = .ok (.imul, 1) := by decide +kernel
theorem dX13_membersOf_55 : decode cX13_membersOf 55 = .ok (.iload_n 3, 1) := by decide +kernel
theorem dX13_membersOf_56 : decode cX13_membersOf 56 = .ok (.iadd, 1) := by decide +kernel
theorem dX13_membersOf_57 : decode cX13_membersOf 57 = .ok (.istore 4, 2) := by decide +kernel
theorem dX13_membersOf_59 : decode cX13_membersOf 59 = .ok (.aload_n 0, 1) := by decide +kernel
theorem dX13_membersOf_60 : decode cX13_membersOf 60 = .ok (.iload_n 2, 1) := by decide +kernel
theorem dX13_membersOf_61 : decode cX13_membersOf 61 = .ok (.invokevirtual 548, 3) := by decide +kernel
theorem dX13_membersOf_64 : decode cX13_membersOf 64 = .ok (.ifCond .eq 15, 3) := by decide +kernel
theorem dX13_membersOf_67 : decode cX13_membersOf 67 = .ok (.aload_n 0, 1) := by decide +kernel
theorem dX13_membersOf_68 : decode cX13_membersOf 68 = .ok (.iload 4, 2) := by decide +kernel
theorem dX13_membersOf_70 : decode cX13_membersOf 70 = .ok (.invokevirtual 658, 3) := by decide +kernel
theorem dX13_membersOf_73 : decode cX13_membersOf 73 = .ok (.ifCond .eq 29, 3) := by decide +kernel
theorem dX13_membersOf_76 : decode cX13_membersOf 76 = .ok (.goto 13, 3) := by decide +kernel
theorem dX13_membersOf_79 : decode cX13_membersOf 79 = .ok (.aload_n 0, 1) := by decide +kernel
theorem dX13_membersOf_80 : decode cX13_membersOf 80 = .ok (.iload_n 2, 1) := by decide +kernel
theorem dX13_membersOf_81 : decode cX13_membersOf 81 = .ok (.iload 4, 2) := by decide +kernel
theorem dX13_membersOf_83 : decode cX13_membersOf 83 = .ok (.invokevirtual 661, 3) := by decide +kernel
theorem dX13_membersOf_86 : decode cX13_membersOf 86 = .ok (.ifCond .eq 16, 3) := by decide +kernel
theorem dX13_membersOf_89 : decode cX13_membersOf 89 = .ok (.aload_n 0, 1) := by decide +kernel
theorem dX13_membersOf_90 : decode cX13_membersOf 90 = .ok (.bipush 8, 2) := by decide +kernel
theorem dX13_membersOf_92 : decode cX13_membersOf 92 = .ok (.aload_n 0, 1) := by decide +kernel
theorem dX13_membersOf_93 : decode cX13_membersOf 93 = .ok (.getfield 405, 3) := by decide +kernel
theorem dX13_membersOf_96 : decode cX13_membersOf 96 = .ok (.iload 4, 2) := by decide +kernel
theorem dX13_membersOf_98 : decode cX13_membersOf 98 = .ok (.iaload, 1) := by decide +kernel
theorem dX13_membersOf_99 : decode cX13_membersOf 99 = .ok (.invokevirtual 152, 3) := by decide +kernel
theorem dX13_membersOf_102 : decode cX13_membersOf 102 = .ok (.aload_n 0, 1) := by decide +kernel
theorem dX13_membersOf_103 : decode cX13_membersOf 103 = .ok (.aload_n 0, 1) := by decide +kernel
theorem dX13_membersOf_104 : decode cX13_membersOf 104 = .ok (.getfield 359, 3) := by decide +kernel
theorem dX13_membersOf_107 : decode cX13_membersOf 107 = .ok (.iload 4, 2) := by decide +kernel
theorem dX13_membersOf_109 : decode cX13_membersOf 109 = .ok (.laload, 1) := by decide +kernel
theorem dX13_membersOf_110 : decode cX13_membersOf 110 = .ok (.aload_n 0, 1) := by decide +kernel
theorem dX13_membersOf_111 : decode cX13_membersOf 111 = .ok (.getfield 420, 3) := by decide +kernel
theorem dX13_membersOf_114 : decode cX13_membersOf 114 = .ok (.iload 4, 2) := by decide +kernel
theorem dX13_membersOf_116 : decode cX13_membersOf 116 = .ok (.iaload, 1) := by decide +kernel
theorem dX13_membersOf_117 : decode cX13_membersOf 117 = .ok (.iload_n 2, 1) := by decide +kernel
theorem dX13_membersOf_118 : decode cX13_membersOf 118 = .ok (.invokevirtual 664, 3) := by decide +kernel
theorem dX13_membersOf_121 : decode cX13_membersOf 121 = .ok (.iconst 0, 1) := by decide +kernel
theorem dX13_membersOf_122 : decode cX13_membersOf 122 = .ok (.istore 5, 2) := by decide +kernel
theorem dX13_membersOf_124 : decode cX13_membersOf 124 = .ok (.iload 5, 2) := by decide +kernel
theorem dX13_membersOf_126 : decode cX13_membersOf 126 = .ok (.aload_n 0, 1) := by decide +kernel
theorem dX13_membersOf_127 : decode cX13_membersOf 127 = .ok (.getfield 362, 3) := by decide +kernel
theorem dX13_membersOf_130 : decode cX13_membersOf 130 = .ok (.iload 4, 2) := by decide +kernel
theorem dX13_membersOf_132 : decode cX13_membersOf 132 = .ok (.iaload, 1) := by decide +kernel
theorem dX13_membersOf_133 : decode cX13_membersOf 133 = .ok (.if_icmp .ge 38, 3) := by decide +kernel
theorem dX13_membersOf_136 : decode cX13_membersOf 136 = .ok (.aload_n 0, 1) := by decide +kernel
theorem dX13_membersOf_137 : decode cX13_membersOf 137 = .ok (.aload_n 0, 1) := by decide +kernel
theorem dX13_membersOf_138 : decode cX13_membersOf 138 = .ok (.getfield 442, 3) := by decide +kernel
theorem dX13_membersOf_141 : decode cX13_membersOf 141 = .ok (.iconst 4, 1) := by decide +kernel
theorem dX13_membersOf_142 : decode cX13_membersOf 142 = .ok (.iload 4, 2) := by decide +kernel
theorem dX13_membersOf_144 : decode cX13_membersOf 144 = .ok (.imul, 1) := by decide +kernel
theorem dX13_membersOf_145 : decode cX13_membersOf 145 = .ok (.iload 5, 2) := by decide +kernel
theorem dX13_membersOf_147 : decode cX13_membersOf 147 = .ok (.iadd, 1) := by decide +kernel
theorem dX13_membersOf_148 : decode cX13_membersOf 148 = .ok (.laload, 1) := by decide +kernel
theorem dX13_membersOf_149 : decode cX13_membersOf 149 = .ok (.aload_n 0, 1) := by decide +kernel
theorem dX13_membersOf_150 : decode cX13_membersOf 150 = .ok (.getfield 439, 3) := by decide +kernel
theorem dX13_membersOf_153 : decode cX13_membersOf 153 = .ok (.iconst 4, 1) := by decide +kernel
theorem dX13_membersOf_154 : decode cX13_membersOf 154 = .ok (.iload 4, 2) := by decide +kernel
theorem dX13_membersOf_156 : decode cX13_membersOf 156 = .ok (.imul, 1) := by decide +kernel
theorem dX13_membersOf_157 : decode cX13_membersOf 157 = .ok (.iload 5, 2) := by decide +kernel
theorem dX13_membersOf_159 : decode cX13_membersOf 159 = .ok (.iadd, 1) := by decide +kernel
theorem dX13_membersOf_160 : decode cX13_membersOf 160 = .ok (.iaload, 1) := by decide +kernel
theorem dX13_membersOf_161 : decode cX13_membersOf 161 = .ok (.iload_n 2, 1) := by decide +kernel
theorem dX13_membersOf_162 : decode cX13_membersOf 162 = .ok (.invokevirtual 664, 3) := by decide +kernel
theorem dX13_membersOf_165 : decode cX13_membersOf 165 = .ok (.iinc 5 1, 3) := by decide +kernel
theorem dX13_membersOf_168 : decode cX13_membersOf 168 = .ok (.goto (-44), 3) := by decide +kernel
theorem dX13_membersOf_171 : decode cX13_membersOf 171 = .ok (.iconst 0, 1) := by decide +kernel
theorem dX13_membersOf_172 : decode cX13_membersOf 172 = .ok (.istore 5, 2) := by decide +kernel
theorem dX13_membersOf_174 : decode cX13_membersOf 174 = .ok (.iload 5, 2) := by decide +kernel
theorem dX13_membersOf_176 : decode cX13_membersOf 176 = .ok (.iload_n 3, 1) := by decide +kernel
theorem dX13_membersOf_177 : decode cX13_membersOf 177 = .ok (.if_icmp .ge 131, 3) := by decide +kernel
theorem dX13_membersOf_180 : decode cX13_membersOf 180 = .ok (.iload_n 2, 1) := by decide +kernel
theorem dX13_membersOf_181 : decode cX13_membersOf 181 = .ok (.bipush 34, 2) := by decide +kernel
theorem dX13_membersOf_183 : decode cX13_membersOf 183 = .ok (.imul, 1) := by decide +kernel
theorem dX13_membersOf_184 : decode cX13_membersOf 184 = .ok (.iload 5, 2) := by decide +kernel
theorem dX13_membersOf_186 : decode cX13_membersOf 186 = .ok (.iadd, 1) := by decide +kernel
theorem dX13_membersOf_187 : decode cX13_membersOf 187 = .ok (.istore 6, 2) := by decide +kernel
theorem dX13_membersOf_189 : decode cX13_membersOf 189 = .ok (.aload_n 0, 1) := by decide +kernel
theorem dX13_membersOf_190 : decode cX13_membersOf 190 = .ok (.getfield 402, 3) := by decide +kernel
theorem dX13_membersOf_193 : decode cX13_membersOf 193 = .ok (.iload 6, 2) := by decide +kernel
theorem dX13_membersOf_195 : decode cX13_membersOf 195 = .ok (.iaload, 1) := by decide +kernel
theorem dX13_membersOf_196 : decode cX13_membersOf 196 = .ok (.aload_n 0, 1) := by decide +kernel
theorem dX13_membersOf_197 : decode cX13_membersOf 197 = .ok (.getfield 402, 3) := by decide +kernel
theorem dX13_membersOf_200 : decode cX13_membersOf 200 = .ok (.iload 4, 2) := by decide +kernel
theorem dX13_membersOf_202 : decode cX13_membersOf 202 = .ok (.iaload, 1) := by decide +kernel
theorem dX13_membersOf_203 : decode cX13_membersOf 203 = .ok (.if_icmp .ne 78, 3) := by decide +kernel
theorem dX13_membersOf_206 : decode cX13_membersOf 206 = .ok (.aload_n 0, 1) := by decide +kernel
theorem dX13_membersOf_207 : decode cX13_membersOf 207 = .ok (.getfield 402, 3) := by decide +kernel
theorem dX13_membersOf_210 : decode cX13_membersOf 210 = .ok (.iload 4, 2) := by decide +kernel
theorem dX13_membersOf_212 : decode cX13_membersOf 212 = .ok (.iaload, 1) := by decide +kernel
theorem dX13_membersOf_213 : decode cX13_membersOf 213 = .ok (.ifCond .ne 24, 3) := by decide +kernel
theorem dX13_membersOf_216 : decode cX13_membersOf 216 = .ok (.aload_n 0, 1) := by decide +kernel
theorem dX13_membersOf_217 : decode cX13_membersOf 217 = .ok (.getfield 356, 3) := by decide +kernel
theorem dX13_membersOf_220 : decode cX13_membersOf 220 = .ok (.iload 6, 2) := by decide +kernel
theorem dX13_membersOf_222 : decode cX13_membersOf 222 = .ok (.laload, 1) := by decide +kernel
theorem dX13_membersOf_223 : decode cX13_membersOf 223 = .ok (.aload_n 0, 1) := by decide +kernel
theorem dX13_membersOf_224 : decode cX13_membersOf 224 = .ok (.getfield 356, 3) := by decide +kernel
theorem dX13_membersOf_227 : decode cX13_membersOf 227 = .ok (.iload 4, 2) := by decide +kernel
theorem dX13_membersOf_229 : decode cX13_membersOf 229 = .ok (.laload, 1) := by decide +kernel
theorem dX13_membersOf_230 : decode cX13_membersOf 230 = .ok (.lcmp, 1) := by decide +kernel
theorem dX13_membersOf_231 : decode cX13_membersOf 231 = .ok (.ifCond .ne 50, 3) := by decide +kernel
theorem dX13_membersOf_234 : decode cX13_membersOf 234 = .ok (.goto 43, 3) := by decide +kernel
theorem dX13_membersOf_237 : decode cX13_membersOf 237 = .ok (.aload_n 0, 1) := by decide +kernel
theorem dX13_membersOf_238 : decode cX13_membersOf 238 = .ok (.getfield 402, 3) := by decide +kernel
theorem dX13_membersOf_241 : decode cX13_membersOf 241 = .ok (.iload 4, 2) := by decide +kernel
theorem dX13_membersOf_243 : decode cX13_membersOf 243 = .ok (.iaload, 1) := by decide +kernel
theorem dX13_membersOf_244 : decode cX13_membersOf 244 = .ok (.iconst 3, 1) := by decide +kernel
theorem dX13_membersOf_245 : decode cX13_membersOf 245 = .ok (.if_icmp .eq 36, 3) := by decide +kernel
theorem dX13_membersOf_248 : decode cX13_membersOf 248 = .ok (.aload_n 0, 1) := by decide +kernel
theorem dX13_membersOf_249 : decode cX13_membersOf 249 = .ok (.getfield 356, 3) := by decide +kernel
theorem dX13_membersOf_252 : decode cX13_membersOf 252 = .ok (.iload 6, 2) := by decide +kernel
theorem dX13_membersOf_254 : decode cX13_membersOf 254 = .ok (.laload, 1) := by decide +kernel
theorem dX13_membersOf_255 : decode cX13_membersOf 255 = .ok (.aload_n 0, 1) := by decide +kernel
theorem dX13_membersOf_256 : decode cX13_membersOf 256 = .ok (.getfield 356, 3) := by decide +kernel
theorem dX13_membersOf_259 : decode cX13_membersOf 259 = .ok (.iload 4, 2) := by decide +kernel
theorem dX13_membersOf_261 : decode cX13_membersOf 261 = .ok (.laload, 1) := by decide +kernel
theorem dX13_membersOf_262 : decode cX13_membersOf 262 = .ok (.lcmp, 1) := by decide +kernel
theorem dX13_membersOf_263 : decode cX13_membersOf 263 = .ok (.ifCond .ne 18, 3) := by decide +kernel
theorem dX13_membersOf_266 : decode cX13_membersOf 266 = .ok (.aload_n 0, 1) := by decide +kernel
theorem dX13_membersOf_267 : decode cX13_membersOf 267 = .ok (.iload 6, 2) := by decide +kernel
theorem dX13_membersOf_269 : decode cX13_membersOf 269 = .ok (.iload 4, 2) := by decide +kernel
theorem dX13_membersOf_271 : decode cX13_membersOf 271 = .ok (.invokevirtual 618, 3) := by decide +kernel
theorem dX13_membersOf_274 : decode cX13_membersOf 274 = .ok (.ifCond .eq 7, 3) := by decide +kernel
theorem dX13_membersOf_277 : decode cX13_membersOf 277 = .ok (.iconst 1, 1) := by decide +kernel
theorem dX13_membersOf_278 : decode cX13_membersOf 278 = .ok (.goto 4, 3) := by decide +kernel
theorem dX13_membersOf_281 : decode cX13_membersOf 281 = .ok (.iconst 0, 1) := by decide +kernel
theorem dX13_membersOf_282 : decode cX13_membersOf 282 = .ok (.istore 7, 2) := by decide +kernel
theorem dX13_membersOf_284 : decode cX13_membersOf 284 = .ok (.iload 7, 2) := by decide +kernel
theorem dX13_membersOf_286 : decode cX13_membersOf 286 = .ok (.ifCond .eq 16, 3) := by decide +kernel
theorem dX13_membersOf_289 : decode cX13_membersOf 289 = .ok (.aload_n 0, 1) := by decide +kernel
theorem dX13_membersOf_290 : decode cX13_membersOf 290 = .ok (.bipush 6, 2) := by decide +kernel
theorem dX13_membersOf_292 : decode cX13_membersOf 292 = .ok (.aload_n 0, 1) := by decide +kernel
theorem dX13_membersOf_293 : decode cX13_membersOf 293 = .ok (.getfield 405, 3) := by decide +kernel
theorem dX13_membersOf_296 : decode cX13_membersOf 296 = .ok (.iload 4, 2) := by decide +kernel
theorem dX13_membersOf_298 : decode cX13_membersOf 298 = .ok (.iaload, 1) := by decide +kernel
theorem dX13_membersOf_299 : decode cX13_membersOf 299 = .ok (.invokevirtual 152, 3) := by decide +kernel
theorem dX13_membersOf_302 : decode cX13_membersOf 302 = .ok (.iinc 5 1, 3) := by decide +kernel
theorem dX13_membersOf_305 : decode cX13_membersOf 305 = .ok (.goto (-131), 3) := by decide +kernel
theorem dX13_membersOf_308 : decode cX13_membersOf 308 = .ok (.iinc 3 1, 3) := by decide +kernel
theorem dX13_membersOf_311 : decode cX13_membersOf 311 = .ok (.goto (-277), 3) := by decide +kernel
theorem dX13_membersOf_314 : decode cX13_membersOf 314 = .ok (.iinc 1 1, 3) := by decide +kernel
theorem dX13_membersOf_317 : decode cX13_membersOf 317 = .ok (.goto (-315), 3) := by decide +kernel
theorem dX13_membersOf_320 : decode cX13_membersOf 320 = .ok (.return_, 1) := by decide +kernel
theorem dX13_isWrongInFace_0 : decode cX13_isWrongInFace 0 = .ok (.aload_n 0, 1) := by decide +kernel
theorem dX13_isWrongInFace_1 : decode cX13_isWrongInFace 1 = .ok (.getfield 402, 3) := by decide +kernel
theorem dX13_isWrongInFace_4 : decode cX13_isWrongInFace 4 = .ok (.iload_n 1, 1) := by decide +kernel
theorem dX13_isWrongInFace_5 : decode cX13_isWrongInFace 5 = .ok (.iaload, 1) := by decide +kernel
theorem dX13_isWrongInFace_6 : decode cX13_isWrongInFace 6 = .ok (.ifCond .ne 39, 3) := by decide +kernel
theorem dX13_isWrongInFace_9 : decode cX13_isWrongInFace 9 = .ok (.aload_n 0, 1) := by decide +kernel
theorem dX13_isWrongInFace_10 : decode cX13_isWrongInFace 10 = .ok (.getfield 347, 3) := by decide +kernel
theorem dX13_isWrongInFace_13 : decode cX13_isWrongInFace 13 = .ok (.iload_n 1, 1) := by decide +kernel
theorem dX13_isWrongInFace_14 : decode cX13_isWrongInFace 14 = .ok (.baload, 1) := by decide +kernel
theorem dX13_isWrongInFace_15 : decode cX13_isWrongInFace 15 = .ok (.ifCond .ne 24, 3) := by decide +kernel
theorem dX13_isWrongInFace_18 : decode cX13_isWrongInFace 18 = .ok (.aload_n 0, 1) := by decide +kernel
theorem dX13_isWrongInFace_19 : decode cX13_isWrongInFace 19 = .ok (.getfield 399, 3) := by decide +kernel
theorem dX13_isWrongInFace_22 : decode cX13_isWrongInFace 22 = .ok (.iload_n 1, 1) := by decide +kernel
theorem dX13_isWrongInFace_23 : decode cX13_isWrongInFace 23 = .ok (.iaload, 1) := by decide +kernel
theorem dX13_isWrongInFace_24 : decode cX13_isWrongInFace 24 = .ok (.iconst 2, 1) := by decide +kernel
theorem dX13_isWrongInFace_25 : decode cX13_isWrongInFace 25 = .ok (.if_icmp .ge 14, 3) := by decide +kernel
theorem dX13_isWrongInFace_28 : decode cX13_isWrongInFace 28 = .ok (.aload_n 0, 1) := by decide +kernel
theorem dX13_isWrongInFace_29 : decode cX13_isWrongInFace 29 = .ok (.getfield 365, 3) := by decide +kernel
theorem dX13_isWrongInFace_32 : decode cX13_isWrongInFace 32 = .ok (.iload_n 1, 1) := by decide +kernel
theorem dX13_isWrongInFace_33 : decode cX13_isWrongInFace 33 = .ok (.iaload, 1) := by decide +kernel
theorem dX13_isWrongInFace_34 : decode cX13_isWrongInFace 34 = .ok (.bipush (-2), 2) := by decide +kernel
theorem dX13_isWrongInFace_36 : decode cX13_isWrongInFace 36 = .ok (.if_icmp .ne 7, 3) := by decide +kernel
theorem dX13_isWrongInFace_39 : decode cX13_isWrongInFace 39 = .ok (.iconst 1, 1) := by decide +kernel
theorem dX13_isWrongInFace_40 : decode cX13_isWrongInFace 40 = .ok (.goto 4, 3) := by decide +kernel
theorem dX13_isWrongInFace_43 : decode cX13_isWrongInFace 43 = .ok (.iconst 0, 1) := by decide +kernel
theorem dX13_isWrongInFace_44 : decode cX13_isWrongInFace 44 = .ok (.ireturn, 1) := by decide +kernel
theorem dX13_isWrongInFace_45 : decode cX13_isWrongInFace 45 = .ok (.aload_n 0, 1) := by decide +kernel
theorem dX13_isWrongInFace_46 : decode cX13_isWrongInFace 46 = .ok (.getfield 368, 3) := by decide +kernel
theorem dX13_isWrongInFace_49 : decode cX13_isWrongInFace 49 = .ok (.iload_n 1, 1) := by decide +kernel
theorem dX13_isWrongInFace_50 : decode cX13_isWrongInFace 50 = .ok (.iaload, 1) := by decide +kernel
theorem dX13_isWrongInFace_51 : decode cX13_isWrongInFace 51 = .ok (.bipush (-2), 2) := by decide +kernel
theorem dX13_isWrongInFace_53 : decode cX13_isWrongInFace 53 = .ok (.if_icmp .eq 7, 3) := by decide +kernel
theorem dX13_isWrongInFace_56 : decode cX13_isWrongInFace 56 = .ok (.iconst 1, 1) := by decide +kernel
theorem dX13_isWrongInFace_57 : decode cX13_isWrongInFace 57 = .ok (.goto 4, 3) := by decide +kernel
theorem dX13_isWrongInFace_60 : decode cX13_isWrongInFace 60 = .ok (.iconst 0, 1) := by decide +kernel
theorem dX13_isWrongInFace_61 : decode cX13_isWrongInFace 61 = .ok (.istore_n 2, 1) := by decide +kernel
theorem dX13_isWrongInFace_62 : decode cX13_isWrongInFace 62 = .ok (.aload_n 0, 1) := by decide +kernel
theorem dX13_isWrongInFace_63 : decode cX13_isWrongInFace 63 = .ok (.getfield 402, 3) := by decide +kernel
theorem dX13_isWrongInFace_66 : decode cX13_isWrongInFace 66 = .ok (.iload_n 1, 1) := by decide +kernel
theorem dX13_isWrongInFace_67 : decode cX13_isWrongInFace 67 = .ok (.iaload, 1) := by decide +kernel
theorem dX13_isWrongInFace_68 : decode cX13_isWrongInFace 68 = .ok (.iconst 1, 1) := by decide +kernel
theorem dX13_isWrongInFace_69 : decode cX13_isWrongInFace 69 = .ok (.if_icmp .ne 58, 3) := by decide +kernel
theorem dX13_isWrongInFace_72 : decode cX13_isWrongInFace 72 = .ok (.aload_n 0, 1) := by decide +kernel
theorem dX13_isWrongInFace_73 : decode cX13_isWrongInFace 73 = .ok (.getfield 399, 3) := by decide +kernel
theorem dX13_isWrongInFace_76 : decode cX13_isWrongInFace 76 = .ok (.iload_n 1, 1) := by decide +kernel
theorem dX13_isWrongInFace_77 : decode cX13_isWrongInFace 77 = .ok (.iaload, 1) := by decide +kernel
theorem dX13_isWrongInFace_78 : decode cX13_isWrongInFace 78 = .ok (.iconst 2, 1) := by decide +kernel
theorem dX13_isWrongInFace_79 : decode cX13_isWrongInFace 79 = .ok (.if_icmp .eq 48, 3) := by decide +kernel
theorem dX13_isWrongInFace_82 : decode cX13_isWrongInFace 82 = .ok (.aload_n 0, 1) := by decide +kernel
theorem dX13_isWrongInFace_83 : decode cX13_isWrongInFace 83 = .ok (.getfield 344, 3) := by decide +kernel
theorem dX13_isWrongInFace_86 : decode cX13_isWrongInFace 86 = .ok (.iload_n 1, 1) := by decide +kernel
theorem dX13_isWrongInFace_87 : decode cX13_isWrongInFace 87 = .ok (.baload, 1) := by decide +kernel
theorem dX13_isWrongInFace_88 : decode cX13_isWrongInFace 88 = .ok (.ifCond .ne 39, 3) := by decide +kernel
theorem dX13_isWrongInFace_91 : decode cX13_isWrongInFace 91 = .ok (.aload_n 0, 1) := by decide +kernel
theorem dX13_isWrongInFace_92 : decode cX13_isWrongInFace 92 = .ok (.getfield 347, 3) := by decide +kernel
theorem dX13_isWrongInFace_95 : decode cX13_isWrongInFace 95 = .ok (.iload_n 1, 1) := by decide +kernel
theorem dX13_isWrongInFace_96 : decode cX13_isWrongInFace 96 = .ok (.baload, 1) := by decide +kernel
theorem dX13_isWrongInFace_97 : decode cX13_isWrongInFace 97 = .ok (.ifCond .eq 7, 3) := by decide +kernel
theorem dX13_isWrongInFace_100 : decode cX13_isWrongInFace 100 = .ok (.iload_n 2, 1) := by decide +kernel
theorem dX13_isWrongInFace_101 : decode cX13_isWrongInFace 101 = .ok (.ifCond .ne 26, 3) := by decide +kernel
theorem dX13_isWrongInFace_104 : decode cX13_isWrongInFace 104 = .ok (.iload_n 2, 1) := by decide +kernel
theorem dX13_isWrongInFace_105 : decode cX13_isWrongInFace 105 = .ok (.ifCond .ne 26, 3) := by decide +kernel
theorem dX13_isWrongInFace_108 : decode cX13_isWrongInFace 108 = .ok (.aload_n 0, 1) := by decide +kernel
theorem dX13_isWrongInFace_109 : decode cX13_isWrongInFace 109 = .ok (.getfield 341, 3) := by decide +kernel
theorem dX13_isWrongInFace_112 : decode cX13_isWrongInFace 112 = .ok (.iload_n 1, 1) := by decide +kernel
theorem dX13_isWrongInFace_113 : decode cX13_isWrongInFace 113 = .ok (.baload, 1) := by decide +kernel
theorem dX13_isWrongInFace_114 : decode cX13_isWrongInFace 114 = .ok (.ifCond .ne 13, 3) := by decide +kernel
theorem dX13_isWrongInFace_117 : decode cX13_isWrongInFace 117 = .ok (.aload_n 0, 1) := by decide +kernel
theorem dX13_isWrongInFace_118 : decode cX13_isWrongInFace 118 = .ok (.getfield 399, 3) := by decide +kernel
theorem dX13_isWrongInFace_121 : decode cX13_isWrongInFace 121 = .ok (.iload_n 1, 1) := by decide +kernel
theorem dX13_isWrongInFace_122 : decode cX13_isWrongInFace 122 = .ok (.iaload, 1) := by decide +kernel
theorem dX13_isWrongInFace_123 : decode cX13_isWrongInFace 123 = .ok (.iconst 3, 1) := by decide +kernel
theorem dX13_isWrongInFace_124 : decode cX13_isWrongInFace 124 = .ok (.if_icmp .ne 7, 3) := by decide +kernel
theorem dX13_isWrongInFace_127 : decode cX13_isWrongInFace 127 = .ok (.iconst 1, 1) := by decide +kernel
theorem dX13_isWrongInFace_128 : decode cX13_isWrongInFace 128 = .ok (.goto 4, 3) := by decide +kernel
theorem dX13_isWrongInFace_131 : decode cX13_isWrongInFace 131 = .ok (.iconst 0, 1) := by decide +kernel
theorem dX13_isWrongInFace_132 : decode cX13_isWrongInFace 132 = .ok (.ireturn, 1) := by decide +kernel
theorem dX13_isWrongInClass_0 : decode cX13_isWrongInClass 0 = .ok (.aload_n 0, 1) := by decide +kernel
theorem dX13_isWrongInClass_1 : decode cX13_isWrongInClass 1 = .ok (.getfield 402, 3) := by decide +kernel
theorem dX13_isWrongInClass_4 : decode cX13_isWrongInClass 4 = .ok (.iload_n 2, 1) := by decide +kernel
theorem dX13_isWrongInClass_5 : decode cX13_isWrongInClass 5 = .ok (.iaload, 1) := by decide +kernel
theorem dX13_isWrongInClass_6 : decode cX13_isWrongInClass 6 = .ok (.ifCond .ne 10, 3) := by decide +kernel
theorem dX13_isWrongInClass_9 : decode cX13_isWrongInClass 9 = .ok (.aload_n 0, 1) := by decide +kernel
theorem dX13_isWrongInClass_10 : decode cX13_isWrongInClass 10 = .ok (.getfield 347, 3) := by decide +kernel
theorem dX13_isWrongInClass_13 : decode cX13_isWrongInClass 13 = .ok (.iload_n 2, 1) := by decide +kernel
theorem dX13_isWrongInClass_14 : decode cX13_isWrongInClass 14 = .ok (.baload, 1) := by decide +kernel
theorem dX13_isWrongInClass_15 : decode cX13_isWrongInClass 15 = .ok (.ireturn, 1) := by decide +kernel
theorem dX13_isWrongInClass_16 : decode cX13_isWrongInClass 16 = .ok (.aload_n 0, 1) := by decide +kernel
theorem dX13_isWrongInClass_17 : decode cX13_isWrongInClass 17 = .ok (.getfield 368, 3) := by decide +kernel
theorem dX13_isWrongInClass_20 : decode cX13_isWrongInClass 20 = .ok (.iload_n 2, 1) := by decide +kernel
theorem dX13_isWrongInClass_21 : decode cX13_isWrongInClass 21 = .ok (.iaload, 1) := by decide +kernel
theorem dX13_isWrongInClass_22 : decode cX13_isWrongInClass 22 = .ok (.bipush (-2), 2) := by decide +kernel
theorem dX13_isWrongInClass_24 : decode cX13_isWrongInClass 24 = .ok (.if_icmp .eq 7, 3) := by decide +kernel
theorem dX13_isWrongInClass_27 : decode cX13_isWrongInClass 27 = .ok (.iconst 1, 1) := by decide +kernel
theorem dX13_isWrongInClass_28 : decode cX13_isWrongInClass 28 = .ok (.goto 4, 3) := by decide +kernel
theorem dX13_isWrongInClass_31 : decode cX13_isWrongInClass 31 = .ok (.iconst 0, 1) := by decide +kernel
theorem dX13_isWrongInClass_32 : decode cX13_isWrongInClass 32 = .ok (.istore_n 3, 1) := by decide +kernel
theorem dX13_isWrongInClass_33 : decode cX13_isWrongInClass 33 = .ok (.aload_n 0, 1) := by decide +kernel
theorem dX13_isWrongInClass_34 : decode cX13_isWrongInClass 34 = .ok (.getfield 402, 3) := by decide +kernel
theorem dX13_isWrongInClass_37 : decode cX13_isWrongInClass 37 = .ok (.iload_n 2, 1) := by decide +kernel
theorem dX13_isWrongInClass_38 : decode cX13_isWrongInClass 38 = .ok (.iaload, 1) := by decide +kernel
theorem dX13_isWrongInClass_39 : decode cX13_isWrongInClass 39 = .ok (.iconst 1, 1) := by decide +kernel
theorem dX13_isWrongInClass_40 : decode cX13_isWrongInClass 40 = .ok (.if_icmp .ne 55, 3) := by decide +kernel
theorem dX13_isWrongInClass_43 : decode cX13_isWrongInClass 43 = .ok (.aload_n 0, 1) := by decide +kernel
theorem dX13_isWrongInClass_44 : decode cX13_isWrongInClass 44 = .ok (.getfield 347, 3) := by decide +kernel
theorem dX13_isWrongInClass_47 : decode cX13_isWrongInClass 47 = .ok (.iload_n 2, 1) := by decide +kernel
theorem dX13_isWrongInClass_48 : decode cX13_isWrongInClass 48 = .ok (.baload, 1) := by decide +kernel
theorem dX13_isWrongInClass_49 : decode cX13_isWrongInClass 49 = .ok (.iload_n 3, 1) := by decide +kernel
theorem dX13_isWrongInClass_50 : decode cX13_isWrongInClass 50 = .ok (.if_icmp .eq 41, 3) := by decide +kernel
theorem dX13_isWrongInClass_53 : decode cX13_isWrongInClass 53 = .ok (.aload_n 0, 1) := by decide +kernel
theorem dX13_isWrongInClass_54 : decode cX13_isWrongInClass 54 = .ok (.getfield 347, 3) := by decide +kernel
theorem dX13_isWrongInClass_57 : decode cX13_isWrongInClass 57 = .ok (.iload_n 2, 1) := by decide +kernel
theorem dX13_isWrongInClass_58 : decode cX13_isWrongInClass 58 = .ok (.baload, 1) := by decide +kernel
theorem dX13_isWrongInClass_59 : decode cX13_isWrongInClass 59 = .ok (.ifCond .eq 36, 3) := by decide +kernel
theorem dX13_isWrongInClass_62 : decode cX13_isWrongInClass 62 = .ok (.aload_n 0, 1) := by decide +kernel
theorem dX13_isWrongInClass_63 : decode cX13_isWrongInClass 63 = .ok (.getfield 399, 3) := by decide +kernel
theorem dX13_isWrongInClass_66 : decode cX13_isWrongInClass 66 = .ok (.iload_n 2, 1) := by decide +kernel
theorem dX13_isWrongInClass_67 : decode cX13_isWrongInClass 67 = .ok (.iaload, 1) := by decide +kernel
theorem dX13_isWrongInClass_68 : decode cX13_isWrongInClass 68 = .ok (.iconst 3, 1) := by decide +kernel
theorem dX13_isWrongInClass_69 : decode cX13_isWrongInClass 69 = .ok (.if_icmp .eq 22, 3) := by decide +kernel
theorem dX13_isWrongInClass_72 : decode cX13_isWrongInClass 72 = .ok (.aload_n 0, 1) := by decide +kernel
theorem dX13_isWrongInClass_73 : decode cX13_isWrongInClass 73 = .ok (.getfield 341, 3) := by decide +kernel
theorem dX13_isWrongInClass_76 : decode cX13_isWrongInClass 76 = .ok (.iload_n 2, 1) := by decide +kernel
theorem dX13_isWrongInClass_77 : decode cX13_isWrongInClass 77 = .ok (.baload, 1) := by decide +kernel
theorem dX13_isWrongInClass_78 : decode cX13_isWrongInClass 78 = .ok (.ifCond .ne 13, 3) := by decide +kernel
theorem dX13_isWrongInClass_81 : decode cX13_isWrongInClass 81 = .ok (.aload_n 0, 1) := by decide +kernel
theorem dX13_isWrongInClass_82 : decode cX13_isWrongInClass 82 = .ok (.getfield 266, 3) := by decide +kernel
theorem dX13_isWrongInClass_85 : decode cX13_isWrongInClass 85 = .ok (.iload_n 1, 1) := by decide +kernel
theorem dX13_isWrongInClass_86 : decode cX13_isWrongInClass 86 = .ok (.iaload, 1) := by decide +kernel
theorem dX13_isWrongInClass_87 : decode cX13_isWrongInClass 87 = .ok (.iconst 2, 1) := by decide +kernel
theorem dX13_isWrongInClass_88 : decode cX13_isWrongInClass 88 = .ok (.if_icmp .eq 7, 3) := by decide +kernel
theorem dX13_isWrongInClass_91 : decode cX13_isWrongInClass 91 = .ok (.iconst 1, 1) := by decide +kernel
theorem dX13_isWrongInClass_92 : decode cX13_isWrongInClass 92 = .ok (.goto 4, 3) := by decide +kernel
theorem dX13_isWrongInClass_95 : decode cX13_isWrongInClass 95 = .ok (.iconst 0, 1) := by decide +kernel
theorem dX13_isWrongInClass_96 : decode cX13_isWrongInClass 96 = .ok (.ireturn, 1) := by decide +kernel
theorem dX13_type_0 : decode cX13_type 0 = .ok (.lload_n 1, 1) := by decide +kernel
theorem dX13_type_1 : decode cX13_type 1 = .ok (.invokestatic 37, 3) := by decide +kernel
theorem dX13_type_4 : decode cX13_type 4 = .ok (.ifCond .eq 35, 3) := by decide +kernel
theorem dX13_type_7 : decode cX13_type 7 = .ok (.aload_n 0, 1) := by decide +kernel
theorem dX13_type_8 : decode cX13_type 8 = .ok (.lload_n 1, 1) := by decide +kernel
theorem dX13_type_9 : decode cX13_type 9 = .ok (.invokevirtual 551, 3) := by decide +kernel
theorem dX13_type_12 : decode cX13_type 12 = .ok (.istore 5, 2) := by decide +kernel
theorem dX13_type_14 : decode cX13_type 14 = .ok (.iload 5, 2) := by decide +kernel
theorem dX13_type_16 : decode cX13_type 16 = .ok (.bipush (-2), 2) := by decide +kernel
theorem dX13_type_18 : decode cX13_type 18 = .ok (.if_icmp .eq 14, 3) := by decide +kernel
theorem dX13_type_21 : decode cX13_type 21 = .ok (.aload_n 0, 1) := by decide +kernel
theorem dX13_type_22 : decode cX13_type 22 = .ok (.iload 5, 2) := by decide +kernel
theorem dX13_type_24 : decode cX13_type 24 = .ok (.iload 4, 2) := by decide +kernel
theorem dX13_type_26 : decode cX13_type 26 = .ok (.invokevirtual 652, 3) := by decide +kernel
theorem dX13_type_29 : decode cX13_type 29 = .ok (.ifCond .ne 10, 3) := by decide +kernel
theorem dX13_type_32 : decode cX13_type 32 = .ok (.aload_n 0, 1) := by decide +kernel
theorem dX13_type_33 : decode cX13_type 33 = .ok (.bipush 7, 2) := by decide +kernel
theorem dX13_type_35 : decode cX13_type 35 = .ok (.iload_n 3, 1) := by decide +kernel
theorem dX13_type_36 : decode cX13_type 36 = .ok (.invokevirtual 152, 3) := by decide +kernel
theorem dX13_type_39 : decode cX13_type 39 = .ok (.return_, 1) := by decide +kernel
theorem dX13_aboveIn_0 : decode cX13_aboveIn 0 = .ok (.iconst 0, 1) := by decide +kernel
theorem dX13_aboveIn_1 : decode cX13_aboveIn 1 = .ok (.istore 4, 2) := by decide +kernel
theorem dX13_aboveIn_3 : decode cX13_aboveIn 3 = .ok (.iload 4, 2) := by decide +kernel
theorem dX13_aboveIn_5 : decode cX13_aboveIn 5 = .ok (.aload_n 0, 1) := by decide +kernel
theorem dX13_aboveIn_6 : decode cX13_aboveIn 6 = .ok (.getfield 275, 3) := by decide +kernel
theorem dX13_aboveIn_9 : decode cX13_aboveIn 9 = .ok (.iload_n 1, 1) := by decide +kernel
theorem dX13_aboveIn_10 : decode cX13_aboveIn 10 = .ok (.iaload, 1) := by decide +kernel
theorem dX13_aboveIn_11 : decode cX13_aboveIn 11 = .ok (.if_icmp .ge 148, 3) := by decide +kernel
theorem dX13_aboveIn_14 : decode cX13_aboveIn 14 = .ok (.iload_n 1, 1) := by decide +kernel
theorem dX13_aboveIn_15 : decode cX13_aboveIn 15 = .ok (.bipush 34, 2) := by decide +kernel
theorem dX13_aboveIn_17 : decode cX13_aboveIn 17 = .ok (.imul, 1) := by decide +kernel
theorem dX13_aboveIn_18 : decode cX13_aboveIn 18 = .ok (.iload 4, 2) := by decide +kernel
theorem dX13_aboveIn_20 : decode cX13_aboveIn 20 = .ok (.iadd, 1) := by decide +kernel
theorem dX13_aboveIn_21 : decode cX13_aboveIn 21 = .ok (.istore 5, 2) := by decide +kernel
theorem dX13_aboveIn_23 : decode cX13_aboveIn 23 = .ok (.aload_n 0, 1) := by decide +kernel
theorem dX13_aboveIn_24 : decode cX13_aboveIn 24 = .ok (.getfield 433, 3) := by decide +kernel
theorem dX13_aboveIn_27 : decode cX13_aboveIn 27 = .ok (.iload 5, 2) := by decide +kernel
theorem dX13_aboveIn_29 : decode cX13_aboveIn 29 = .ok (.iaload, 1) := by decide +kernel
theorem dX13_aboveIn_30 : decode cX13_aboveIn 30 = .ok (.iconst 2, 1) := by decide +kernel
theorem dX13_aboveIn_31 : decode cX13_aboveIn 31 = .ok (.if_icmp .ge 23, 3) := by decide +kernel
theorem dX13_aboveIn_34 : decode cX13_aboveIn 34 = .ok (.aload_n 0, 1) := by decide +kernel
theorem dX13_aboveIn_35 : decode cX13_aboveIn 35 = .ok (.getfield 433, 3) := by decide +kernel
theorem dX13_aboveIn_38 : decode cX13_aboveIn 38 = .ok (.iload 5, 2) := by decide +kernel
theorem dX13_aboveIn_40 : decode cX13_aboveIn 40 = .ok (.iaload, 1) := by decide +kernel
theorem dX13_aboveIn_41 : decode cX13_aboveIn 41 = .ok (.iconst 1, 1) := by decide +kernel
theorem dX13_aboveIn_42 : decode cX13_aboveIn 42 = .ok (.if_icmp .ne 16, 3) := by decide +kernel
theorem dX13_aboveIn_45 : decode cX13_aboveIn 45 = .ok (.aload_n 0, 1) := by decide +kernel
theorem dX13_aboveIn_46 : decode cX13_aboveIn 46 = .ok (.iload_n 1, 1) := by decide +kernel
theorem dX13_aboveIn_47 : decode cX13_aboveIn 47 = .ok (.iload_n 3, 1) := by decide +kernel
theorem dX13_aboveIn_48 : decode cX13_aboveIn 48 = .ok (.invokevirtual 585, 3) := by decide +kernel
theorem dX13_aboveIn_51 : decode cX13_aboveIn 51 = .ok (.ifCond .eq 7, 3) := by decide +kernel
theorem dX13_aboveIn_54 : decode cX13_aboveIn 54 = .ok (.iconst 1, 1) := by decide +kernel
theorem dX13_aboveIn_55 : decode cX13_aboveIn 55 = .ok (.goto 4, 3) := by decide +kernel
theorem dX13_aboveIn_58 : decode cX13_aboveIn 58 = .ok (.iconst 0, 1) := by decide +kernel
theorem dX13_aboveIn_59 : decode cX13_aboveIn 59 = .ok (.istore 6, 2) := by decide +kernel
theorem dX13_aboveIn_61 : decode cX13_aboveIn 61 = .ok (.aload_n 0, 1) := by decide +kernel
theorem dX13_aboveIn_62 : decode cX13_aboveIn 62 = .ok (.getfield 402, 3) := by decide +kernel
theorem dX13_aboveIn_65 : decode cX13_aboveIn 65 = .ok (.iload 5, 2) := by decide +kernel
theorem dX13_aboveIn_67 : decode cX13_aboveIn 67 = .ok (.iaload, 1) := by decide +kernel
theorem dX13_aboveIn_68 : decode cX13_aboveIn 68 = .ok (.iconst 1, 1) := by decide +kernel
theorem dX13_aboveIn_69 : decode cX13_aboveIn 69 = .ok (.if_icmp .ne 84, 3) := by decide +kernel
theorem dX13_aboveIn_72 : decode cX13_aboveIn 72 = .ok (.aload_n 0, 1) := by decide +kernel
theorem dX13_aboveIn_73 : decode cX13_aboveIn 73 = .ok (.getfield 350, 3) := by decide +kernel
theorem dX13_aboveIn_76 : decode cX13_aboveIn 76 = .ok (.iload 5, 2) := by decide +kernel
theorem dX13_aboveIn_78 : decode cX13_aboveIn 78 = .ok (.baload, 1) := by decide +kernel
theorem dX13_aboveIn_79 : decode cX13_aboveIn 79 = .ok (.ifCond .ne 74, 3) := by decide +kernel
theorem dX13_aboveIn_82 : decode cX13_aboveIn 82 = .ok (.iload 6, 2) := by decide +kernel
theorem dX13_aboveIn_84 : decode cX13_aboveIn 84 = .ok (.ifCond .eq 69, 3) := by decide +kernel
theorem dX13_aboveIn_87 : decode cX13_aboveIn 87 = .ok (.aload_n 0, 1) := by decide +kernel
theorem dX13_aboveIn_88 : decode cX13_aboveIn 88 = .ok (.getfield 356, 3) := by decide +kernel
theorem dX13_aboveIn_91 : decode cX13_aboveIn 91 = .ok (.iload 5, 2) := by decide +kernel
theorem dX13_aboveIn_93 : decode cX13_aboveIn 93 = .ok (.laload, 1) := by decide +kernel
theorem dX13_aboveIn_94 : decode cX13_aboveIn 94 = .ok (.aload_n 0, 1) := by decide +kernel
theorem dX13_aboveIn_95 : decode cX13_aboveIn 95 = .ok (.getfield 356, 3) := by decide +kernel
theorem dX13_aboveIn_98 : decode cX13_aboveIn 98 = .ok (.iload_n 2, 1) := by decide +kernel
theorem dX13_aboveIn_99 : decode cX13_aboveIn 99 = .ok (.laload, 1) := by decide +kernel
theorem dX13_aboveIn_100 : decode cX13_aboveIn 100 = .ok (.lcmp, 1) := by decide +kernel
theorem dX13_aboveIn_101 : decode cX13_aboveIn 101 = .ok (.ifCond .ne 52, 3) := by decide +kernel
theorem dX13_aboveIn_104 : decode cX13_aboveIn 104 = .ok (.aload_n 0, 1) := by decide +kernel
theorem dX13_aboveIn_105 : decode cX13_aboveIn 105 = .ok (.iload 5, 2) := by decide +kernel
theorem dX13_aboveIn_107 : decode cX13_aboveIn 107 = .ok (.iload_n 2, 1) := by decide +kernel
theorem dX13_aboveIn_108 : decode cX13_aboveIn 108 = .ok (.invokevirtual 618, 3) := by decide +kernel
theorem dX13_aboveIn_111 : decode cX13_aboveIn 111 = .ok (.ifCond .eq 42, 3) := by decide +kernel
theorem dX13_aboveIn_114 : decode cX13_aboveIn 114 = .ok (.aload_n 0, 1) := by decide +kernel
theorem dX13_aboveIn_115 : decode cX13_aboveIn 115 = .ok (.getfield 341, 3) := by decide +kernel
theorem dX13_aboveIn_118 : decode cX13_aboveIn 118 = .ok (.iload 5, 2) := by decide +kernel
theorem dX13_aboveIn_120 : decode cX13_aboveIn 120 = .ok (.baload, 1) := by decide +kernel
theorem dX13_aboveIn_121 : decode cX13_aboveIn 121 = .ok (.ifCond .eq 11, 3) := by decide +kernel
theorem dX13_aboveIn_124 : decode cX13_aboveIn 124 = .ok (.aload_n 0, 1) := by decide +kernel
theorem dX13_aboveIn_125 : decode cX13_aboveIn 125 = .ok (.iload_n 1, 1) := by decide +kernel
theorem dX13_aboveIn_126 : decode cX13_aboveIn 126 = .ok (.invokevirtual 548, 3) := by decide +kernel
theorem dX13_aboveIn_129 : decode cX13_aboveIn 129 = .ok (.ifCond .ne 24, 3) := by decide +kernel
theorem dX13_aboveIn_132 : decode cX13_aboveIn 132 = .ok (.aload_n 0, 1) := by decide +kernel
theorem dX13_aboveIn_133 : decode cX13_aboveIn 133 = .ok (.getfield 668, 3) := by decide +kernel
theorem dX13_aboveIn_136 : decode cX13_aboveIn 136 = .ok (.aload_n 0, 1) := by decide +kernel
theorem dX13_aboveIn_137 : decode cX13_aboveIn 137 = .ok (.getfield 671, 3) := by decide +kernel
theorem dX13_aboveIn_140 : decode cX13_aboveIn 140 = .ok (.iload 5, 2) := by decide +kernel
theorem dX13_aboveIn_142 : decode cX13_aboveIn 142 = .ok (.iastore, 1) := by decide +kernel
theorem dX13_aboveIn_143 : decode cX13_aboveIn 143 = .ok (.aload_n 0, 1) := by decide +kernel
theorem dX13_aboveIn_144 : decode cX13_aboveIn 144 = .ok (.dup, 1) := by decide +kernel
theorem dX13_aboveIn_145 : decode cX13_aboveIn 145 = .ok (.getfield 671, 3) := by decide +kernel
theorem dX13_aboveIn_148 : decode cX13_aboveIn 148 = .ok (.iconst 1, 1) := by decide +kernel
theorem dX13_aboveIn_149 : decode cX13_aboveIn 149 = .ok (.iadd, 1) := by decide +kernel
theorem dX13_aboveIn_150 : decode cX13_aboveIn 150 = .ok (.putfield 671, 3) := by decide +kernel
theorem dX13_aboveIn_153 : decode cX13_aboveIn 153 = .ok (.iinc 4 1, 3) := by decide +kernel
theorem dX13_aboveIn_156 : decode cX13_aboveIn 156 = .ok (.goto (-153), 3) := by decide +kernel
theorem dX13_aboveIn_159 : decode cX13_aboveIn 159 = .ok (.return_, 1) := by decide +kernel
theorem dX13_findAbove_0 : decode cX13_findAbove 0 = .ok (.aload_n 0, 1) := by decide +kernel
theorem dX13_findAbove_1 : decode cX13_findAbove 1 = .ok (.iload_n 1, 1) := by decide +kernel
theorem dX13_findAbove_2 : decode cX13_findAbove 2 = .ok (.invokevirtual 599, 3) := by decide +kernel
theorem dX13_findAbove_5 : decode cX13_findAbove 5 = .ok (.istore_n 2, 1) := by decide +kernel
theorem dX13_findAbove_6 : decode cX13_findAbove 6 = .ok (.aload_n 0, 1) := by decide +kernel
theorem dX13_findAbove_7 : decode cX13_findAbove 7 = .ok (.iconst 0, 1) := by decide +kernel
theorem dX13_findAbove_8 : decode cX13_findAbove 8 = .ok (.putfield 671, 3) := by decide +kernel
theorem dX13_findAbove_11 : decode cX13_findAbove 11 = .ok (.aload_n 0, 1) := by decide +kernel
theorem dX13_findAbove_12 : decode cX13_findAbove 12 = .ok (.iload_n 2, 1) := by decide +kernel
theorem dX13_findAbove_13 : decode cX13_findAbove 13 = .ok (.aload_n 0, 1) := by decide +kernel
theorem dX13_findAbove_14 : decode cX13_findAbove 14 = .ok (.getfield 674, 3) := by decide +kernel
theorem dX13_findAbove_17 : decode cX13_findAbove 17 = .ok (.invokevirtual 677, 3) := by decide +kernel
theorem dX13_findAbove_20 : decode cX13_findAbove 20 = .ok (.istore_n 3, 1) := by decide +kernel
theorem dX13_findAbove_21 : decode cX13_findAbove 21 = .ok (.iconst 1, 1) := by decide +kernel
theorem dX13_findAbove_22 : decode cX13_findAbove 22 = .ok (.istore 4, 2) := by decide +kernel
theorem dX13_findAbove_24 : decode cX13_findAbove 24 = .ok (.iload 4, 2) := by decide +kernel
theorem dX13_findAbove_26 : decode cX13_findAbove 26 = .ok (.iload_n 3, 1) := by decide +kernel
theorem dX13_findAbove_27 : decode cX13_findAbove 27 = .ok (.if_icmp .ge 22, 3) := by decide +kernel
theorem dX13_findAbove_30 : decode cX13_findAbove 30 = .ok (.aload_n 0, 1) := by decide +kernel
theorem dX13_findAbove_31 : decode cX13_findAbove 31 = .ok (.aload_n 0, 1) := by decide +kernel
theorem dX13_findAbove_32 : decode cX13_findAbove 32 = .ok (.getfield 674, 3) := by decide +kernel
theorem dX13_findAbove_35 : decode cX13_findAbove 35 = .ok (.iload 4, 2) := by decide +kernel
theorem dX13_findAbove_37 : decode cX13_findAbove 37 = .ok (.iaload, 1) := by decide +kernel
theorem dX13_findAbove_38 : decode cX13_findAbove 38 = .ok (.iload_n 1, 1) := by decide +kernel
theorem dX13_findAbove_39 : decode cX13_findAbove 39 = .ok (.iload_n 2, 1) := by decide +kernel
theorem dX13_findAbove_40 : decode cX13_findAbove 40 = .ok (.invokevirtual 680, 3) := by decide +kernel
theorem dX13_findAbove_43 : decode cX13_findAbove 43 = .ok (.iinc 4 1, 3) := by decide +kernel
theorem dX13_findAbove_46 : decode cX13_findAbove 46 = .ok (.goto (-22), 3) := by decide +kernel
theorem dX13_findAbove_49 : decode cX13_findAbove 49 = .ok (.aload_n 0, 1) := by decide +kernel
theorem dX13_findAbove_50 : decode cX13_findAbove 50 = .ok (.iload_n 2, 1) := by decide +kernel
theorem dX13_findAbove_51 : decode cX13_findAbove 51 = .ok (.aload_n 0, 1) := by decide +kernel
theorem dX13_findAbove_52 : decode cX13_findAbove 52 = .ok (.getfield 674, 3) := by decide +kernel
theorem dX13_findAbove_55 : decode cX13_findAbove 55 = .ok (.invokevirtual 633, 3) := by decide +kernel
theorem dX13_findAbove_58 : decode cX13_findAbove 58 = .ok (.istore 4, 2) := by decide +kernel
theorem dX13_findAbove_60 : decode cX13_findAbove 60 = .ok (.iconst 0, 1) := by decide +kernel
theorem dX13_findAbove_61 : decode cX13_findAbove 61 = .ok (.istore 5, 2) := by decide +kernel
theorem dX13_findAbove_63 : decode cX13_findAbove 63 = .ok (.iload 5, 2) := by decide +kernel
theorem dX13_findAbove_65 : decode cX13_findAbove 65 = .ok (.iload 4, 2) := by decide +kernel
theorem dX13_findAbove_67 : decode cX13_findAbove 67 = .ok (.if_icmp .ge 22, 3) := by decide +kernel
theorem dX13_findAbove_70 : decode cX13_findAbove 70 = .ok (.aload_n 0, 1) := by decide +kernel
theorem dX13_findAbove_71 : decode cX13_findAbove 71 = .ok (.aload_n 0, 1) := by decide +kernel
theorem dX13_findAbove_72 : decode cX13_findAbove 72 = .ok (.getfield 674, 3) := by decide +kernel
theorem dX13_findAbove_75 : decode cX13_findAbove 75 = .ok (.iload 5, 2) := by decide +kernel
theorem dX13_findAbove_77 : decode cX13_findAbove 77 = .ok (.iaload, 1) := by decide +kernel
theorem dX13_findAbove_78 : decode cX13_findAbove 78 = .ok (.iload_n 1, 1) := by decide +kernel
theorem dX13_findAbove_79 : decode cX13_findAbove 79 = .ok (.iload_n 2, 1) := by decide +kernel
theorem dX13_findAbove_80 : decode cX13_findAbove 80 = .ok (.invokevirtual 680, 3) := by decide +kernel
theorem dX13_findAbove_83 : decode cX13_findAbove 83 = .ok (.iinc 5 1, 3) := by decide +kernel
theorem dX13_findAbove_86 : decode cX13_findAbove 86 = .ok (.goto (-23), 3) := by decide +kernel
theorem dX13_findAbove_89 : decode cX13_findAbove 89 = .ok (.return_, 1) := by decide +kernel
theorem dX13_againstAbove_0 : decode cX13_againstAbove 0 = .ok (.iconst 0, 1) := by decide +kernel
theorem dX13_againstAbove_1 : decode cX13_againstAbove 1 = .ok (.istore_n 1, 1) := by decide +kernel
theorem dX13_againstAbove_2 : decode cX13_againstAbove 2 = .ok (.iload_n 1, 1) := by decide +kernel
theorem dX13_againstAbove_3 : decode cX13_againstAbove 3 = .ok (.aload_n 0, 1) := by decide +kernel
theorem dX13_againstAbove_4 : decode cX13_againstAbove 4 = .ok (.getfield 230, 3) := by decide +kernel
theorem dX13_againstAbove_7 : decode cX13_againstAbove 7 = .ok (.aload_n 0, 1) := by decide +kernel
theorem dX13_againstAbove_8 : decode cX13_againstAbove 8 = .ok (.getfield 84, 3) := by decide +kernel
theorem dX13_againstAbove_11 : decode cX13_againstAbove 11 = .ok (.iaload, 1) := by decide +kernel
theorem dX13_againstAbove_12 : decode cX13_againstAbove 12 = .ok (.if_icmp .ge 123, 3) := by decide +kernel
theorem dX13_againstAbove_15 : decode cX13_againstAbove 15 = .ok (.aload_n 0, 1) := by decide +kernel
theorem dX13_againstAbove_16 : decode cX13_againstAbove 16 = .ok (.getfield 129, 3) := by decide +kernel
theorem dX13_againstAbove_19 : decode cX13_againstAbove 19 = .ok (.ifCond .ne 116, 3) := by decide +kernel
theorem dX13_againstAbove_22 : decode cX13_againstAbove 22 = .ok (.aload_n 0, 1) := by decide +kernel
theorem dX13_againstAbove_23 : decode cX13_againstAbove 23 = .ok (.getfield 84, 3) := by decide +kernel
theorem dX13_againstAbove_26 : decode cX13_againstAbove 26 = .ok (.bipush 12, 2) := by decide +kernel
theorem dX13_againstAbove_28 : decode cX13_againstAbove 28 = .ok (.imul, 1) := by decide +kernel
theorem dX13_againstAbove_29 : decode cX13_againstAbove 29 = .ok (.iload_n 1, 1) := by decide +kernel
theorem dX13_againstAbove_30 : decode cX13_againstAbove 30 = .ok (.iadd, 1) := by decide +kernel
theorem dX13_againstAbove_31 : decode cX13_againstAbove 31 = .ok (.istore_n 2, 1) := by decide +kernel
theorem dX13_againstAbove_32 : decode cX13_againstAbove 32 = .ok (.iconst 0, 1) := by decide +kernel
theorem dX13_againstAbove_33 : decode cX13_againstAbove 33 = .ok (.istore_n 3, 1) := by decide +kernel
theorem dX13_againstAbove_34 : decode cX13_againstAbove 34 = .ok (.iload_n 3, 1) := by decide +kernel
theorem dX13_againstAbove_35 : decode cX13_againstAbove 35 = .ok (.aload_n 0, 1) := by decide +kernel
theorem dX13_againstAbove_36 : decode cX13_againstAbove 36 = .ok (.getfield 275, 3) := by decide +kernel
theorem dX13_againstAbove_39 : decode cX13_againstAbove 39 = .ok (.iload_n 2, 1) := by decide +kernel
theorem dX13_againstAbove_40 : decode cX13_againstAbove 40 = .ok (.iaload, 1) := by decide +kernel
theorem dX13_againstAbove_41 : decode cX13_againstAbove 41 = .ok (.if_icmp .ge 88, 3) := by decide +kernel
theorem dX13_againstAbove_44 : decode cX13_againstAbove 44 = .ok (.aload_n 0, 1) := by decide +kernel
theorem dX13_againstAbove_45 : decode cX13_againstAbove 45 = .ok (.getfield 129, 3) := by decide +kernel
theorem dX13_againstAbove_48 : decode cX13_againstAbove 48 = .ok (.ifCond .ne 81, 3) := by decide +kernel
theorem dX13_againstAbove_51 : decode cX13_againstAbove 51 = .ok (.iload_n 2, 1) := by decide +kernel
theorem dX13_againstAbove_52 : decode cX13_againstAbove 52 = .ok (.bipush 34, 2) := by decide +kernel
theorem dX13_againstAbove_54 : decode cX13_againstAbove 54 = .ok (.imul, 1) := by decide +kernel
theorem dX13_againstAbove_55 : decode cX13_againstAbove 55 = .ok (.iload_n 3, 1) := by decide +kernel
theorem dX13_againstAbove_56 : decode cX13_againstAbove 56 = .ok (.iadd, 1) := by decide +kernel
theorem dX13_againstAbove_57 : decode cX13_againstAbove 57 = .ok (.istore 4, 2) := by decide +kernel
theorem dX13_againstAbove_59 : decode cX13_againstAbove 59 = .ok (.aload_n 0, 1) := by decide +kernel
theorem dX13_againstAbove_60 : decode cX13_againstAbove 60 = .ok (.getfield 402, 3) := by decide +kernel
theorem dX13_againstAbove_63 : decode cX13_againstAbove 63 = .ok (.iload 4, 2) := by decide +kernel
theorem dX13_againstAbove_65 : decode cX13_againstAbove 65 = .ok (.iaload, 1) := by decide +kernel
theorem dX13_againstAbove_66 : decode cX13_againstAbove 66 = .ok (.iconst 1, 1) := by decide +kernel
theorem dX13_againstAbove_67 : decode cX13_againstAbove 67 = .ok (.if_icmp .ne 56, 3) := by decide +kernel
theorem dX13_againstAbove_70 : decode cX13_againstAbove 70 = .ok (.aload_n 0, 1) := by decide +kernel
theorem dX13_againstAbove_71 : decode cX13_againstAbove 71 = .ok (.iload 4, 2) := by decide +kernel
theorem dX13_againstAbove_73 : decode cX13_againstAbove 73 = .ok (.invokevirtual 684, 3) := by decide +kernel
theorem dX13_againstAbove_76 : decode cX13_againstAbove 76 = .ok (.iconst 0, 1) := by decide +kernel
theorem dX13_againstAbove_77 : decode cX13_againstAbove 77 = .ok (.istore 5, 2) := by decide +kernel
theorem dX13_againstAbove_79 : decode cX13_againstAbove 79 = .ok (.iload 5, 2) := by decide +kernel
theorem dX13_againstAbove_81 : decode cX13_againstAbove 81 = .ok (.aload_n 0, 1) := by decide +kernel
theorem dX13_againstAbove_82 : decode cX13_againstAbove 82 = .ok (.getfield 671, 3) := by decide +kernel
theorem dX13_againstAbove_85 : decode cX13_againstAbove 85 = .ok (.if_icmp .ge 38, 3) := by decide +kernel
theorem dX13_againstAbove_88 : decode cX13_againstAbove 88 = .ok (.aload_n 0, 1) := by decide +kernel
theorem dX13_againstAbove_89 : decode cX13_againstAbove 89 = .ok (.iload 4, 2) := by decide +kernel
theorem dX13_againstAbove_91 : decode cX13_againstAbove 91 = .ok (.aload_n 0, 1) := by decide +kernel
theorem dX13_againstAbove_92 : decode cX13_againstAbove 92 = .ok (.getfield 668, 3) := by decide +kernel
theorem dX13_againstAbove_95 : decode cX13_againstAbove 95 = .ok (.iload 5, 2) := by decide +kernel
theorem dX13_againstAbove_97 : decode cX13_againstAbove 97 = .ok (.iaload, 1) := by decide +kernel
theorem dX13_againstAbove_98 : decode cX13_againstAbove 98 = .ok (.invokevirtual 687, 3) := by decide +kernel
theorem dX13_againstAbove_101 : decode cX13_againstAbove 101 = .ok (.ifCond .eq 16, 3) := by decide +kernel
theorem dX13_againstAbove_104 : decode cX13_againstAbove 104 = .ok (.aload_n 0, 1) := by decide +kernel
theorem dX13_againstAbove_105 : decode cX13_againstAbove 105 = .ok (.bipush 9, 2) := by decide +kernel
theorem dX13_againstAbove_107 : decode cX13_againstAbove 107 = .ok (.aload_n 0, 1) := by decide +kernel
theorem dX13_againstAbove_108 : decode cX13_againstAbove 108 = .ok (.getfield 405, 3) := by decide +kernel
theorem dX13_againstAbove_111 : decode cX13_againstAbove 111 = .ok (.iload 4, 2) := by decide +kernel
theorem dX13_againstAbove_113 : decode cX13_againstAbove 113 = .ok (.iaload, 1) := by decide +kernel
theorem dX13_againstAbove_114 : decode cX13_againstAbove 114 = .ok (.invokevirtual 152, 3) := by decide +kernel
theorem dX13_againstAbove_117 : decode cX13_againstAbove 117 = .ok (.iinc 5 1, 3) := by decide +kernel
theorem dX13_againstAbove_120 : decode cX13_againstAbove 120 = .ok (.goto (-41), 3) := by decide +kernel
theorem dX13_againstAbove_123 : decode cX13_againstAbove 123 = .ok (.iinc 3 1, 3) := by decide +kernel
theorem dX13_againstAbove_126 : decode cX13_againstAbove 126 = .ok (.goto (-92), 3) := by decide +kernel
theorem dX13_againstAbove_129 : decode cX13_againstAbove 129 = .ok (.iinc 1 1, 3) := by decide +kernel
theorem dX13_againstAbove_132 : decode cX13_againstAbove 132 = .ok (.goto (-130), 3) := by decide +kernel
theorem dX13_againstAbove_135 : decode cX13_againstAbove 135 = .ok (.return_, 1) := by decide +kernel
theorem dX13_isAgainst_0 : decode cX13_isAgainst 0 = .ok (.aload_n 0, 1) := by decide +kernel
theorem dX13_isAgainst_1 : decode cX13_isAgainst 1 = .ok (.getfield 341, 3) := by decide +kernel
theorem dX13_isAgainst_4 : decode cX13_isAgainst 4 = .ok (.iload_n 1, 1) := by decide +kernel
theorem dX13_isAgainst_5 : decode cX13_isAgainst 5 = .ok (.baload, 1) := by decide +kernel
theorem dX13_isAgainst_6 : decode cX13_isAgainst 6 = .ok (.aload_n 0, 1) := by decide +kernel
theorem dX13_isAgainst_7 : decode cX13_isAgainst 7 = .ok (.getfield 341, 3) := by decide +kernel
theorem dX13_isAgainst_10 : decode cX13_isAgainst 10 = .ok (.iload_n 2, 1) := by decide +kernel
theorem dX13_isAgainst_11 : decode cX13_isAgainst 11 = .ok (.baload, 1) := by decide +kernel
theorem dX13_isAgainst_12 : decode cX13_isAgainst 12 = .ok (.if_icmp .eq 5, 3) := by decide +kernel
theorem dX13_isAgainst_15 : decode cX13_isAgainst 15 = .ok (.iconst 1, 1) := by decide +kernel
theorem dX13_isAgainst_16 : decode cX13_isAgainst 16 = .ok (.ireturn, 1) := by decide +kernel
theorem dX13_isAgainst_17 : decode cX13_isAgainst 17 = .ok (.aload_n 0, 1) := by decide +kernel
theorem dX13_isAgainst_18 : decode cX13_isAgainst 18 = .ok (.getfield 341, 3) := by decide +kernel
theorem dX13_isAgainst_21 : decode cX13_isAgainst 21 = .ok (.iload_n 1, 1) := by decide +kernel
theorem dX13_isAgainst_22 : decode cX13_isAgainst 22 = .ok (.baload, 1) := by decide +kernel
theorem dX13_isAgainst_23 : decode cX13_isAgainst 23 = .ok (.ifCond .ne 66, 3) := by decide +kernel
theorem dX13_isAgainst_26 : decode cX13_isAgainst 26 = .ok (.aload_n 0, 1) := by decide +kernel
theorem dX13_isAgainst_27 : decode cX13_isAgainst 27 = .ok (.getfield 344, 3) := by decide +kernel
theorem dX13_isAgainst_30 : decode cX13_isAgainst 30 = .ok (.iload_n 2, 1) := by decide +kernel
theorem dX13_isAgainst_31 : decode cX13_isAgainst 31 = .ok (.baload, 1) := by decide +kernel
theorem dX13_isAgainst_32 : decode cX13_isAgainst 32 = .ok (.ifCond .ne 53, 3) := by decide +kernel
theorem dX13_isAgainst_35 : decode cX13_isAgainst 35 = .ok (.aload_n 0, 1) := by decide +kernel
theorem dX13_isAgainst_36 : decode cX13_isAgainst 36 = .ok (.getfield 433, 3) := by decide +kernel
theorem dX13_isAgainst_39 : decode cX13_isAgainst 39 = .ok (.iload_n 2, 1) := by decide +kernel
theorem dX13_isAgainst_40 : decode cX13_isAgainst 40 = .ok (.iaload, 1) := by decide +kernel
theorem dX13_isAgainst_41 : decode cX13_isAgainst 41 = .ok (.aload_n 0, 1) := by decide +kernel
theorem dX13_isAgainst_42 : decode cX13_isAgainst 42 = .ok (.getfield 433, 3) := by decide +kernel
theorem dX13_isAgainst_45 : decode cX13_isAgainst 45 = .ok (.iload_n 1, 1) := by decide +kernel
theorem dX13_isAgainst_46 : decode cX13_isAgainst 46 = .ok (.iaload, 1) := by decide +kernel
theorem dX13_isAgainst_47 : decode cX13_isAgainst 47 = .ok (.if_icmp .gt 38, 3) := by decide +kernel
theorem dX13_isAgainst_50 : decode cX13_isAgainst 50 = .ok (.aload_n 0, 1) := by decide +kernel
theorem dX13_isAgainst_51 : decode cX13_isAgainst 51 = .ok (.getfield 359, 3) := by decide +kernel
theorem dX13_isAgainst_54 : decode cX13_isAgainst 54 = .ok (.iload_n 2, 1) := by decide +kernel
theorem dX13_isAgainst_55 : decode cX13_isAgainst 55 = .ok (.laload, 1) := by decide +kernel
theorem dX13_isAgainst_56 : decode cX13_isAgainst 56 = .ok (.aload_n 0, 1) := by decide +kernel
theorem dX13_isAgainst_57 : decode cX13_isAgainst 57 = .ok (.getfield 359, 3) := by decide +kernel
theorem dX13_isAgainst_60 : decode cX13_isAgainst 60 = .ok (.iload_n 1, 1) := by decide +kernel
theorem dX13_isAgainst_61 : decode cX13_isAgainst 61 = .ok (.laload, 1) := by decide +kernel
theorem dX13_isAgainst_62 : decode cX13_isAgainst 62 = .ok (.lcmp, 1) := by decide +kernel
theorem dX13_isAgainst_63 : decode cX13_isAgainst 63 = .ok (.ifCond .eq 26, 3) := by decide +kernel
theorem dX13_isAgainst_66 : decode cX13_isAgainst 66 = .ok (.aload_n 0, 1) := by decide +kernel
theorem dX13_isAgainst_67 : decode cX13_isAgainst 67 = .ok (.aload_n 0, 1) := by decide +kernel
theorem dX13_isAgainst_68 : decode cX13_isAgainst 68 = .ok (.getfield 359, 3) := by decide +kernel
theorem dX13_isAgainst_71 : decode cX13_isAgainst 71 = .ok (.iload_n 1, 1) := by decide +kernel
theorem dX13_isAgainst_72 : decode cX13_isAgainst 72 = .ok (.laload, 1) := by decide +kernel
theorem dX13_isAgainst_73 : decode cX13_isAgainst 73 = .ok (.aload_n 0, 1) := by decide +kernel
theorem dX13_isAgainst_74 : decode cX13_isAgainst 74 = .ok (.getfield 359, 3) := by decide +kernel
theorem dX13_isAgainst_77 : decode cX13_isAgainst 77 = .ok (.iload_n 2, 1) := by decide +kernel
theorem dX13_isAgainst_78 : decode cX13_isAgainst 78 = .ok (.laload, 1) := by decide +kernel
theorem dX13_isAgainst_79 : decode cX13_isAgainst 79 = .ok (.invokevirtual 690, 3) := by decide +kernel
theorem dX13_isAgainst_82 : decode cX13_isAgainst 82 = .ok (.ifCond .ne 7, 3) := by decide +kernel
theorem dX13_isAgainst_85 : decode cX13_isAgainst 85 = .ok (.iconst 1, 1) := by decide +kernel
theorem dX13_isAgainst_86 : decode cX13_isAgainst 86 = .ok (.goto 4, 3) := by decide +kernel
theorem dX13_isAgainst_89 : decode cX13_isAgainst 89 = .ok (.iconst 0, 1) := by decide +kernel
theorem dX13_isAgainst_90 : decode cX13_isAgainst 90 = .ok (.ireturn, 1) := by decide +kernel
theorem dX13_makersAndBridges_0 : decode cX13_makersAndBridges 0 = .ok (.iconst 0, 1) := by decide +kernel
theorem dX13_makersAndBridges_1 : decode cX13_makersAndBridges 1 = .ok (.istore_n 1, 1) := by decide +kernel
theorem dX13_makersAndBridges_2 : decode cX13_makersAndBridges 2 = .ok (.iload_n 1, 1) := by decide +kernel
theorem dX13_makersAndBridges_3 : decode cX13_makersAndBridges 3 = .ok (.aload_n 0, 1) := by decide +kernel
theorem dX13_makersAndBridges_4 : decode cX13_makersAndBridges 4 = .ok (.getfield 230, 3) := by decide +kernel
theorem dX13_makersAndBridges_7 : decode cX13_makersAndBridges 7 = .ok (.aload_n 0, 1) := by decide +kernel
theorem dX13_makersAndBridges_8 : decode cX13_makersAndBridges 8 = .ok (.getfield 84, 3) := by decide +kernel
theorem dX13_makersAndBridges_11 : decode cX13_makersAndBridges 11 = .ok (.iaload, 1) := by decide +kernel
theorem dX13_makersAndBridges_12 : decode cX13_makersAndBridges 12 = .ok (.if_icmp .ge 170, 3) := by decide +kernel
theorem dX13_makersAndBridges_15 : decode cX13_makersAndBridges 15 = .ok (.aload_n 0, 1) := by decide +kernel
theorem dX13_makersAndBridges_16 : decode cX13_makersAndBridges 16 = .ok (.getfield 84, 3) := by decide +kernel
theorem dX13_makersAndBridges_19 : decode cX13_makersAndBridges 19 = .ok (.bipush 12, 2) := by decide +kernel
theorem dX13_makersAndBridges_21 : decode cX13_makersAndBridges 21 = .ok (.imul, 1) := by decide +kernel
theorem dX13_makersAndBridges_22 : decode cX13_makersAndBridges 22 = .ok (.iload_n 1, 1) := by decide +kernel
theorem dX13_makersAndBridges_23 : decode cX13_makersAndBridges 23 = .ok (.iadd, 1) := by decide +kernel
theorem dX13_makersAndBridges_24 : decode cX13_makersAndBridges 24 = .ok (.istore_n 2, 1) := by decide +kernel
theorem dX13_makersAndBridges_25 : decode cX13_makersAndBridges 25 = .ok (.aload_n 0, 1) := by decide +kernel
theorem dX13_makersAndBridges_26 : decode cX13_makersAndBridges 26 = .ok (.iload_n 2, 1) := by decide +kernel
theorem dX13_makersAndBridges_27 : decode cX13_makersAndBridges 27 = .ok (.invokevirtual 548, 3) := by decide +kernel
theorem dX13_makersAndBridges_30 : decode cX13_makersAndBridges 30 = .ok (.istore_n 3, 1) := by decide +kernel
theorem dX13_makersAndBridges_31 : decode cX13_makersAndBridges 31 = .ok (.iconst 0, 1) := by decide +kernel
theorem dX13_makersAndBridges_32 : decode cX13_makersAndBridges 32 = .ok (.istore 4, 2) := by decide +kernel
theorem dX13_makersAndBridges_34 : decode cX13_makersAndBridges 34 = .ok (.iload 4, 2) := by decide +kernel
theorem dX13_makersAndBridges_36 : decode cX13_makersAndBridges 36 = .ok (.aload_n 0, 1) := by decide +kernel
theorem dX13_makersAndBridges_37 : decode cX13_makersAndBridges 37 = .ok (.getfield 275, 3) := by decide +kernel
theorem dX13_makersAndBridges_40 : decode cX13_makersAndBridges 40 = .ok (.iload_n 2, 1) := by decide +kernel
theorem dX13_makersAndBridges_41 : decode cX13_makersAndBridges 41 = .ok (.iaload, 1) := by decide +kernel
theorem dX13_makersAndBridges_42 : decode cX13_makersAndBridges 42 = .ok (.if_icmp .ge 35, 3) := by decide +kernel
theorem dX13_makersAndBridges_45 : decode cX13_makersAndBridges 45 = .ok (.iload_n 3, 1) := by decide +kernel
theorem dX13_makersAndBridges_46 : decode cX13_makersAndBridges 46 = .ok (.ifCond .ne 19, 3) := by decide +kernel
theorem dX13_makersAndBridges_49 : decode cX13_makersAndBridges 49 = .ok (.aload_n 0, 1) := by decide +kernel
theorem dX13_makersAndBridges_50 : decode cX13_makersAndBridges 50 = .ok (.getfield 402, 3) := by decide +kernel
theorem dX13_makersAndBridges_53 : decode cX13_makersAndBridges 53 = .ok (.iload_n 2, 1) := by decide +kernel
theorem dX13_makersAndBridges_54 : decode cX13_makersAndBridges 54 = .ok (.bipush 34, 2) := by decide +kernel
theorem dX13_makersAndBridges_56 : decode cX13_makersAndBridges 56 = .ok (.imul, 1) := by decide +kernel
theorem dX13_makersAndBridges_57 : decode cX13_makersAndBridges 57 = .ok (.iload 4, 2) := by decide +kernel
theorem dX13_makersAndBridges_59 : decode cX13_makersAndBridges 59 = .ok (.iadd, 1) := by decide +kernel
theorem dX13_makersAndBridges_60 : decode cX13_makersAndBridges 60 = .ok (.iaload, 1) := by decide +kernel
theorem dX13_makersAndBridges_61 : decode cX13_makersAndBridges 61 = .ok (.iconst 2, 1) := by decide +kernel
theorem dX13_makersAndBridges_62 : decode cX13_makersAndBridges 62 = .ok (.if_icmp .ne 7, 3) := by decide +kernel
theorem dX13_makersAndBridges_65 : decode cX13_makersAndBridges 65 = .ok (.iconst 1, 1) := by decide +kernel
theorem dX13_makersAndBridges_66 : decode cX13_makersAndBridges 66 = .ok (.goto 4, 3) := by decide +kernel
theorem dX13_makersAndBridges_69 : decode cX13_makersAndBridges 69 = .ok (.iconst 0, 1) := by decide +kernel
theorem dX13_makersAndBridges_70 : decode cX13_makersAndBridges 70 = .ok (.istore_n 3, 1) := by decide +kernel
theorem dX13_makersAndBridges_71 : decode cX13_makersAndBridges 71 = .ok (.iinc 4 1, 3) := by decide +kernel
theorem dX13_makersAndBridges_74 : decode cX13_makersAndBridges 74 = .ok (.goto (-40), 3) := by decide +kernel
theorem dX13_makersAndBridges_77 : decode cX13_makersAndBridges 77 = .ok (.iload_n 3, 1) := by decide +kernel
theorem dX13_makersAndBridges_78 : decode cX13_makersAndBridges 78 = .ok (.ifCond .ne 98, 3) := by decide +kernel
theorem dX13_makersAndBridges_81 : decode cX13_makersAndBridges 81 = .ok (.iload_n 2, 1) := by decide +kernel
theorem dX13_makersAndBridges_82 : decode cX13_makersAndBridges 82 = .ok (.bipush 34, 2) := by decide +kernel
theorem dX13_makersAndBridges_84 : decode cX13_makersAndBridges 84 = .ok (.imul, 1) := by decide +kernel
theorem dX13_makersAndBridges_85 : decode cX13_makersAndBridges 85 = .ok (.aload_n 0, 1) := by decide +kernel
theorem dX13_makersAndBridges_86 : decode cX13_makersAndBridges 86 = .ok (.getfield 275, 3) := by decide +kernel
theorem dX13_makersAndBridges_89 : decode cX13_makersAndBridges 89 = .ok (.iload_n 2, 1) := by decide +kernel
theorem dX13_makersAndBridges_90 : decode cX13_makersAndBridges 90 = .ok (.iaload, 1) := by decide +kernel
theorem dX13_makersAndBridges_91 : decode cX13_makersAndBridges 91 = .ok (.iadd, 1) := by decide +kernel
theorem dX13_makersAndBridges_92 : decode cX13_makersAndBridges 92 = .ok (.istore 4, 2) := by decide +kernel
theorem dX13_makersAndBridges_94 : decode cX13_makersAndBridges 94 = .ok (.aload_n 0, 1) := by decide +kernel
theorem dX13_makersAndBridges_95 : decode cX13_makersAndBridges 95 = .ok (.iload 4, 2) := by decide +kernel
theorem dX13_makersAndBridges_97 : decode cX13_makersAndBridges 97 = .ok (.invokevirtual 396, 3) := by decide +kernel
theorem dX13_makersAndBridges_100 : decode cX13_makersAndBridges 100 = .ok (.aload_n 0, 1) := by decide +kernel
theorem dX13_makersAndBridges_101 : decode cX13_makersAndBridges 101 = .ok (.getfield 402, 3) := by decide +kernel
theorem dX13_makersAndBridges_104 : decode cX13_makersAndBridges 104 = .ok (.iload 4, 2) := by decide +kernel
theorem dX13_makersAndBridges_106 : decode cX13_makersAndBridges 106 = .ok (.iconst 2, 1) := by decide +kernel
theorem dX13_makersAndBridges_107 : decode cX13_makersAndBridges 107 = .ok (.iastore, 1) := by decide +kernel
theorem dX13_makersAndBridges_108 : decode cX13_makersAndBridges 108 = .ok (.aload_n 0, 1) := by decide +kernel
theorem dX13_makersAndBridges_109 : decode cX13_makersAndBridges 109 = .ok (.getfield 399, 3) := by decide +kernel
theorem dX13_makersAndBridges_112 : decode cX13_makersAndBridges 112 = .ok (.iload 4, 2) := by decide +kernel
theorem dX13_makersAndBridges_114 : decode cX13_makersAndBridges 114 = .ok (.iconst 0, 1) := by decide +kernel
theorem dX13_makersAndBridges_115 : decode cX13_makersAndBridges 115 = .ok (.iastore, 1) := by decide +kernel
theorem dX13_makersAndBridges_116 : decode cX13_makersAndBridges 116 = .ok (.aload_n 0, 1) := by decide +kernel
theorem dX13_makersAndBridges_117 : decode cX13_makersAndBridges 117 = .ok (.getfield 433, 3) := by decide +kernel
theorem dX13_makersAndBridges_120 : decode cX13_makersAndBridges 120 = .ok (.iload 4, 2) := by decide +kernel
theorem dX13_makersAndBridges_122 : decode cX13_makersAndBridges 122 = .ok (.aload_n 0, 1) := by decide +kernel
theorem dX13_makersAndBridges_123 : decode cX13_makersAndBridges 123 = .ok (.getfield 262, 3) := by decide +kernel
theorem dX13_makersAndBridges_126 : decode cX13_makersAndBridges 126 = .ok (.iload_n 2, 1) := by decide +kernel
theorem dX13_makersAndBridges_127 : decode cX13_makersAndBridges 127 = .ok (.baload, 1) := by decide +kernel
theorem dX13_makersAndBridges_128 : decode cX13_makersAndBridges 128 = .ok (.ifCond .eq 7, 3) := by decide +kernel
theorem dX13_makersAndBridges_131 : decode cX13_makersAndBridges 131 = .ok (.iconst 3, 1) := by decide +kernel
theorem dX13_makersAndBridges_132 : decode cX13_makersAndBridges 132 = .ok (.goto 4, 3) := by decide +kernel
theorem dX13_makersAndBridges_135 : decode cX13_makersAndBridges 135 = .ok (.iconst 1, 1) := by decide +kernel
theorem dX13_makersAndBridges_136 : decode cX13_makersAndBridges 136 = .ok (.iastore, 1) := by decide +kernel
theorem dX13_makersAndBridges_137 : decode cX13_makersAndBridges 137 = .ok (.aload_n 0, 1) := by decide +kernel
theorem dX13_makersAndBridges_138 : decode cX13_makersAndBridges 138 = .ok (.getfield 436, 3) := by decide +kernel
theorem dX13_makersAndBridges_141 : decode cX13_makersAndBridges 141 = .ok (.iload 4, 2) := by decide +kernel
theorem dX13_makersAndBridges_143 : decode cX13_makersAndBridges 143 = .ok (.iconst 0, 1) := by decide +kernel
theorem dX13_makersAndBridges_144 : decode cX13_makersAndBridges 144 = .ok (.bastore, 1) := by decide +kernel
theorem dX13_makersAndBridges_145 : decode cX13_makersAndBridges 145 = .ok (.aload_n 0, 1) := by decide +kernel
theorem dX13_makersAndBridges_146 : decode cX13_makersAndBridges 146 = .ok (.getfield 353, 3) := by decide +kernel
theorem dX13_makersAndBridges_149 : decode cX13_makersAndBridges 149 = .ok (.iload 4, 2) := by decide +kernel
theorem dX13_makersAndBridges_151 : decode cX13_makersAndBridges 151 = .ok (.iconst 1, 1) := by decide +kernel
theorem dX13_makersAndBridges_152 : decode cX13_makersAndBridges 152 = .ok (.bastore, 1) := by decide +kernel
theorem dX13_makersAndBridges_153 : decode cX13_makersAndBridges 153 = .ok (.aload_n 0, 1) := by decide +kernel
theorem dX13_makersAndBridges_154 : decode cX13_makersAndBridges 154 = .ok (.getfield 405, 3) := by decide +kernel
theorem dX13_makersAndBridges_157 : decode cX13_makersAndBridges 157 = .ok (.iload 4, 2) := by decide +kernel
theorem dX13_makersAndBridges_159 : decode cX13_makersAndBridges 159 = .ok (.aload_n 0, 1) := by decide +kernel
theorem dX13_makersAndBridges_160 : decode cX13_makersAndBridges 160 = .ok (.getfield 259, 3) := by decide +kernel
theorem dX13_makersAndBridges_163 : decode cX13_makersAndBridges 163 = .ok (.iload_n 2, 1) := by decide +kernel
theorem dX13_makersAndBridges_164 : decode cX13_makersAndBridges 164 = .ok (.iaload, 1) := by decide +kernel
theorem dX13_makersAndBridges_165 : decode cX13_makersAndBridges 165 = .ok (.iastore, 1) := by decide +kernel
theorem dX13_makersAndBridges_166 : decode cX13_makersAndBridges 166 = .ok (.aload_n 0, 1) := by decide +kernel
theorem dX13_makersAndBridges_167 : decode cX13_makersAndBridges 167 = .ok (.getfield 275, 3) := by decide +kernel
theorem dX13_makersAndBridges_170 : decode cX13_makersAndBridges 170 = .ok (.iload_n 2, 1) := by decide +kernel
theorem dX13_makersAndBridges_171 : decode cX13_makersAndBridges 171 = .ok (.dup2, 1) := by decide +kernel
theorem dX13_makersAndBridges_172 : decode cX13_makersAndBridges 172 = .ok (.iaload, 1) := by decide +kernel
theorem dX13_makersAndBridges_173 : decode cX13_makersAndBridges 173 = .ok (.iconst 1, 1) := by decide +kernel
theorem dX13_makersAndBridges_174 : decode cX13_makersAndBridges 174 = .ok (.iadd, 1) := by decide +kernel
theorem dX13_makersAndBridges_175 : decode cX13_makersAndBridges 175 = .ok (.iastore, 1) := by decide +kernel
theorem dX13_makersAndBridges_176 : decode cX13_makersAndBridges 176 = .ok (.iinc 1 1, 3) := by decide +kernel
theorem dX13_makersAndBridges_179 : decode cX13_makersAndBridges 179 = .ok (.goto (-177), 3) := by decide +kernel
theorem dX13_makersAndBridges_182 : decode cX13_makersAndBridges 182 = .ok (.iconst 0, 1) := by decide +kernel
theorem dX13_makersAndBridges_183 : decode cX13_makersAndBridges 183 = .ok (.istore_n 1, 1) := by decide +kernel
theorem dX13_makersAndBridges_184 : decode cX13_makersAndBridges 184 = .ok (.iload_n 1, 1) := by decide +kernel
theorem dX13_makersAndBridges_185 : decode cX13_makersAndBridges 185 = .ok (.aload_n 0, 1) := by decide +kernel
theorem dX13_makersAndBridges_186 : decode cX13_makersAndBridges 186 = .ok (.getfield 230, 3) := by decide +kernel
theorem dX13_makersAndBridges_189 : decode cX13_makersAndBridges 189 = .ok (.aload_n 0, 1) := by decide +kernel
theorem dX13_makersAndBridges_190 : decode cX13_makersAndBridges 190 = .ok (.getfield 84, 3) := by decide +kernel
theorem dX13_makersAndBridges_193 : decode cX13_makersAndBridges 193 = .ok (.iaload, 1) := by decide +kernel
theorem dX13_makersAndBridges_194 : decode cX13_makersAndBridges 194 = .ok (.if_icmp .ge 29, 3) := by decide +kernel
theorem dX13_makersAndBridges_197 : decode cX13_makersAndBridges 197 = .ok (.aload_n 0, 1) := by decide +kernel
theorem dX13_makersAndBridges_198 : decode cX13_makersAndBridges 198 = .ok (.getfield 129, 3) := by decide +kernel
theorem dX13_makersAndBridges_201 : decode cX13_makersAndBridges 201 = .ok (.ifCond .ne 22, 3) := by decide +kernel
theorem dX13_makersAndBridges_204 : decode cX13_makersAndBridges 204 = .ok (.aload_n 0, 1) := by decide +kernel
theorem dX13_makersAndBridges_205 : decode cX13_makersAndBridges 205 = .ok (.aload_n 0, 1) := by decide +kernel
theorem dX13_makersAndBridges_206 : decode cX13_makersAndBridges 206 = .ok (.getfield 84, 3) := by decide +kernel
theorem dX13_makersAndBridges_209 : decode cX13_makersAndBridges 209 = .ok (.bipush 12, 2) := by decide +kernel
theorem dX13_makersAndBridges_211 : decode cX13_makersAndBridges 211 = .ok (.imul, 1) := by decide +kernel
theorem dX13_makersAndBridges_212 : decode cX13_makersAndBridges 212 = .ok (.iload_n 1, 1) := by decide +kernel
theorem dX13_makersAndBridges_213 : decode cX13_makersAndBridges 213 = .ok (.iadd, 1) := by decide +kernel
theorem dX13_makersAndBridges_214 : decode cX13_makersAndBridges 214 = .ok (.invokevirtual 694, 3) := by decide +kernel
theorem dX13_makersAndBridges_217 : decode cX13_makersAndBridges 217 = .ok (.iinc 1 1, 3) := by decide +kernel
theorem dX13_makersAndBridges_220 : decode cX13_makersAndBridges 220 = .ok (.goto (-36), 3) := by decide +kernel
theorem dX13_makersAndBridges_223 : decode cX13_makersAndBridges 223 = .ok (.return_, 1) := by decide +kernel
theorem dX13_bridges_0 : decode cX13_bridges 0 = .ok (.aload_n 0, 1) := by decide +kernel
theorem dX13_bridges_1 : decode cX13_bridges 1 = .ok (.getfield 275, 3) := by decide +kernel
theorem dX13_bridges_4 : decode cX13_bridges 4 = .ok (.iload_n 1, 1) := by decide +kernel
theorem dX13_bridges_5 : decode cX13_bridges 5 = .ok (.iaload, 1) := by decide +kernel
theorem dX13_bridges_6 : decode cX13_bridges 6 = .ok (.istore_n 2, 1) := by decide +kernel
theorem dX13_bridges_7 : decode cX13_bridges 7 = .ok (.iconst 0, 1) := by decide +kernel
theorem dX13_bridges_8 : decode cX13_bridges 8 = .ok (.istore_n 3, 1) := by decide +kernel
theorem dX13_bridges_9 : decode cX13_bridges 9 = .ok (.iconst 0, 1) := by decide +kernel
theorem dX13_bridges_10 : decode cX13_bridges 10 = .ok (.istore 4, 2) := by decide +kernel
theorem dX13_bridges_12 : decode cX13_bridges 12 = .ok (.iload 4, 2) := by decide +kernel
theorem dX13_bridges_14 : decode cX13_bridges 14 = .ok (.iload_n 2, 1) := by decide +kernel
theorem dX13_bridges_15 : decode cX13_bridges 15 = .ok (.if_icmp .ge 189, 3) := by decide +kernel
theorem dX13_bridges_18 : decode cX13_bridges 18 = .ok (.aload_n 0, 1) := by decide +kernel
theorem dX13_bridges_19 : decode cX13_bridges 19 = .ok (.getfield 129, 3) := by decide +kernel
theorem dX13_bridges_22 : decode cX13_bridges 22 = .ok (.ifCond .ne 182, 3) := by decide +kernel
theorem dX13_bridges_25 : decode cX13_bridges 25 = .ok (.iload_n 1, 1) := by decide +kernel
theorem dX13_bridges_26 : decode cX13_bridges 26 = .ok (.bipush 34, 2) := by decide +kernel
theorem dX13_bridges_28 : decode cX13_bridges 28 = .ok (.imul, 1) := by decide +kernel
theorem dX13_bridges_29 : decode cX13_bridges 29 = .ok (.iload 4, 2) := by decide +kernel
theorem dX13_bridges_31 : decode cX13_bridges 31 = .ok (.iadd, 1) := by decide +kernel
theorem dX13_bridges_32 : decode cX13_bridges 32 = .ok (.istore 5, 2) := by decide +kernel
theorem dX13_bridges_34 : decode cX13_bridges 34 = .ok (.aload_n 0, 1) := by decide +kernel
theorem dX13_bridges_35 : decode cX13_bridges 35 = .ok (.getfield 402, 3) := by decide +kernel
theorem dX13_bridges_38 : decode cX13_bridges 38 = .ok (.iload 5, 2) := by decide +kernel
theorem dX13_bridges_40 : decode cX13_bridges 40 = .ok (.iaload, 1) := by decide +kernel
theorem dX13_bridges_41 : decode cX13_bridges 41 = .ok (.iconst 1, 1) := by decide +kernel
theorem dX13_bridges_42 : decode cX13_bridges 42 = .ok (.if_icmp .ne 156, 3) := by decide +kernel
theorem dX13_bridges_45 : decode cX13_bridges 45 = .ok (.aload_n 0, 1) := by decide +kernel
theorem dX13_bridges_46 : decode cX13_bridges 46 = .ok (.iload 5, 2) := by decide +kernel
theorem dX13_bridges_48 : decode cX13_bridges 48 = .ok (.invokevirtual 624, 3) := by decide +kernel
theorem dX13_bridges_51 : decode cX13_bridges 51 = .ok (.ifCond .eq 147, 3) := by decide +kernel
theorem dX13_bridges_54 : decode cX13_bridges 54 = .ok (.aload_n 0, 1) := by decide +kernel
theorem dX13_bridges_55 : decode cX13_bridges 55 = .ok (.getfield 436, 3) := by decide +kernel
theorem dX13_bridges_58 : decode cX13_bridges 58 = .ok (.iload 5, 2) := by decide +kernel
theorem dX13_bridges_60 : decode cX13_bridges 60 = .ok (.baload, 1) := by decide +kernel
theorem dX13_bridges_61 : decode cX13_bridges 61 = .ok (.ifCond .ne 137, 3) := by decide +kernel
theorem dX13_bridges_64 : decode cX13_bridges 64 = .ok (.aload_n 0, 1) := by decide +kernel
theorem dX13_bridges_65 : decode cX13_bridges 65 = .ok (.iload 5, 2) := by decide +kernel
theorem dX13_bridges_67 : decode cX13_bridges 67 = .ok (.invokevirtual 684, 3) := by decide +kernel
theorem dX13_bridges_70 : decode cX13_bridges 70 = .ok (.iconst 0, 1) := by decide +kernel
theorem dX13_bridges_71 : decode cX13_bridges 71 = .ok (.istore 6, 2) := by decide +kernel
theorem dX13_bridges_73 : decode cX13_bridges 73 = .ok (.iload 6, 2) := by decide +kernel
theorem dX13_bridges_75 : decode cX13_bridges 75 = .ok (.aload_n 0, 1) := by decide +kernel
theorem dX13_bridges_76 : decode cX13_bridges 76 = .ok (.getfield 671, 3) := by decide +kernel
theorem dX13_bridges_79 : decode cX13_bridges 79 = .ok (.if_icmp .ge 119, 3) := by decide +kernel
theorem dX13_bridges_82 : decode cX13_bridges 82 = .ok (.aload_n 0, 1) := by decide +kernel
theorem dX13_bridges_83 : decode cX13_bridges 83 = .ok (.getfield 129, 3) := by decide +kernel
theorem dX13_bridges_86 : decode cX13_bridges 86 = .ok (.ifCond .ne 112, 3) := by decide +kernel
theorem dX13_bridges_89 : decode cX13_bridges 89 = .ok (.aload_n 0, 1) := by decide +kernel
theorem dX13_bridges_90 : decode cX13_bridges 90 = .ok (.getfield 668, 3) := by decide +kernel
theorem dX13_bridges_93 : decode cX13_bridges 93 = .ok (.iload 6, 2) := by decide +kernel
theorem dX13_bridges_95 : decode cX13_bridges 95 = .ok (.iaload, 1) := by decide +kernel
theorem dX13_bridges_96 : decode cX13_bridges 96 = .ok (.istore 7, 2) := by decide +kernel
theorem dX13_bridges_98 : decode cX13_bridges 98 = .ok (.aload_n 0, 1) := by decide +kernel
theorem dX13_bridges_99 : decode cX13_bridges 99 = .ok (.getfield 341, 3) := by decide +kernel
theorem dX13_bridges_102 : decode cX13_bridges 102 = .ok (.iload 7, 2) := by decide +kernel
theorem dX13_bridges_104 : decode cX13_bridges 104 = .ok (.baload, 1) := by decide +kernel
theorem dX13_bridges_105 : decode cX13_bridges 105 = .ok (.ifCond .ne 36, 3) := by decide +kernel
theorem dX13_bridges_108 : decode cX13_bridges 108 = .ok (.aload_n 0, 1) := by decide +kernel
theorem dX13_bridges_109 : decode cX13_bridges 109 = .ok (.getfield 359, 3) := by decide +kernel
theorem dX13_bridges_112 : decode cX13_bridges 112 = .ok (.iload 7, 2) := by decide +kernel
theorem dX13_bridges_114 : decode cX13_bridges 114 = .ok (.laload, 1) := by decide +kernel
theorem dX13_bridges_115 : decode cX13_bridges 115 = .ok (.aload_n 0, 1) := by decide +kernel
theorem dX13_bridges_116 : decode cX13_bridges 116 = .ok (.getfield 359, 3) := by decide +kernel
theorem dX13_bridges_119 : decode cX13_bridges 119 = .ok (.iload 5, 2) := by decide +kernel
theorem dX13_bridges_121 : decode cX13_bridges 121 = .ok (.laload, 1) := by decide +kernel
theorem dX13_bridges_122 : decode cX13_bridges 122 = .ok (.lcmp, 1) := by decide +kernel
theorem dX13_bridges_123 : decode cX13_bridges 123 = .ok (.ifCond .eq 18, 3) := by decide +kernel
theorem dX13_bridges_126 : decode cX13_bridges 126 = .ok (.aload_n 0, 1) := by decide +kernel
theorem dX13_bridges_127 : decode cX13_bridges 127 = .ok (.iload_n 1, 1) := by decide +kernel
theorem dX13_bridges_128 : decode cX13_bridges 128 = .ok (.iload_n 2, 1) := by decide +kernel
theorem dX13_bridges_129 : decode cX13_bridges 129 = .ok (.iload 7, 2) := by decide +kernel
theorem dX13_bridges_131 : decode cX13_bridges 131 = .ok (.invokevirtual 697, 3) := by decide +kernel
theorem dX13_bridges_134 : decode cX13_bridges 134 = .ok (.ifCond .ne 7, 3) := by decide +kernel
theorem dX13_bridges_137 : decode cX13_bridges 137 = .ok (.iconst 1, 1) := by decide +kernel
theorem dX13_bridges_138 : decode cX13_bridges 138 = .ok (.goto 4, 3) := by decide +kernel
theorem dX13_bridges_141 : decode cX13_bridges 141 = .ok (.iconst 0, 1) := by decide +kernel
theorem dX13_bridges_142 : decode cX13_bridges 142 = .ok (.istore 8, 2) := by decide +kernel
theorem dX13_bridges_144 : decode cX13_bridges 144 = .ok (.iload 8, 2) := by decide +kernel
theorem dX13_bridges_146 : decode cX13_bridges 146 = .ok (.ifCond .eq 23, 3) := by decide +kernel
theorem dX13_bridges_149 : decode cX13_bridges 149 = .ok (.iload_n 3, 1) := by decide +kernel
theorem dX13_bridges_150 : decode cX13_bridges 150 = .ok (.bipush 12, 2) := by decide +kernel
theorem dX13_bridges_152 : decode cX13_bridges 152 = .ok (.if_icmp .ne 17, 3) := by decide +kernel
theorem dX13_bridges_155 : decode cX13_bridges 155 = .ok (.aload_n 0, 1) := by decide +kernel
theorem dX13_bridges_156 : decode cX13_bridges 156 = .ok (.iconst 3, 1) := by decide +kernel
theorem dX13_bridges_157 : decode cX13_bridges 157 = .ok (.aload_n 0, 1) := by decide +kernel
theorem dX13_bridges_158 : decode cX13_bridges 158 = .ok (.getfield 259, 3) := by decide +kernel
theorem dX13_bridges_161 : decode cX13_bridges 161 = .ok (.iload_n 1, 1) := by decide +kernel
theorem dX13_bridges_162 : decode cX13_bridges 162 = .ok (.iaload, 1) := by decide +kernel
theorem dX13_bridges_163 : decode cX13_bridges 163 = .ok (.invokevirtual 152, 3) := by decide +kernel
theorem dX13_bridges_166 : decode cX13_bridges 166 = .ok (.goto 26, 3) := by decide +kernel
theorem dX13_bridges_169 : decode cX13_bridges 169 = .ok (.iload 8, 2) := by decide +kernel
theorem dX13_bridges_171 : decode cX13_bridges 171 = .ok (.ifCond .eq 21, 3) := by decide +kernel
theorem dX13_bridges_174 : decode cX13_bridges 174 = .ok (.aload_n 0, 1) := by decide +kernel
theorem dX13_bridges_175 : decode cX13_bridges 175 = .ok (.iload_n 1, 1) := by decide +kernel
theorem dX13_bridges_176 : decode cX13_bridges 176 = .ok (.iload 5, 2) := by decide +kernel
theorem dX13_bridges_178 : decode cX13_bridges 178 = .ok (.aload_n 0, 1) := by decide +kernel
theorem dX13_bridges_179 : decode cX13_bridges 179 = .ok (.getfield 359, 3) := by decide +kernel
theorem dX13_bridges_182 : decode cX13_bridges 182 = .ok (.iload 7, 2) := by decide +kernel
theorem dX13_bridges_184 : decode cX13_bridges 184 = .ok (.laload, 1) := by decide +kernel
theorem dX13_bridges_185 : decode cX13_bridges 185 = .ok (.invokevirtual 701, 3) := by decide +kernel
theorem dX13_bridges_188 : decode cX13_bridges 188 = .ok (.pop, 1) := by decide +kernel
theorem dX13_bridges_189 : decode cX13_bridges 189 = .ok (.iinc 3 1, 3) := by decide +kernel
theorem dX13_bridges_192 : decode cX13_bridges 192 = .ok (.iinc 6 1, 3) := by decide +kernel
theorem dX13_bridges_195 : decode cX13_bridges 195 = .ok (.goto (-122), 3) := by decide +kernel
theorem dX13_bridges_198 : decode cX13_bridges 198 = .ok (.iinc 4 1, 3) := by decide +kernel
theorem dX13_bridges_201 : decode cX13_bridges 201 = .ok (.goto (-189), 3) := by decide +kernel
theorem dX13_bridges_204 : decode cX13_bridges 204 = .ok (.return_, 1) := by decide +kernel
theorem dX13_hasBridge_0 : decode cX13_hasBridge 0 = .ok (.iconst 0, 1) := by decide +kernel
theorem dX13_hasBridge_1 : decode cX13_hasBridge 1 = .ok (.istore 4, 2) := by decide +kernel
theorem dX13_hasBridge_3 : decode cX13_hasBridge 3 = .ok (.iload_n 2, 1) := by decide +kernel
theorem dX13_hasBridge_4 : decode cX13_hasBridge 4 = .ok (.istore 5, 2) := by decide +kernel
theorem dX13_hasBridge_6 : decode cX13_hasBridge 6 = .ok (.iload 5, 2) := by decide +kernel
theorem dX13_hasBridge_8 : decode cX13_hasBridge 8 = .ok (.aload_n 0, 1) := by decide +kernel
theorem dX13_hasBridge_9 : decode cX13_hasBridge 9 = .ok (.getfield 275, 3) := by decide +kernel
theorem dX13_hasBridge_12 : decode cX13_hasBridge 12 = .ok (.iload_n 1, 1) := by decide +kernel
theorem dX13_hasBridge_13 : decode cX13_hasBridge 13 = .ok (.iaload, 1) := by decide +kernel
theorem dX13_hasBridge_14 : decode cX13_hasBridge 14 = .ok (.if_icmp .ge 36, 3) := by decide +kernel
theorem dX13_hasBridge_17 : decode cX13_hasBridge 17 = .ok (.iload 4, 2) := by decide +kernel
theorem dX13_hasBridge_19 : decode cX13_hasBridge 19 = .ok (.ifCond .ne 18, 3) := by decide +kernel
theorem dX13_hasBridge_22 : decode cX13_hasBridge 22 = .ok (.aload_n 0, 1) := by decide +kernel
theorem dX13_hasBridge_23 : decode cX13_hasBridge 23 = .ok (.iload_n 1, 1) := by decide +kernel
theorem dX13_hasBridge_24 : decode cX13_hasBridge 24 = .ok (.bipush 34, 2) := by decide +kernel
theorem dX13_hasBridge_26 : decode cX13_hasBridge 26 = .ok (.imul, 1) := by decide +kernel
theorem dX13_hasBridge_27 : decode cX13_hasBridge 27 = .ok (.iload 5, 2) := by decide +kernel
theorem dX13_hasBridge_29 : decode cX13_hasBridge 29 = .ok (.iadd, 1) := by decide +kernel
theorem dX13_hasBridge_30 : decode cX13_hasBridge 30 = .ok (.iload_n 3, 1) := by decide +kernel
