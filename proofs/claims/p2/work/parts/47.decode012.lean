theorem dX11_isLet_45 : decode cX11_isLet 45 = .ok (.ireturn, 1) := by decide +kernel
theorem dX11_isLet__0 : decode cX11_isLet_ 0 = .ok (.aload_n 1, 1) := by decide +kernel
theorem dX11_isLet__1 : decode cX11_isLet_ 1 = .ok (.getfield 109, 3) := by decide +kernel
theorem dX11_isLet__4 : decode cX11_isLet_ 4 = .ok (.iconst 3, 1) := by decide +kernel
theorem dX11_isLet__5 : decode cX11_isLet_ 5 = .ok (.if_icmp .ne 5, 3) := by decide +kernel
theorem dX11_isLet__8 : decode cX11_isLet_ 8 = .ok (.iconst 1, 1) := by decide +kernel
theorem dX11_isLet__9 : decode cX11_isLet_ 9 = .ok (.ireturn, 1) := by decide +kernel
theorem dX11_isLet__10 : decode cX11_isLet_ 10 = .ok (.aload_n 1, 1) := by decide +kernel
theorem dX11_isLet__11 : decode cX11_isLet_ 11 = .ok (.getfield 109, 3) := by decide +kernel
theorem dX11_isLet__14 : decode cX11_isLet_ 14 = .ok (.ifCond .ne 31, 3) := by decide +kernel
theorem dX11_isLet__17 : decode cX11_isLet_ 17 = .ok (.iload 4, 2) := by decide +kernel
theorem dX11_isLet__19 : decode cX11_isLet_ 19 = .ok (.iload_n 2, 1) := by decide +kernel
theorem dX11_isLet__20 : decode cX11_isLet_ 20 = .ok (.if_icmp .eq 19, 3) := by decide +kernel
theorem dX11_isLet__23 : decode cX11_isLet_ 23 = .ok (.aload_n 0, 1) := by decide +kernel
theorem dX11_isLet__24 : decode cX11_isLet_ 24 = .ok (.getfield 33, 3) := by decide +kernel
theorem dX11_isLet__27 : decode cX11_isLet_ 27 = .ok (.iload 4, 2) := by decide +kernel
theorem dX11_isLet__29 : decode cX11_isLet_ 29 = .ok (.iaload, 1) := by decide +kernel
theorem dX11_isLet__30 : decode cX11_isLet_ 30 = .ok (.aload_n 0, 1) := by decide +kernel
theorem dX11_isLet__31 : decode cX11_isLet_ 31 = .ok (.getfield 33, 3) := by decide +kernel
theorem dX11_isLet__34 : decode cX11_isLet_ 34 = .ok (.iload_n 2, 1) := by decide +kernel
theorem dX11_isLet__35 : decode cX11_isLet_ 35 = .ok (.iaload, 1) := by decide +kernel
theorem dX11_isLet__36 : decode cX11_isLet_ 36 = .ok (.if_icmp .ne 7, 3) := by decide +kernel
theorem dX11_isLet__39 : decode cX11_isLet_ 39 = .ok (.iconst 1, 1) := by decide +kernel
theorem dX11_isLet__40 : decode cX11_isLet_ 40 = .ok (.goto 4, 3) := by decide +kernel
theorem dX11_isLet__43 : decode cX11_isLet_ 43 = .ok (.iconst 0, 1) := by decide +kernel
theorem dX11_isLet__44 : decode cX11_isLet_ 44 = .ok (.ireturn, 1) := by decide +kernel
theorem dX11_isLet__45 : decode cX11_isLet_ 45 = .ok (.aload_n 0, 1) := by decide +kernel
theorem dX11_isLet__46 : decode cX11_isLet_ 46 = .ok (.getfield 11, 3) := by decide +kernel
theorem dX11_isLet__49 : decode cX11_isLet_ 49 = .ok (.iload 4, 2) := by decide +kernel
theorem dX11_isLet__51 : decode cX11_isLet_ 51 = .ok (.aaload, 1) := by decide +kernel
theorem dX11_isLet__52 : decode cX11_isLet_ 52 = .ok (.getfield 76, 3) := by decide +kernel
theorem dX11_isLet__55 : decode cX11_isLet_ 55 = .ok (.bipush 59, 2) := by decide +kernel
theorem dX11_isLet__57 : decode cX11_isLet_ 57 = .ok (.lushr, 1) := by decide +kernel
theorem dX11_isLet__58 : decode cX11_isLet_ 58 = .ok (.aload_n 0, 1) := by decide +kernel
theorem dX11_isLet__59 : decode cX11_isLet_ 59 = .ok (.getfield 11, 3) := by decide +kernel
theorem dX11_isLet__62 : decode cX11_isLet_ 62 = .ok (.iload_n 2, 1) := by decide +kernel
theorem dX11_isLet__63 : decode cX11_isLet_ 63 = .ok (.aaload, 1) := by decide +kernel
theorem dX11_isLet__64 : decode cX11_isLet_ 64 = .ok (.getfield 76, 3) := by decide +kernel
theorem dX11_isLet__67 : decode cX11_isLet_ 67 = .ok (.bipush 59, 2) := by decide +kernel
theorem dX11_isLet__69 : decode cX11_isLet_ 69 = .ok (.lushr, 1) := by decide +kernel
theorem dX11_isLet__70 : decode cX11_isLet_ 70 = .ok (.lcmp, 1) := by decide +kernel
theorem dX11_isLet__71 : decode cX11_isLet_ 71 = .ok (.ifCond .ne 5, 3) := by decide +kernel
theorem dX11_isLet__74 : decode cX11_isLet_ 74 = .ok (.iconst 1, 1) := by decide +kernel
theorem dX11_isLet__75 : decode cX11_isLet_ 75 = .ok (.ireturn, 1) := by decide +kernel
theorem dX11_isLet__76 : decode cX11_isLet_ 76 = .ok (.aload_n 1, 1) := by decide +kernel
theorem dX11_isLet__77 : decode cX11_isLet_ 77 = .ok (.getfield 109, 3) := by decide +kernel
theorem dX11_isLet__80 : decode cX11_isLet_ 80 = .ok (.iconst 2, 1) := by decide +kernel
theorem dX11_isLet__81 : decode cX11_isLet_ 81 = .ok (.if_icmp .ne 74, 3) := by decide +kernel
theorem dX11_isLet__84 : decode cX11_isLet_ 84 = .ok (.iload 4, 2) := by decide +kernel
theorem dX11_isLet__86 : decode cX11_isLet_ 86 = .ok (.iload_n 2, 1) := by decide +kernel
theorem dX11_isLet__87 : decode cX11_isLet_ 87 = .ok (.if_icmp .eq 19, 3) := by decide +kernel
theorem dX11_isLet__90 : decode cX11_isLet_ 90 = .ok (.aload_n 0, 1) := by decide +kernel
theorem dX11_isLet__91 : decode cX11_isLet_ 91 = .ok (.getfield 36, 3) := by decide +kernel
theorem dX11_isLet__94 : decode cX11_isLet_ 94 = .ok (.iload 4, 2) := by decide +kernel
theorem dX11_isLet__96 : decode cX11_isLet_ 96 = .ok (.laload, 1) := by decide +kernel
theorem dX11_isLet__97 : decode cX11_isLet_ 97 = .ok (.iload_n 2, 1) := by decide +kernel
theorem dX11_isLet__98 : decode cX11_isLet_ 98 = .ok (.lushr, 1) := by decide +kernel
theorem dX11_isLet__99 : decode cX11_isLet_ 99 = .ok (.lconst 1, 1) := by decide +kernel
theorem dX11_isLet__100 : decode cX11_isLet_ 100 = .ok (.land, 1) := by decide +kernel
theorem dX11_isLet__101 : decode cX11_isLet_ 101 = .ok (.lconst 0, 1) := by decide +kernel
theorem dX11_isLet__102 : decode cX11_isLet_ 102 = .ok (.lcmp, 1) := by decide +kernel
theorem dX11_isLet__103 : decode cX11_isLet_ 103 = .ok (.ifCond .eq 52, 3) := by decide +kernel
theorem dX11_isLet__106 : decode cX11_isLet_ 106 = .ok (.aload_n 1, 1) := by decide +kernel
theorem dX11_isLet__107 : decode cX11_isLet_ 107 = .ok (.getfield 162, 3) := by decide +kernel
theorem dX11_isLet__110 : decode cX11_isLet_ 110 = .ok (.ifCond .ne 41, 3) := by decide +kernel
theorem dX11_isLet__113 : decode cX11_isLet_ 113 = .ok (.iload_n 3, 1) := by decide +kernel
theorem dX11_isLet__114 : decode cX11_isLet_ 114 = .ok (.iload 4, 2) := by decide +kernel
theorem dX11_isLet__116 : decode cX11_isLet_ 116 = .ok (.if_icmp .eq 35, 3) := by decide +kernel
theorem dX11_isLet__119 : decode cX11_isLet_ 119 = .ok (.aload_n 0, 1) := by decide +kernel
theorem dX11_isLet__120 : decode cX11_isLet_ 120 = .ok (.getfield 36, 3) := by decide +kernel
theorem dX11_isLet__123 : decode cX11_isLet_ 123 = .ok (.iload_n 3, 1) := by decide +kernel
theorem dX11_isLet__124 : decode cX11_isLet_ 124 = .ok (.laload, 1) := by decide +kernel
theorem dX11_isLet__125 : decode cX11_isLet_ 125 = .ok (.iload 4, 2) := by decide +kernel
theorem dX11_isLet__127 : decode cX11_isLet_ 127 = .ok (.lushr, 1) := by decide +kernel
theorem dX11_isLet__128 : decode cX11_isLet_ 128 = .ok (.lconst 1, 1) := by decide +kernel
theorem dX11_isLet__129 : decode cX11_isLet_ 129 = .ok (.land, 1) := by decide +kernel
theorem dX11_isLet__130 : decode cX11_isLet_ 130 = .ok (.lconst 0, 1) := by decide +kernel
theorem dX11_isLet__131 : decode cX11_isLet_ 131 = .ok (.lcmp, 1) := by decide +kernel
theorem dX11_isLet__132 : decode cX11_isLet_ 132 = .ok (.ifCond .ne 19, 3) := by decide +kernel
theorem dX11_isLet__135 : decode cX11_isLet_ 135 = .ok (.aload_n 0, 1) := by decide +kernel
theorem dX11_isLet__136 : decode cX11_isLet_ 136 = .ok (.getfield 36, 3) := by decide +kernel
theorem dX11_isLet__139 : decode cX11_isLet_ 139 = .ok (.iload 4, 2) := by decide +kernel
theorem dX11_isLet__141 : decode cX11_isLet_ 141 = .ok (.laload, 1) := by decide +kernel
theorem dX11_isLet__142 : decode cX11_isLet_ 142 = .ok (.iload_n 3, 1) := by decide +kernel
theorem dX11_isLet__143 : decode cX11_isLet_ 143 = .ok (.lushr, 1) := by decide +kernel
theorem dX11_isLet__144 : decode cX11_isLet_ 144 = .ok (.lconst 1, 1) := by decide +kernel
theorem dX11_isLet__145 : decode cX11_isLet_ 145 = .ok (.land, 1) := by decide +kernel
theorem dX11_isLet__146 : decode cX11_isLet_ 146 = .ok (.lconst 0, 1) := by decide +kernel
theorem dX11_isLet__147 : decode cX11_isLet_ 147 = .ok (.lcmp, 1) := by decide +kernel
theorem dX11_isLet__148 : decode cX11_isLet_ 148 = .ok (.ifCond .eq 7, 3) := by decide +kernel
theorem dX11_isLet__151 : decode cX11_isLet_ 151 = .ok (.iconst 1, 1) := by decide +kernel
theorem dX11_isLet__152 : decode cX11_isLet_ 152 = .ok (.goto 4, 3) := by decide +kernel
theorem dX11_isLet__155 : decode cX11_isLet_ 155 = .ok (.iconst 0, 1) := by decide +kernel
theorem dX11_isLet__156 : decode cX11_isLet_ 156 = .ok (.ireturn, 1) := by decide +kernel
theorem dX11_fits_0 : decode cX11_fits 0 = .ok (.lload_n 1, 1) := by decide +kernel
theorem dX11_fits_1 : decode cX11_fits 1 = .ok (.ldc2_w 165, 3) := by decide +kernel
theorem dX11_fits_4 : decode cX11_fits 4 = .ok (.lcmp, 1) := by decide +kernel
theorem dX11_fits_5 : decode cX11_fits 5 = .ok (.ifCond .eq 11, 3) := by decide +kernel
theorem dX11_fits_8 : decode cX11_fits 8 = .ok (.lload_n 3, 1) := by decide +kernel
theorem dX11_fits_9 : decode cX11_fits 9 = .ok (.ldc2_w 165, 3) := by decide +kernel
theorem dX11_fits_12 : decode cX11_fits 12 = .ok (.lcmp, 1) := by decide +kernel
theorem dX11_fits_13 : decode cX11_fits 13 = .ok (.ifCond .ne 5, 3) := by decide +kernel
theorem dX11_fits_16 : decode cX11_fits 16 = .ok (.iconst 0, 1) := by decide +kernel
theorem dX11_fits_17 : decode cX11_fits 17 = .ok (.ireturn, 1) := by decide +kernel
theorem dX11_fits_18 : decode cX11_fits 18 = .ok (.lload_n 1, 1) := by decide +kernel
theorem dX11_fits_19 : decode cX11_fits 19 = .ok (.lload_n 3, 1) := by decide +kernel
theorem dX11_fits_20 : decode cX11_fits 20 = .ok (.lcmp, 1) := by decide +kernel
theorem dX11_fits_21 : decode cX11_fits 21 = .ok (.ifCond .ne 5, 3) := by decide +kernel
theorem dX11_fits_24 : decode cX11_fits 24 = .ok (.iconst 1, 1) := by decide +kernel
theorem dX11_fits_25 : decode cX11_fits 25 = .ok (.ireturn, 1) := by decide +kernel
theorem dX11_fits_26 : decode cX11_fits 26 = .ok (.lload_n 1, 1) := by decide +kernel
theorem dX11_fits_27 : decode cX11_fits 27 = .ok (.ldc2_w 115, 3) := by decide +kernel
theorem dX11_fits_30 : decode cX11_fits 30 = .ok (.lcmp, 1) := by decide +kernel
theorem dX11_fits_31 : decode cX11_fits 31 = .ok (.ifCond .eq 11, 3) := by decide +kernel
theorem dX11_fits_34 : decode cX11_fits 34 = .ok (.lload_n 3, 1) := by decide +kernel
theorem dX11_fits_35 : decode cX11_fits 35 = .ok (.ldc2_w 115, 3) := by decide +kernel
theorem dX11_fits_38 : decode cX11_fits 38 = .ok (.lcmp, 1) := by decide +kernel
theorem dX11_fits_39 : decode cX11_fits 39 = .ok (.ifCond .ne 5, 3) := by decide +kernel
theorem dX11_fits_42 : decode cX11_fits 42 = .ok (.iconst 0, 1) := by decide +kernel
theorem dX11_fits_43 : decode cX11_fits 43 = .ok (.ireturn, 1) := by decide +kernel
theorem dX11_fits_44 : decode cX11_fits 44 = .ok (.lload_n 1, 1) := by decide +kernel
theorem dX11_fits_45 : decode cX11_fits 45 = .ok (.ldc2_w 167, 3) := by decide +kernel
theorem dX11_fits_48 : decode cX11_fits 48 = .ok (.lcmp, 1) := by decide +kernel
theorem dX11_fits_49 : decode cX11_fits 49 = .ok (.ifCond .ne 5, 3) := by decide +kernel
theorem dX11_fits_52 : decode cX11_fits 52 = .ok (.iconst 1, 1) := by decide +kernel
theorem dX11_fits_53 : decode cX11_fits 53 = .ok (.ireturn, 1) := by decide +kernel
theorem dX11_fits_54 : decode cX11_fits 54 = .ok (.lload_n 1, 1) := by decide +kernel
theorem dX11_fits_55 : decode cX11_fits 55 = .ok (.ldc2_w 74, 3) := by decide +kernel
theorem dX11_fits_58 : decode cX11_fits 58 = .ok (.lcmp, 1) := by decide +kernel
theorem dX11_fits_59 : decode cX11_fits 59 = .ok (.ifCond .ne 7, 3) := by decide +kernel
theorem dX11_fits_62 : decode cX11_fits 62 = .ok (.iconst 0, 1) := by decide +kernel
theorem dX11_fits_63 : decode cX11_fits 63 = .ok (.goto 17, 3) := by decide +kernel
theorem dX11_fits_66 : decode cX11_fits 66 = .ok (.lload_n 1, 1) := by decide +kernel
theorem dX11_fits_67 : decode cX11_fits 67 = .ok (.ldc2_w 100, 3) := by decide +kernel
theorem dX11_fits_70 : decode cX11_fits 70 = .ok (.lcmp, 1) := by decide +kernel
theorem dX11_fits_71 : decode cX11_fits 71 = .ok (.ifCond .ne 7, 3) := by decide +kernel
theorem dX11_fits_74 : decode cX11_fits 74 = .ok (.iconst 1, 1) := by decide +kernel
theorem dX11_fits_75 : decode cX11_fits 75 = .ok (.goto 5, 3) := by decide +kernel
theorem dX11_fits_78 : decode cX11_fits 78 = .ok (.bipush (-2), 2) := by decide +kernel
theorem dX11_fits_80 : decode cX11_fits 80 = .ok (.istore 5, 2) := by decide +kernel
theorem dX11_fits_82 : decode cX11_fits 82 = .ok (.lload_n 3, 1) := by decide +kernel
theorem dX11_fits_83 : decode cX11_fits 83 = .ok (.ldc2_w 74, 3) := by decide +kernel
theorem dX11_fits_86 : decode cX11_fits 86 = .ok (.lcmp, 1) := by decide +kernel
theorem dX11_fits_87 : decode cX11_fits 87 = .ok (.ifCond .ne 7, 3) := by decide +kernel
theorem dX11_fits_90 : decode cX11_fits 90 = .ok (.iconst 0, 1) := by decide +kernel
theorem dX11_fits_91 : decode cX11_fits 91 = .ok (.goto 17, 3) := by decide +kernel
theorem dX11_fits_94 : decode cX11_fits 94 = .ok (.lload_n 3, 1) := by decide +kernel
theorem dX11_fits_95 : decode cX11_fits 95 = .ok (.ldc2_w 100, 3) := by decide +kernel
theorem dX11_fits_98 : decode cX11_fits 98 = .ok (.lcmp, 1) := by decide +kernel
theorem dX11_fits_99 : decode cX11_fits 99 = .ok (.ifCond .ne 7, 3) := by decide +kernel
theorem dX11_fits_102 : decode cX11_fits 102 = .ok (.iconst 1, 1) := by decide +kernel
theorem dX11_fits_103 : decode cX11_fits 103 = .ok (.goto 5, 3) := by decide +kernel
theorem dX11_fits_106 : decode cX11_fits 106 = .ok (.bipush (-2), 2) := by decide +kernel
theorem dX11_fits_108 : decode cX11_fits 108 = .ok (.istore 6, 2) := by decide +kernel
theorem dX11_fits_110 : decode cX11_fits 110 = .ok (.iconst 2, 1) := by decide +kernel
theorem dX11_fits_111 : decode cX11_fits 111 = .ok (.istore 7, 2) := by decide +kernel
theorem dX11_fits_113 : decode cX11_fits 113 = .ok (.iload 7, 2) := by decide +kernel
theorem dX11_fits_115 : decode cX11_fits 115 = .ok (.aload_n 0, 1) := by decide +kernel
theorem dX11_fits_116 : decode cX11_fits 116 = .ok (.getfield 123, 3) := by decide +kernel
theorem dX11_fits_119 : decode cX11_fits 119 = .ok (.if_icmp .ge 57, 3) := by decide +kernel
theorem dX11_fits_122 : decode cX11_fits 122 = .ok (.aload_n 0, 1) := by decide +kernel
theorem dX11_fits_123 : decode cX11_fits 123 = .ok (.getfield 11, 3) := by decide +kernel
theorem dX11_fits_126 : decode cX11_fits 126 = .ok (.iload 7, 2) := by decide +kernel
theorem dX11_fits_128 : decode cX11_fits 128 = .ok (.aaload, 1) := by decide +kernel
theorem dX11_fits_129 : decode cX11_fits 129 = .ok (.getfield 76, 3) := by decide +kernel
theorem dX11_fits_132 : decode cX11_fits 132 = .ok (.lload_n 1, 1) := by decide +kernel
theorem dX11_fits_133 : decode cX11_fits 133 = .ok (.lcmp, 1) := by decide +kernel
theorem dX11_fits_134 : decode cX11_fits 134 = .ok (.ifCond .ne 8, 3) := by decide +kernel
theorem dX11_fits_137 : decode cX11_fits 137 = .ok (.iload 7, 2) := by decide +kernel
theorem dX11_fits_139 : decode cX11_fits 139 = .ok (.goto 5, 3) := by decide +kernel
theorem dX11_fits_142 : decode cX11_fits 142 = .ok (.iload 5, 2) := by decide +kernel
theorem dX11_fits_144 : decode cX11_fits 144 = .ok (.istore 5, 2) := by decide +kernel
theorem dX11_fits_146 : decode cX11_fits 146 = .ok (.aload_n 0, 1) := by decide +kernel
theorem dX11_fits_147 : decode cX11_fits 147 = .ok (.getfield 11, 3) := by decide +kernel
theorem dX11_fits_150 : decode cX11_fits 150 = .ok (.iload 7, 2) := by decide +kernel
theorem dX11_fits_152 : decode cX11_fits 152 = .ok (.aaload, 1) := by decide +kernel
theorem dX11_fits_153 : decode cX11_fits 153 = .ok (.getfield 76, 3) := by decide +kernel
theorem dX11_fits_156 : decode cX11_fits 156 = .ok (.lload_n 3, 1) := by decide +kernel
theorem dX11_fits_157 : decode cX11_fits 157 = .ok (.lcmp, 1) := by decide +kernel
theorem dX11_fits_158 : decode cX11_fits 158 = .ok (.ifCond .ne 8, 3) := by decide +kernel
theorem dX11_fits_161 : decode cX11_fits 161 = .ok (.iload 7, 2) := by decide +kernel
theorem dX11_fits_163 : decode cX11_fits 163 = .ok (.goto 5, 3) := by decide +kernel
theorem dX11_fits_166 : decode cX11_fits 166 = .ok (.iload 6, 2) := by decide +kernel
theorem dX11_fits_168 : decode cX11_fits 168 = .ok (.istore 6, 2) := by decide +kernel
theorem dX11_fits_170 : decode cX11_fits 170 = .ok (.iinc 7 1, 3) := by decide +kernel
theorem dX11_fits_173 : decode cX11_fits 173 = .ok (.goto (-60), 3) := by decide +kernel
theorem dX11_fits_176 : decode cX11_fits 176 = .ok (.iload 5, 2) := by decide +kernel
theorem dX11_fits_178 : decode cX11_fits 178 = .ok (.ifCond .lt 47, 3) := by decide +kernel
theorem dX11_fits_181 : decode cX11_fits 181 = .ok (.iload 6, 2) := by decide +kernel
theorem dX11_fits_183 : decode cX11_fits 183 = .ok (.ifCond .lt 42, 3) := by decide +kernel
theorem dX11_fits_186 : decode cX11_fits 186 = .ok (.aload_n 0, 1) := by decide +kernel
theorem dX11_fits_187 : decode cX11_fits 187 = .ok (.getfield 36, 3) := by decide +kernel
theorem dX11_fits_190 : decode cX11_fits 190 = .ok (.iload 5, 2) := by decide +kernel
theorem dX11_fits_192 : decode cX11_fits 192 = .ok (.laload, 1) := by decide +kernel
theorem dX11_fits_193 : decode cX11_fits 193 = .ok (.iload 6, 2) := by decide +kernel
theorem dX11_fits_195 : decode cX11_fits 195 = .ok (.lushr, 1) := by decide +kernel
theorem dX11_fits_196 : decode cX11_fits 196 = .ok (.lconst 1, 1) := by decide +kernel
theorem dX11_fits_197 : decode cX11_fits 197 = .ok (.land, 1) := by decide +kernel
theorem dX11_fits_198 : decode cX11_fits 198 = .ok (.lconst 0, 1) := by decide +kernel
theorem dX11_fits_199 : decode cX11_fits 199 = .ok (.lcmp, 1) := by decide +kernel
theorem dX11_fits_200 : decode cX11_fits 200 = .ok (.ifCond .ne 21, 3) := by decide +kernel
theorem dX11_fits_203 : decode cX11_fits 203 = .ok (.iload 6, 2) := by decide +kernel
theorem dX11_fits_205 : decode cX11_fits 205 = .ok (.ifCond .ne 20, 3) := by decide +kernel
theorem dX11_fits_208 : decode cX11_fits 208 = .ok (.aload_n 0, 1) := by decide +kernel
theorem dX11_fits_209 : decode cX11_fits 209 = .ok (.getfield 11, 3) := by decide +kernel
theorem dX11_fits_212 : decode cX11_fits 212 = .ok (.iload 5, 2) := by decide +kernel
theorem dX11_fits_214 : decode cX11_fits 214 = .ok (.aaload, 1) := by decide +kernel
theorem dX11_fits_215 : decode cX11_fits 215 = .ok (.getfield 132, 3) := by decide +kernel
theorem dX11_fits_218 : decode cX11_fits 218 = .ok (.ifCond .eq 7, 3) := by decide +kernel
theorem dX11_fits_221 : decode cX11_fits 221 = .ok (.iconst 1, 1) := by decide +kernel
theorem dX11_fits_222 : decode cX11_fits 222 = .ok (.goto 4, 3) := by decide +kernel
theorem dX11_fits_225 : decode cX11_fits 225 = .ok (.iconst 0, 1) := by decide +kernel
theorem dX11_fits_226 : decode cX11_fits 226 = .ok (.ireturn, 1) := by decide +kernel
theorem dX11_faces_0 : decode cX11_faces 0 = .ok (.aload_n 0, 1) := by decide +kernel
theorem dX11_faces_1 : decode cX11_faces 1 = .ok (.getfield 43, 3) := by decide +kernel
theorem dX11_faces_4 : decode cX11_faces 4 = .ok (.iload_n 1, 1) := by decide +kernel
theorem dX11_faces_5 : decode cX11_faces 5 = .ok (.iaload, 1) := by decide +kernel
theorem dX11_faces_6 : decode cX11_faces 6 = .ok (.ifCond .lt 10, 3) := by decide +kernel
theorem dX11_faces_9 : decode cX11_faces 9 = .ok (.aload_n 0, 1) := by decide +kernel
theorem dX11_faces_10 : decode cX11_faces 10 = .ok (.getfield 43, 3) := by decide +kernel
theorem dX11_faces_13 : decode cX11_faces 13 = .ok (.iload_n 1, 1) := by decide +kernel
theorem dX11_faces_14 : decode cX11_faces 14 = .ok (.iaload, 1) := by decide +kernel
theorem dX11_faces_15 : decode cX11_faces 15 = .ok (.ireturn, 1) := by decide +kernel
theorem dX11_faces_16 : decode cX11_faces 16 = .ok (.iconst 0, 1) := by decide +kernel
theorem dX11_faces_17 : decode cX11_faces 17 = .ok (.istore_n 2, 1) := by decide +kernel
theorem dX11_faces_18 : decode cX11_faces 18 = .ok (.lconst 0, 1) := by decide +kernel
theorem dX11_faces_19 : decode cX11_faces 19 = .ok (.lstore_n 3, 1) := by decide +kernel
theorem dX11_faces_20 : decode cX11_faces 20 = .ok (.lconst 1, 1) := by decide +kernel
theorem dX11_faces_21 : decode cX11_faces 21 = .ok (.iload_n 1, 1) := by decide +kernel
theorem dX11_faces_22 : decode cX11_faces 22 = .ok (.lshl, 1) := by decide +kernel
theorem dX11_faces_23 : decode cX11_faces 23 = .ok (.lstore 5, 2) := by decide +kernel
theorem dX11_faces_25 : decode cX11_faces 25 = .ok (.iconst 1, 1) := by decide +kernel
theorem dX11_faces_26 : decode cX11_faces 26 = .ok (.istore 7, 2) := by decide +kernel
theorem dX11_faces_28 : decode cX11_faces 28 = .ok (.aload_n 0, 1) := by decide +kernel
theorem dX11_faces_29 : decode cX11_faces 29 = .ok (.getfield 46, 3) := by decide +kernel
theorem dX11_faces_32 : decode cX11_faces 32 = .ok (.iconst 0, 1) := by decide +kernel
theorem dX11_faces_33 : decode cX11_faces 33 = .ok (.iload_n 1, 1) := by decide +kernel
theorem dX11_faces_34 : decode cX11_faces 34 = .ok (.iastore, 1) := by decide +kernel
theorem dX11_faces_35 : decode cX11_faces 35 = .ok (.aload_n 0, 1) := by decide +kernel
theorem dX11_faces_36 : decode cX11_faces 36 = .ok (.getfield 49, 3) := by decide +kernel
theorem dX11_faces_39 : decode cX11_faces 39 = .ok (.iconst 0, 1) := by decide +kernel
theorem dX11_faces_40 : decode cX11_faces 40 = .ok (.iconst 0, 1) := by decide +kernel
theorem dX11_faces_41 : decode cX11_faces 41 = .ok (.iastore, 1) := by decide +kernel
theorem dX11_faces_42 : decode cX11_faces 42 = .ok (.iconst 0, 1) := by decide +kernel
theorem dX11_faces_43 : decode cX11_faces 43 = .ok (.istore 8, 2) := by decide +kernel
theorem dX11_faces_45 : decode cX11_faces 45 = .ok (.iload 8, 2) := by decide +kernel
theorem dX11_faces_47 : decode cX11_faces 47 = .ok (.ldc 169, 2) := by decide +kernel
theorem dX11_faces_49 : decode cX11_faces 49 = .ok (.if_icmp .ge 188, 3) := by decide +kernel
theorem dX11_faces_52 : decode cX11_faces 52 = .ok (.iload 7, 2) := by decide +kernel
theorem dX11_faces_54 : decode cX11_faces 54 = .ok (.ifCond .le 183, 3) := by decide +kernel
theorem dX11_faces_57 : decode cX11_faces 57 = .ok (.aload_n 0, 1) := by decide +kernel
theorem dX11_faces_58 : decode cX11_faces 58 = .ok (.getfield 46, 3) := by decide +kernel
theorem dX11_faces_61 : decode cX11_faces 61 = .ok (.iload 7, 2) := by decide +kernel
theorem dX11_faces_63 : decode cX11_faces 63 = .ok (.iconst 1, 1) := by decide +kernel
theorem dX11_faces_64 : decode cX11_faces 64 = .ok (.isub, 1) := by decide +kernel
theorem dX11_faces_65 : decode cX11_faces 65 = .ok (.iaload, 1) := by decide +kernel
theorem dX11_faces_66 : decode cX11_faces 66 = .ok (.istore 9, 2) := by decide +kernel
theorem dX11_faces_68 : decode cX11_faces 68 = .ok (.aload_n 0, 1) := by decide +kernel
theorem dX11_faces_69 : decode cX11_faces 69 = .ok (.getfield 49, 3) := by decide +kernel
theorem dX11_faces_72 : decode cX11_faces 72 = .ok (.iload 7, 2) := by decide +kernel
theorem dX11_faces_74 : decode cX11_faces 74 = .ok (.iconst 1, 1) := by decide +kernel
theorem dX11_faces_75 : decode cX11_faces 75 = .ok (.isub, 1) := by decide +kernel
theorem dX11_faces_76 : decode cX11_faces 76 = .ok (.iaload, 1) := by decide +kernel
theorem dX11_faces_77 : decode cX11_faces 77 = .ok (.istore 10, 2) := by decide +kernel
theorem dX11_faces_79 : decode cX11_faces 79 = .ok (.aload_n 0, 1) := by decide +kernel
theorem dX11_faces_80 : decode cX11_faces 80 = .ok (.getfield 49, 3) := by decide +kernel
theorem dX11_faces_83 : decode cX11_faces 83 = .ok (.iload 7, 2) := by decide +kernel
theorem dX11_faces_85 : decode cX11_faces 85 = .ok (.iconst 1, 1) := by decide +kernel
theorem dX11_faces_86 : decode cX11_faces 86 = .ok (.isub, 1) := by decide +kernel
theorem dX11_faces_87 : decode cX11_faces 87 = .ok (.dup2, 1) := by decide +kernel
theorem dX11_faces_88 : decode cX11_faces 88 = .ok (.iaload, 1) := by decide +kernel
theorem dX11_faces_89 : decode cX11_faces 89 = .ok (.iconst 1, 1) := by decide +kernel
theorem dX11_faces_90 : decode cX11_faces 90 = .ok (.iadd, 1) := by decide +kernel
theorem dX11_faces_91 : decode cX11_faces 91 = .ok (.iastore, 1) := by decide +kernel
theorem dX11_faces_92 : decode cX11_faces 92 = .ok (.iload 10, 2) := by decide +kernel
theorem dX11_faces_94 : decode cX11_faces 94 = .ok (.iconst 4, 1) := by decide +kernel
theorem dX11_faces_95 : decode cX11_faces 95 = .ok (.if_icmp .ge 18, 3) := by decide +kernel
theorem dX11_faces_98 : decode cX11_faces 98 = .ok (.aload_n 0, 1) := by decide +kernel
theorem dX11_faces_99 : decode cX11_faces 99 = .ok (.getfield 24, 3) := by decide +kernel
theorem dX11_faces_102 : decode cX11_faces 102 = .ok (.iload 9, 2) := by decide +kernel
theorem dX11_faces_104 : decode cX11_faces 104 = .ok (.iconst 4, 1) := by decide +kernel
theorem dX11_faces_105 : decode cX11_faces 105 = .ok (.imul, 1) := by decide +kernel
theorem dX11_faces_106 : decode cX11_faces 106 = .ok (.iload 10, 2) := by decide +kernel
theorem dX11_faces_108 : decode cX11_faces 108 = .ok (.iadd, 1) := by decide +kernel
theorem dX11_faces_109 : decode cX11_faces 109 = .ok (.iaload, 1) := by decide +kernel
theorem dX11_faces_110 : decode cX11_faces 110 = .ok (.goto 21, 3) := by decide +kernel
theorem dX11_faces_113 : decode cX11_faces 113 = .ok (.iload 10, 2) := by decide +kernel
theorem dX11_faces_115 : decode cX11_faces 115 = .ok (.iconst 4, 1) := by decide +kernel
theorem dX11_faces_116 : decode cX11_faces 116 = .ok (.if_icmp .ne 13, 3) := by decide +kernel
theorem dX11_faces_119 : decode cX11_faces 119 = .ok (.aload_n 0, 1) := by decide +kernel
theorem dX11_faces_120 : decode cX11_faces 120 = .ok (.getfield 17, 3) := by decide +kernel
theorem dX11_faces_123 : decode cX11_faces 123 = .ok (.iload 9, 2) := by decide +kernel
theorem dX11_faces_125 : decode cX11_faces 125 = .ok (.iaload, 1) := by decide +kernel
theorem dX11_faces_126 : decode cX11_faces 126 = .ok (.goto 5, 3) := by decide +kernel
theorem dX11_faces_129 : decode cX11_faces 129 = .ok (.bipush (-2), 2) := by decide +kernel
theorem dX11_faces_131 : decode cX11_faces 131 = .ok (.istore 11, 2) := by decide +kernel
theorem dX11_faces_133 : decode cX11_faces 133 = .ok (.iload 10, 2) := by decide +kernel
theorem dX11_faces_135 : decode cX11_faces 135 = .ok (.iconst 4, 1) := by decide +kernel
theorem dX11_faces_136 : decode cX11_faces 136 = .ok (.if_icmp .le 9, 3) := by decide +kernel
theorem dX11_faces_139 : decode cX11_faces 139 = .ok (.iinc 7 (-1), 3) := by decide +kernel
theorem dX11_faces_142 : decode cX11_faces 142 = .ok (.goto 89, 3) := by decide +kernel
theorem dX11_faces_145 : decode cX11_faces 145 = .ok (.iload 11, 2) := by decide +kernel
theorem dX11_faces_147 : decode cX11_faces 147 = .ok (.ifCond .lt 84, 3) := by decide +kernel
theorem dX11_faces_150 : decode cX11_faces 150 = .ok (.iload 10, 2) := by decide +kernel
theorem dX11_faces_152 : decode cX11_faces 152 = .ok (.iconst 4, 1) := by decide +kernel
theorem dX11_faces_153 : decode cX11_faces 153 = .ok (.if_icmp .ge 37, 3) := by decide +kernel
theorem dX11_faces_156 : decode cX11_faces 156 = .ok (.lload_n 3, 1) := by decide +kernel
theorem dX11_faces_157 : decode cX11_faces 157 = .ok (.iload 11, 2) := by decide +kernel
theorem dX11_faces_159 : decode cX11_faces 159 = .ok (.lushr, 1) := by decide +kernel
theorem dX11_faces_160 : decode cX11_faces 160 = .ok (.lconst 1, 1) := by decide +kernel
theorem dX11_faces_161 : decode cX11_faces 161 = .ok (.land, 1) := by decide +kernel
theorem dX11_faces_162 : decode cX11_faces 162 = .ok (.lconst 0, 1) := by decide +kernel
theorem dX11_faces_163 : decode cX11_faces 163 = .ok (.lcmp, 1) := by decide +kernel
theorem dX11_faces_164 : decode cX11_faces 164 = .ok (.ifCond .ne 26, 3) := by decide +kernel
theorem dX11_faces_167 : decode cX11_faces 167 = .ok (.lload_n 3, 1) := by decide +kernel
theorem dX11_faces_168 : decode cX11_faces 168 = .ok (.lconst 1, 1) := by decide +kernel
theorem dX11_faces_169 : decode cX11_faces 169 = .ok (.iload 11, 2) := by decide +kernel
theorem dX11_faces_171 : decode cX11_faces 171 = .ok (.lshl, 1) := by decide +kernel
theorem dX11_faces_172 : decode cX11_faces 172 = .ok (.lor, 1) := by decide +kernel
theorem dX11_faces_173 : decode cX11_faces 173 = .ok (.lstore_n 3, 1) := by decide +kernel
theorem dX11_faces_174 : decode cX11_faces 174 = .ok (.aload_n 0, 1) := by decide +kernel
theorem dX11_faces_175 : decode cX11_faces 175 = .ok (.getfield 40, 3) := by decide +kernel
theorem dX11_faces_178 : decode cX11_faces 178 = .ok (.iload_n 1, 1) := by decide +kernel
theorem dX11_faces_179 : decode cX11_faces 179 = .ok (.bipush 64, 2) := by decide +kernel
theorem dX11_faces_181 : decode cX11_faces 181 = .ok (.imul, 1) := by decide +kernel
theorem dX11_faces_182 : decode cX11_faces 182 = .ok (.iload_n 2, 1) := by decide +kernel
theorem dX11_faces_183 : decode cX11_faces 183 = .ok (.iadd, 1) := by decide +kernel
theorem dX11_faces_184 : decode cX11_faces 184 = .ok (.iload 11, 2) := by decide +kernel
theorem dX11_faces_186 : decode cX11_faces 186 = .ok (.iastore, 1) := by decide +kernel
theorem dX11_faces_187 : decode cX11_faces 187 = .ok (.iinc 2 1, 3) := by decide +kernel
theorem dX11_faces_190 : decode cX11_faces 190 = .ok (.lload 5, 2) := by decide +kernel
theorem dX11_faces_192 : decode cX11_faces 192 = .ok (.iload 11, 2) := by decide +kernel
theorem dX11_faces_194 : decode cX11_faces 194 = .ok (.lushr, 1) := by decide +kernel
theorem dX11_faces_195 : decode cX11_faces 195 = .ok (.lconst 1, 1) := by decide +kernel
theorem dX11_faces_196 : decode cX11_faces 196 = .ok (.land, 1) := by decide +kernel
theorem dX11_faces_197 : decode cX11_faces 197 = .ok (.lconst 0, 1) := by decide +kernel
theorem dX11_faces_198 : decode cX11_faces 198 = .ok (.lcmp, 1) := by decide +kernel
theorem dX11_faces_199 : decode cX11_faces 199 = .ok (.ifCond .ne 32, 3) := by decide +kernel
theorem dX11_faces_202 : decode cX11_faces 202 = .ok (.lload 5, 2) := by decide +kernel
theorem dX11_faces_204 : decode cX11_faces 204 = .ok (.lconst 1, 1) := by decide +kernel
theorem dX11_faces_205 : decode cX11_faces 205 = .ok (.iload 11, 2) := by decide +kernel
theorem dX11_faces_207 : decode cX11_faces 207 = .ok (.lshl, 1) := by decide +kernel
theorem dX11_faces_208 : decode cX11_faces 208 = .ok (.lor, 1) := by decide +kernel
theorem dX11_faces_209 : decode cX11_faces 209 = .ok (.lstore 5, 2) := by decide +kernel
theorem dX11_faces_211 : decode cX11_faces 211 = .ok (.aload_n 0, 1) := by decide +kernel
theorem dX11_faces_212 : decode cX11_faces 212 = .ok (.getfield 46, 3) := by decide +kernel
theorem dX11_faces_215 : decode cX11_faces 215 = .ok (.iload 7, 2) := by decide +kernel
theorem dX11_faces_217 : decode cX11_faces 217 = .ok (.iload 11, 2) := by decide +kernel
theorem dX11_faces_219 : decode cX11_faces 219 = .ok (.iastore, 1) := by decide +kernel
theorem dX11_faces_220 : decode cX11_faces 220 = .ok (.aload_n 0, 1) := by decide +kernel
theorem dX11_faces_221 : decode cX11_faces 221 = .ok (.getfield 49, 3) := by decide +kernel
theorem dX11_faces_224 : decode cX11_faces 224 = .ok (.iload 7, 2) := by decide +kernel
theorem dX11_faces_226 : decode cX11_faces 226 = .ok (.iconst 0, 1) := by decide +kernel
theorem dX11_faces_227 : decode cX11_faces 227 = .ok (.iastore, 1) := by decide +kernel
theorem dX11_faces_228 : decode cX11_faces 228 = .ok (.iinc 7 1, 3) := by decide +kernel
theorem dX11_faces_231 : decode cX11_faces 231 = .ok (.iinc 8 1, 3) := by decide +kernel
theorem dX11_faces_234 : decode cX11_faces 234 = .ok (.goto (-189), 3) := by decide +kernel
theorem dX11_faces_237 : decode cX11_faces 237 = .ok (.aload_n 0, 1) := by decide +kernel
theorem dX11_faces_238 : decode cX11_faces 238 = .ok (.getfield 43, 3) := by decide +kernel
theorem dX11_faces_241 : decode cX11_faces 241 = .ok (.iload_n 1, 1) := by decide +kernel
theorem dX11_faces_242 : decode cX11_faces 242 = .ok (.iload_n 2, 1) := by decide +kernel
theorem dX11_faces_243 : decode cX11_faces 243 = .ok (.iastore, 1) := by decide +kernel
theorem dX11_faces_244 : decode cX11_faces 244 = .ok (.iload_n 2, 1) := by decide +kernel
theorem dX11_faces_245 : decode cX11_faces 245 = .ok (.ireturn, 1) := by decide +kernel
theorem dX11_fieldIn_0 : decode cX11_fieldIn 0 = .ok (.lconst 1, 1) := by decide +kernel
theorem dX11_fieldIn_1 : decode cX11_fieldIn 1 = .ok (.iload_n 1, 1) := by decide +kernel
theorem dX11_fieldIn_2 : decode cX11_fieldIn 2 = .ok (.lshl, 1) := by decide +kernel
theorem dX11_fieldIn_3 : decode cX11_fieldIn 3 = .ok (.lstore 6, 2) := by decide +kernel
theorem dX11_fieldIn_5 : decode cX11_fieldIn 5 = .ok (.iconst 1, 1) := by decide +kernel
theorem dX11_fieldIn_6 : decode cX11_fieldIn 6 = .ok (.istore 8, 2) := by decide +kernel
theorem dX11_fieldIn_8 : decode cX11_fieldIn 8 = .ok (.aload_n 0, 1) := by decide +kernel
theorem dX11_fieldIn_9 : decode cX11_fieldIn 9 = .ok (.getfield 46, 3) := by decide +kernel
theorem dX11_fieldIn_12 : decode cX11_fieldIn 12 = .ok (.iconst 0, 1) := by decide +kernel
theorem dX11_fieldIn_13 : decode cX11_fieldIn 13 = .ok (.iload_n 1, 1) := by decide +kernel
theorem dX11_fieldIn_14 : decode cX11_fieldIn 14 = .ok (.iastore, 1) := by decide +kernel
theorem dX11_fieldIn_15 : decode cX11_fieldIn 15 = .ok (.aload_n 0, 1) := by decide +kernel
theorem dX11_fieldIn_16 : decode cX11_fieldIn 16 = .ok (.getfield 49, 3) := by decide +kernel
theorem dX11_fieldIn_19 : decode cX11_fieldIn 19 = .ok (.iconst 0, 1) := by decide +kernel
theorem dX11_fieldIn_20 : decode cX11_fieldIn 20 = .ok (.iconst 0, 1) := by decide +kernel
theorem dX11_fieldIn_21 : decode cX11_fieldIn 21 = .ok (.iastore, 1) := by decide +kernel
theorem dX11_fieldIn_22 : decode cX11_fieldIn 22 = .ok (.aload_n 0, 1) := by decide +kernel
theorem dX11_fieldIn_23 : decode cX11_fieldIn 23 = .ok (.iconst 1, 1) := by decide +kernel
theorem dX11_fieldIn_24 : decode cX11_fieldIn 24 = .ok (.putfield 170, 3) := by decide +kernel
theorem dX11_fieldIn_27 : decode cX11_fieldIn 27 = .ok (.aload_n 0, 1) := by decide +kernel
theorem dX11_fieldIn_28 : decode cX11_fieldIn 28 = .ok (.getfield 52, 3) := by decide +kernel
theorem dX11_fieldIn_31 : decode cX11_fieldIn 31 = .ok (.iconst 0, 1) := by decide +kernel
theorem dX11_fieldIn_32 : decode cX11_fieldIn 32 = .ok (.iload_n 1, 1) := by decide +kernel
theorem dX11_fieldIn_33 : decode cX11_fieldIn 33 = .ok (.iastore, 1) := by decide +kernel
theorem dX11_fieldIn_34 : decode cX11_fieldIn 34 = .ok (.aload_n 0, 1) := by decide +kernel
theorem dX11_fieldIn_35 : decode cX11_fieldIn 35 = .ok (.iload_n 1, 1) := by decide +kernel
theorem dX11_fieldIn_36 : decode cX11_fieldIn 36 = .ok (.putfield 173, 3) := by decide +kernel
theorem dX11_fieldIn_39 : decode cX11_fieldIn 39 = .ok (.aload_n 0, 1) := by decide +kernel
theorem dX11_fieldIn_40 : decode cX11_fieldIn 40 = .ok (.getfield 11, 3) := by decide +kernel
theorem dX11_fieldIn_43 : decode cX11_fieldIn 43 = .ok (.iload_n 1, 1) := by decide +kernel
theorem dX11_fieldIn_44 : decode cX11_fieldIn 44 = .ok (.aaload, 1) := by decide +kernel
theorem dX11_fieldIn_45 : decode cX11_fieldIn 45 = .ok (.lload_n 2, 1) := by decide +kernel
theorem dX11_fieldIn_46 : decode cX11_fieldIn 46 = .ok (.lload 4, 2) := by decide +kernel
theorem dX11_fieldIn_48 : decode cX11_fieldIn 48 = .ok (.invokevirtual 176, 3) := by decide +kernel
theorem dX11_fieldIn_51 : decode cX11_fieldIn 51 = .ok (.astore 9, 2) := by decide +kernel
theorem dX11_fieldIn_53 : decode cX11_fieldIn 53 = .ok (.iconst 0, 1) := by decide +kernel
theorem dX11_fieldIn_54 : decode cX11_fieldIn 54 = .ok (.istore 10, 2) := by decide +kernel
theorem dX11_fieldIn_56 : decode cX11_fieldIn 56 = .ok (.iload 10, 2) := by decide +kernel
theorem dX11_fieldIn_58 : decode cX11_fieldIn 58 = .ok (.ldc 169, 2) := by decide +kernel
theorem dX11_fieldIn_60 : decode cX11_fieldIn 60 = .ok (.if_icmp .ge 195, 3) := by decide +kernel
theorem dX11_fieldIn_63 : decode cX11_fieldIn 63 = .ok (.iload 8, 2) := by decide +kernel
theorem dX11_fieldIn_65 : decode cX11_fieldIn 65 = .ok (.ifCond .le 190, 3) := by decide +kernel
theorem dX11_fieldIn_68 : decode cX11_fieldIn 68 = .ok (.aload 9, 2) := by decide +kernel
theorem dX11_fieldIn_70 : decode cX11_fieldIn 70 = .ok (.ifnonnull 185, 3) := by decide +kernel
theorem dX11_fieldIn_73 : decode cX11_fieldIn 73 = .ok (.aload_n 0, 1) := by decide +kernel
theorem dX11_fieldIn_74 : decode cX11_fieldIn 74 = .ok (.getfield 46, 3) := by decide +kernel
theorem dX11_fieldIn_77 : decode cX11_fieldIn 77 = .ok (.iload 8, 2) := by decide +kernel
theorem dX11_fieldIn_79 : decode cX11_fieldIn 79 = .ok (.iconst 1, 1) := by decide +kernel
theorem dX11_fieldIn_80 : decode cX11_fieldIn 80 = .ok (.isub, 1) := by decide +kernel
theorem dX11_fieldIn_81 : decode cX11_fieldIn 81 = .ok (.iaload, 1) := by decide +kernel
theorem dX11_fieldIn_82 : decode cX11_fieldIn 82 = .ok (.istore 11, 2) := by decide +kernel
theorem dX11_fieldIn_84 : decode cX11_fieldIn 84 = .ok (.aload_n 0, 1) := by decide +kernel
theorem dX11_fieldIn_85 : decode cX11_fieldIn 85 = .ok (.getfield 49, 3) := by decide +kernel
theorem dX11_fieldIn_88 : decode cX11_fieldIn 88 = .ok (.iload 8, 2) := by decide +kernel
theorem dX11_fieldIn_90 : decode cX11_fieldIn 90 = .ok (.iconst 1, 1) := by decide +kernel
theorem dX11_fieldIn_91 : decode cX11_fieldIn 91 = .ok (.isub, 1) := by decide +kernel
theorem dX11_fieldIn_92 : decode cX11_fieldIn 92 = .ok (.iaload, 1) := by decide +kernel
theorem dX11_fieldIn_93 : decode cX11_fieldIn 93 = .ok (.istore 12, 2) := by decide +kernel
theorem dX11_fieldIn_95 : decode cX11_fieldIn 95 = .ok (.aload_n 0, 1) := by decide +kernel
theorem dX11_fieldIn_96 : decode cX11_fieldIn 96 = .ok (.getfield 49, 3) := by decide +kernel
theorem dX11_fieldIn_99 : decode cX11_fieldIn 99 = .ok (.iload 8, 2) := by decide +kernel
theorem dX11_fieldIn_101 : decode cX11_fieldIn 101 = .ok (.iconst 1, 1) := by decide +kernel
theorem dX11_fieldIn_102 : decode cX11_fieldIn 102 = .ok (.isub, 1) := by decide +kernel
theorem dX11_fieldIn_103 : decode cX11_fieldIn 103 = .ok (.dup2, 1) := by decide +kernel
theorem dX11_fieldIn_104 : decode cX11_fieldIn 104 = .ok (.iaload, 1) := by decide +kernel
theorem dX11_fieldIn_105 : decode cX11_fieldIn 105 = .ok (.iconst 1, 1) := by decide +kernel
theorem dX11_fieldIn_106 : decode cX11_fieldIn 106 = .ok (.iadd, 1) := by decide +kernel
theorem dX11_fieldIn_107 : decode cX11_fieldIn 107 = .ok (.iastore, 1) := by decide +kernel
theorem dX11_fieldIn_108 : decode cX11_fieldIn 108 = .ok (.iload 12, 2) := by decide +kernel
theorem dX11_fieldIn_110 : decode cX11_fieldIn 110 = .ok (.iconst 4, 1) := by decide +kernel
theorem dX11_fieldIn_111 : decode cX11_fieldIn 111 = .ok (.if_icmp .ge 18, 3) := by decide +kernel
theorem dX11_fieldIn_114 : decode cX11_fieldIn 114 = .ok (.aload_n 0, 1) := by decide +kernel
theorem dX11_fieldIn_115 : decode cX11_fieldIn 115 = .ok (.getfield 24, 3) := by decide +kernel
theorem dX11_fieldIn_118 : decode cX11_fieldIn 118 = .ok (.iload 11, 2) := by decide +kernel
theorem dX11_fieldIn_120 : decode cX11_fieldIn 120 = .ok (.iconst 4, 1) := by decide +kernel
theorem dX11_fieldIn_121 : decode cX11_fieldIn 121 = .ok (.imul, 1) := by decide +kernel
theorem dX11_fieldIn_122 : decode cX11_fieldIn 122 = .ok (.iload 12, 2) := by decide +kernel
theorem dX11_fieldIn_124 : decode cX11_fieldIn 124 = .ok (.iadd, 1) := by decide +kernel
theorem dX11_fieldIn_125 : decode cX11_fieldIn 125 = .ok (.iaload, 1) := by decide +kernel
theorem dX11_fieldIn_126 : decode cX11_fieldIn 126 = .ok (.goto 21, 3) := by decide +kernel
theorem dX11_fieldIn_129 : decode cX11_fieldIn 129 = .ok (.iload 12, 2) := by decide +kernel
theorem dX11_fieldIn_131 : decode cX11_fieldIn 131 = .ok (.iconst 4, 1) := by decide +kernel
theorem dX11_fieldIn_132 : decode cX11_fieldIn 132 = .ok (.if_icmp .ne 13, 3) := by decide +kernel
theorem dX11_fieldIn_135 : decode cX11_fieldIn 135 = .ok (.aload_n 0, 1) := by decide +kernel
theorem dX11_fieldIn_136 : decode cX11_fieldIn 136 = .ok (.getfield 17, 3) := by decide +kernel
theorem dX11_fieldIn_139 : decode cX11_fieldIn 139 = .ok (.iload 11, 2) := by decide +kernel
theorem dX11_fieldIn_141 : decode cX11_fieldIn 141 = .ok (.iaload, 1) := by decide +kernel
theorem dX11_fieldIn_142 : decode cX11_fieldIn 142 = .ok (.goto 5, 3) := by decide +kernel
theorem dX11_fieldIn_145 : decode cX11_fieldIn 145 = .ok (.bipush (-2), 2) := by decide +kernel
theorem dX11_fieldIn_147 : decode cX11_fieldIn 147 = .ok (.istore 13, 2) := by decide +kernel
theorem dX11_fieldIn_149 : decode cX11_fieldIn 149 = .ok (.iload 12, 2) := by decide +kernel
theorem dX11_fieldIn_151 : decode cX11_fieldIn 151 = .ok (.iconst 4, 1) := by decide +kernel
theorem dX11_fieldIn_152 : decode cX11_fieldIn 152 = .ok (.if_icmp .le 9, 3) := by decide +kernel
theorem dX11_fieldIn_155 : decode cX11_fieldIn 155 = .ok (.iinc 8 (-1), 3) := by decide +kernel
theorem dX11_fieldIn_158 : decode cX11_fieldIn 158 = .ok (.goto 91, 3) := by decide +kernel
theorem dX11_fieldIn_161 : decode cX11_fieldIn 161 = .ok (.iload 13, 2) := by decide +kernel
theorem dX11_fieldIn_163 : decode cX11_fieldIn 163 = .ok (.ifCond .lt 86, 3) := by decide +kernel
theorem dX11_fieldIn_166 : decode cX11_fieldIn 166 = .ok (.lload 6, 2) := by decide +kernel
theorem dX11_fieldIn_168 : decode cX11_fieldIn 168 = .ok (.iload 13, 2) := by decide +kernel
theorem dX11_fieldIn_170 : decode cX11_fieldIn 170 = .ok (.lushr, 1) := by decide +kernel
theorem dX11_fieldIn_171 : decode cX11_fieldIn 171 = .ok (.lconst 1, 1) := by decide +kernel
theorem dX11_fieldIn_172 : decode cX11_fieldIn 172 = .ok (.land, 1) := by decide +kernel
theorem dX11_fieldIn_173 : decode cX11_fieldIn 173 = .ok (.lconst 0, 1) := by decide +kernel
theorem dX11_fieldIn_174 : decode cX11_fieldIn 174 = .ok (.lcmp, 1) := by decide +kernel
theorem dX11_fieldIn_175 : decode cX11_fieldIn 175 = .ok (.ifCond .ne 74, 3) := by decide +kernel
theorem dX11_fieldIn_178 : decode cX11_fieldIn 178 = .ok (.lload 6, 2) := by decide +kernel
theorem dX11_fieldIn_180 : decode cX11_fieldIn 180 = .ok (.lconst 1, 1) := by decide +kernel
theorem dX11_fieldIn_181 : decode cX11_fieldIn 181 = .ok (.iload 13, 2) := by decide +kernel
theorem dX11_fieldIn_183 : decode cX11_fieldIn 183 = .ok (.lshl, 1) := by decide +kernel
theorem dX11_fieldIn_184 : decode cX11_fieldIn 184 = .ok (.lor, 1) := by decide +kernel
theorem dX11_fieldIn_185 : decode cX11_fieldIn 185 = .ok (.lstore 6, 2) := by decide +kernel
theorem dX11_fieldIn_187 : decode cX11_fieldIn 187 = .ok (.aload_n 0, 1) := by decide +kernel
theorem dX11_fieldIn_188 : decode cX11_fieldIn 188 = .ok (.getfield 46, 3) := by decide +kernel
theorem dX11_fieldIn_191 : decode cX11_fieldIn 191 = .ok (.iload 8, 2) := by decide +kernel
theorem dX11_fieldIn_193 : decode cX11_fieldIn 193 = .ok (.iload 13, 2) := by decide +kernel
theorem dX11_fieldIn_195 : decode cX11_fieldIn 195 = .ok (.iastore, 1) := by decide +kernel
theorem dX11_fieldIn_196 : decode cX11_fieldIn 196 = .ok (.aload_n 0, 1) := by decide +kernel
theorem dX11_fieldIn_197 : decode cX11_fieldIn 197 = .ok (.getfield 49, 3) := by decide +kernel
theorem dX11_fieldIn_200 : decode cX11_fieldIn 200 = .ok (.iload 8, 2) := by decide +kernel
theorem dX11_fieldIn_202 : decode cX11_fieldIn 202 = .ok (.iconst 0, 1) := by decide +kernel
theorem dX11_fieldIn_203 : decode cX11_fieldIn 203 = .ok (.iastore, 1) := by decide +kernel
theorem dX11_fieldIn_204 : decode cX11_fieldIn 204 = .ok (.iinc 8 1, 3) := by decide +kernel
theorem dX11_fieldIn_207 : decode cX11_fieldIn 207 = .ok (.aload_n 0, 1) := by decide +kernel
theorem dX11_fieldIn_208 : decode cX11_fieldIn 208 = .ok (.getfield 52, 3) := by decide +kernel
theorem dX11_fieldIn_211 : decode cX11_fieldIn 211 = .ok (.aload_n 0, 1) := by decide +kernel
theorem dX11_fieldIn_212 : decode cX11_fieldIn 212 = .ok (.getfield 170, 3) := by decide +kernel
theorem dX11_fieldIn_215 : decode cX11_fieldIn 215 = .ok (.iload 13, 2) := by decide +kernel
theorem dX11_fieldIn_217 : decode cX11_fieldIn 217 = .ok (.iastore, 1) := by decide +kernel
theorem dX11_fieldIn_218 : decode cX11_fieldIn 218 = .ok (.aload_n 0, 1) := by decide +kernel
theorem dX11_fieldIn_219 : decode cX11_fieldIn 219 = .ok (.dup, 1) := by decide +kernel
theorem dX11_fieldIn_220 : decode cX11_fieldIn 220 = .ok (.getfield 170, 3) := by decide +kernel
theorem dX11_fieldIn_223 : decode cX11_fieldIn 223 = .ok (.iconst 1, 1) := by decide +kernel
theorem dX11_fieldIn_224 : decode cX11_fieldIn 224 = .ok (.iadd, 1) := by decide +kernel
theorem dX11_fieldIn_225 : decode cX11_fieldIn 225 = .ok (.putfield 170, 3) := by decide +kernel
theorem dX11_fieldIn_228 : decode cX11_fieldIn 228 = .ok (.aload_n 0, 1) := by decide +kernel
theorem dX11_fieldIn_229 : decode cX11_fieldIn 229 = .ok (.iload 13, 2) := by decide +kernel
theorem dX11_fieldIn_231 : decode cX11_fieldIn 231 = .ok (.putfield 173, 3) := by decide +kernel
theorem dX11_fieldIn_234 : decode cX11_fieldIn 234 = .ok (.aload_n 0, 1) := by decide +kernel
theorem dX11_fieldIn_235 : decode cX11_fieldIn 235 = .ok (.getfield 11, 3) := by decide +kernel
theorem dX11_fieldIn_238 : decode cX11_fieldIn 238 = .ok (.iload 13, 2) := by decide +kernel
theorem dX11_fieldIn_240 : decode cX11_fieldIn 240 = .ok (.aaload, 1) := by decide +kernel
theorem dX11_fieldIn_241 : decode cX11_fieldIn 241 = .ok (.lload_n 2, 1) := by decide +kernel
theorem dX11_fieldIn_242 : decode cX11_fieldIn 242 = .ok (.lload 4, 2) := by decide +kernel
theorem dX11_fieldIn_244 : decode cX11_fieldIn 244 = .ok (.invokevirtual 176, 3) := by decide +kernel
theorem dX11_fieldIn_247 : decode cX11_fieldIn 247 = .ok (.astore 9, 2) := by decide +kernel
theorem dX11_fieldIn_249 : decode cX11_fieldIn 249 = .ok (.iinc 10 1, 3) := by decide +kernel
theorem dX11_fieldIn_252 : decode cX11_fieldIn 252 = .ok (.goto (-196), 3) := by decide +kernel
theorem dX11_fieldIn_255 : decode cX11_fieldIn 255 = .ok (.aload 9, 2) := by decide +kernel
theorem dX11_fieldIn_257 : decode cX11_fieldIn 257 = .ok (.areturn, 1) := by decide +kernel
theorem dX11_mostSpecial_0 : decode cX11_mostSpecial 0 = .ok (.aload_n 0, 1) := by decide +kernel
theorem dX11_mostSpecial_1 : decode cX11_mostSpecial 1 = .ok (.iload_n 1, 1) := by decide +kernel
theorem dX11_mostSpecial_2 : decode cX11_mostSpecial 2 = .ok (.invokevirtual 180, 3) := by decide +kernel
theorem dX11_mostSpecial_5 : decode cX11_mostSpecial 5 = .ok (.istore_n 3, 1) := by decide +kernel
theorem dX11_mostSpecial_6 : decode cX11_mostSpecial 6 = .ok (.iload_n 1, 1) := by decide +kernel
theorem dX11_mostSpecial_7 : decode cX11_mostSpecial 7 = .ok (.bipush 64, 2) := by decide +kernel
theorem dX11_mostSpecial_9 : decode cX11_mostSpecial 9 = .ok (.imul, 1) := by decide +kernel
theorem dX11_mostSpecial_10 : decode cX11_mostSpecial 10 = .ok (.istore 4, 2) := by decide +kernel
theorem dX11_mostSpecial_12 : decode cX11_mostSpecial 12 = .ok (.lconst 0, 1) := by decide +kernel
theorem dX11_mostSpecial_13 : decode cX11_mostSpecial 13 = .ok (.lstore 5, 2) := by decide +kernel
theorem dX11_mostSpecial_15 : decode cX11_mostSpecial 15 = .ok (.iconst 0, 1) := by decide +kernel
theorem dX11_mostSpecial_16 : decode cX11_mostSpecial 16 = .ok (.istore 7, 2) := by decide +kernel
theorem dX11_mostSpecial_18 : decode cX11_mostSpecial 18 = .ok (.iload 7, 2) := by decide +kernel
theorem dX11_mostSpecial_20 : decode cX11_mostSpecial 20 = .ok (.aload_n 0, 1) := by decide +kernel
theorem dX11_mostSpecial_21 : decode cX11_mostSpecial 21 = .ok (.getfield 123, 3) := by decide +kernel
theorem dX11_mostSpecial_24 : decode cX11_mostSpecial 24 = .ok (.if_icmp .ge 17, 3) := by decide +kernel
theorem dX11_mostSpecial_27 : decode cX11_mostSpecial 27 = .ok (.aload_n 0, 1) := by decide +kernel
theorem dX11_mostSpecial_28 : decode cX11_mostSpecial 28 = .ok (.getfield 57, 3) := by decide +kernel
theorem dX11_mostSpecial_31 : decode cX11_mostSpecial 31 = .ok (.iload 7, 2) := by decide +kernel
theorem dX11_mostSpecial_33 : decode cX11_mostSpecial 33 = .ok (.aconst_null, 1) := by decide +kernel
theorem dX11_mostSpecial_34 : decode cX11_mostSpecial 34 = .ok (.aastore, 1) := by decide +kernel
theorem dX11_mostSpecial_35 : decode cX11_mostSpecial 35 = .ok (.iinc 7 1, 3) := by decide +kernel
theorem dX11_mostSpecial_38 : decode cX11_mostSpecial 38 = .ok (.goto (-20), 3) := by decide +kernel
theorem dX11_mostSpecial_41 : decode cX11_mostSpecial 41 = .ok (.aload_n 0, 1) := by decide +kernel
theorem dX11_mostSpecial_42 : decode cX11_mostSpecial 42 = .ok (.getfield 11, 3) := by decide +kernel
theorem dX11_mostSpecial_45 : decode cX11_mostSpecial 45 = .ok (.iload_n 1, 1) := by decide +kernel
theorem dX11_mostSpecial_46 : decode cX11_mostSpecial 46 = .ok (.aaload, 1) := by decide +kernel
theorem dX11_mostSpecial_47 : decode cX11_mostSpecial 47 = .ok (.getfield 132, 3) := by decide +kernel
theorem dX11_mostSpecial_50 : decode cX11_mostSpecial 50 = .ok (.ifCond .eq 7, 3) := by decide +kernel
theorem dX11_mostSpecial_53 : decode cX11_mostSpecial 53 = .ok (.iconst (-1), 1) := by decide +kernel
theorem dX11_mostSpecial_54 : decode cX11_mostSpecial 54 = .ok (.goto 4, 3) := by decide +kernel
theorem dX11_mostSpecial_57 : decode cX11_mostSpecial 57 = .ok (.iconst 0, 1) := by decide +kernel
theorem dX11_mostSpecial_58 : decode cX11_mostSpecial 58 = .ok (.istore 7, 2) := by decide +kernel
theorem dX11_mostSpecial_60 : decode cX11_mostSpecial 60 = .ok (.iload 7, 2) := by decide +kernel
theorem dX11_mostSpecial_62 : decode cX11_mostSpecial 62 = .ok (.iload_n 3, 1) := by decide +kernel
theorem dX11_mostSpecial_63 : decode cX11_mostSpecial 63 = .ok (.if_icmp .ge 82, 3) := by decide +kernel
theorem dX11_mostSpecial_66 : decode cX11_mostSpecial 66 = .ok (.iload 7, 2) := by decide +kernel
theorem dX11_mostSpecial_68 : decode cX11_mostSpecial 68 = .ok (.ifCond .ge 7, 3) := by decide +kernel
theorem dX11_mostSpecial_71 : decode cX11_mostSpecial 71 = .ok (.iload_n 1, 1) := by decide +kernel
theorem dX11_mostSpecial_72 : decode cX11_mostSpecial 72 = .ok (.goto 13, 3) := by decide +kernel
theorem dX11_mostSpecial_75 : decode cX11_mostSpecial 75 = .ok (.aload_n 0, 1) := by decide +kernel
theorem dX11_mostSpecial_76 : decode cX11_mostSpecial 76 = .ok (.getfield 40, 3) := by decide +kernel
theorem dX11_mostSpecial_79 : decode cX11_mostSpecial 79 = .ok (.iload 4, 2) := by decide +kernel
theorem dX11_mostSpecial_81 : decode cX11_mostSpecial 81 = .ok (.iload 7, 2) := by decide +kernel
theorem dX11_mostSpecial_83 : decode cX11_mostSpecial 83 = .ok (.iadd, 1) := by decide +kernel
theorem dX11_mostSpecial_84 : decode cX11_mostSpecial 84 = .ok (.iaload, 1) := by decide +kernel
theorem dX11_mostSpecial_85 : decode cX11_mostSpecial 85 = .ok (.istore 8, 2) := by decide +kernel
theorem dX11_mostSpecial_87 : decode cX11_mostSpecial 87 = .ok (.aload_n 0, 1) := by decide +kernel
theorem dX11_mostSpecial_88 : decode cX11_mostSpecial 88 = .ok (.getfield 11, 3) := by decide +kernel
theorem dX11_mostSpecial_91 : decode cX11_mostSpecial 91 = .ok (.iload 8, 2) := by decide +kernel
theorem dX11_mostSpecial_93 : decode cX11_mostSpecial 93 = .ok (.aaload, 1) := by decide +kernel
theorem dX11_mostSpecial_94 : decode cX11_mostSpecial 94 = .ok (.aload_n 2, 1) := by decide +kernel
theorem dX11_mostSpecial_95 : decode cX11_mostSpecial 95 = .ok (.invokevirtual 184, 3) := by decide +kernel
theorem dX11_mostSpecial_98 : decode cX11_mostSpecial 98 = .ok (.astore 9, 2) := by decide +kernel
theorem dX11_mostSpecial_100 : decode cX11_mostSpecial 100 = .ok (.aload 9, 2) := by decide +kernel
theorem dX11_mostSpecial_102 : decode cX11_mostSpecial 102 = .ok (.ifnull 37, 3) := by decide +kernel
theorem dX11_mostSpecial_105 : decode cX11_mostSpecial 105 = .ok (.aload 9, 2) := by decide +kernel
theorem dX11_mostSpecial_107 : decode cX11_mostSpecial 107 = .ok (.getfield 162, 3) := by decide +kernel
theorem dX11_mostSpecial_110 : decode cX11_mostSpecial 110 = .ok (.ifCond .ne 29, 3) := by decide +kernel
theorem dX11_mostSpecial_113 : decode cX11_mostSpecial 113 = .ok (.aload 9, 2) := by decide +kernel
theorem dX11_mostSpecial_115 : decode cX11_mostSpecial 115 = .ok (.getfield 109, 3) := by decide +kernel
theorem dX11_mostSpecial_118 : decode cX11_mostSpecial 118 = .ok (.ifCond .eq 21, 3) := by decide +kernel
theorem dX11_mostSpecial_121 : decode cX11_mostSpecial 121 = .ok (.aload_n 0, 1) := by decide +kernel
theorem dX11_mostSpecial_122 : decode cX11_mostSpecial 122 = .ok (.getfield 57, 3) := by decide +kernel
theorem dX11_mostSpecial_125 : decode cX11_mostSpecial 125 = .ok (.iload 8, 2) := by decide +kernel
theorem dX11_mostSpecial_127 : decode cX11_mostSpecial 127 = .ok (.aload 9, 2) := by decide +kernel
theorem dX11_mostSpecial_129 : decode cX11_mostSpecial 129 = .ok (.aastore, 1) := by decide +kernel
theorem dX11_mostSpecial_130 : decode cX11_mostSpecial 130 = .ok (.lload 5, 2) := by decide +kernel
theorem dX11_mostSpecial_132 : decode cX11_mostSpecial 132 = .ok (.lconst 1, 1) := by decide +kernel
theorem dX11_mostSpecial_133 : decode cX11_mostSpecial 133 = .ok (.iload 8, 2) := by decide +kernel
theorem dX11_mostSpecial_135 : decode cX11_mostSpecial 135 = .ok (.lshl, 1) := by decide +kernel
theorem dX11_mostSpecial_136 : decode cX11_mostSpecial 136 = .ok (.lor, 1) := by decide +kernel
theorem dX11_mostSpecial_137 : decode cX11_mostSpecial 137 = .ok (.lstore 5, 2) := by decide +kernel
theorem dX11_mostSpecial_139 : decode cX11_mostSpecial 139 = .ok (.iinc 7 1, 3) := by decide +kernel
theorem dX11_mostSpecial_142 : decode cX11_mostSpecial 142 = .ok (.goto (-82), 3) := by decide +kernel
theorem dX11_mostSpecial_145 : decode cX11_mostSpecial 145 = .ok (.iconst 0, 1) := by decide +kernel
theorem dX11_mostSpecial_146 : decode cX11_mostSpecial 146 = .ok (.istore 7, 2) := by decide +kernel
theorem dX11_mostSpecial_148 : decode cX11_mostSpecial 148 = .ok (.iconst 0, 1) := by decide +kernel
theorem dX11_mostSpecial_149 : decode cX11_mostSpecial 149 = .ok (.istore 8, 2) := by decide +kernel
theorem dX11_mostSpecial_151 : decode cX11_mostSpecial 151 = .ok (.iload 8, 2) := by decide +kernel
theorem dX11_mostSpecial_153 : decode cX11_mostSpecial 153 = .ok (.aload_n 0, 1) := by decide +kernel
theorem dX11_mostSpecial_154 : decode cX11_mostSpecial 154 = .ok (.getfield 123, 3) := by decide +kernel
theorem dX11_mostSpecial_157 : decode cX11_mostSpecial 157 = .ok (.if_icmp .ge 130, 3) := by decide +kernel
theorem dX11_mostSpecial_160 : decode cX11_mostSpecial 160 = .ok (.aload_n 0, 1) := by decide +kernel
theorem dX11_mostSpecial_161 : decode cX11_mostSpecial 161 = .ok (.getfield 57, 3) := by decide +kernel
theorem dX11_mostSpecial_164 : decode cX11_mostSpecial 164 = .ok (.iload 8, 2) := by decide +kernel
theorem dX11_mostSpecial_166 : decode cX11_mostSpecial 166 = .ok (.aaload, 1) := by decide +kernel
theorem dX11_mostSpecial_167 : decode cX11_mostSpecial 167 = .ok (.ifnull 16, 3) := by decide +kernel
theorem dX11_mostSpecial_170 : decode cX11_mostSpecial 170 = .ok (.aload_n 0, 1) := by decide +kernel
theorem dX11_mostSpecial_171 : decode cX11_mostSpecial 171 = .ok (.getfield 57, 3) := by decide +kernel
theorem dX11_mostSpecial_174 : decode cX11_mostSpecial 174 = .ok (.iload 8, 2) := by decide +kernel
theorem dX11_mostSpecial_176 : decode cX11_mostSpecial 176 = .ok (.aaload, 1) := by decide +kernel
theorem dX11_mostSpecial_177 : decode cX11_mostSpecial 177 = .ok (.getfield 187, 3) := by decide +kernel
theorem dX11_mostSpecial_180 : decode cX11_mostSpecial 180 = .ok (.ifCond .eq 7, 3) := by decide +kernel
theorem dX11_mostSpecial_183 : decode cX11_mostSpecial 183 = .ok (.iconst 1, 1) := by decide +kernel
theorem dX11_mostSpecial_184 : decode cX11_mostSpecial 184 = .ok (.goto 4, 3) := by decide +kernel
theorem dX11_mostSpecial_187 : decode cX11_mostSpecial 187 = .ok (.iconst 0, 1) := by decide +kernel
theorem dX11_mostSpecial_188 : decode cX11_mostSpecial 188 = .ok (.istore 9, 2) := by decide +kernel
theorem dX11_mostSpecial_190 : decode cX11_mostSpecial 190 = .ok (.iconst 0, 1) := by decide +kernel
theorem dX11_mostSpecial_191 : decode cX11_mostSpecial 191 = .ok (.istore 10, 2) := by decide +kernel
theorem dX11_mostSpecial_193 : decode cX11_mostSpecial 193 = .ok (.iload 10, 2) := by decide +kernel
theorem dX11_mostSpecial_195 : decode cX11_mostSpecial 195 = .ok (.aload_n 0, 1) := by decide +kernel
theorem dX11_mostSpecial_196 : decode cX11_mostSpecial 196 = .ok (.getfield 123, 3) := by decide +kernel
theorem dX11_mostSpecial_199 : decode cX11_mostSpecial 199 = .ok (.if_icmp .ge 57, 3) := by decide +kernel
theorem dX11_mostSpecial_202 : decode cX11_mostSpecial 202 = .ok (.iload 9, 2) := by decide +kernel
theorem dX11_mostSpecial_204 : decode cX11_mostSpecial 204 = .ok (.ifCond .ne 52, 3) := by decide +kernel
theorem dX11_mostSpecial_207 : decode cX11_mostSpecial 207 = .ok (.iload 10, 2) := by decide +kernel
theorem dX11_mostSpecial_209 : decode cX11_mostSpecial 209 = .ok (.iload 8, 2) := by decide +kernel
theorem dX11_mostSpecial_211 : decode cX11_mostSpecial 211 = .ok (.if_icmp .eq 36, 3) := by decide +kernel
theorem dX11_mostSpecial_214 : decode cX11_mostSpecial 214 = .ok (.lload 5, 2) := by decide +kernel
theorem dX11_mostSpecial_216 : decode cX11_mostSpecial 216 = .ok (.iload 10, 2) := by decide +kernel
theorem dX11_mostSpecial_218 : decode cX11_mostSpecial 218 = .ok (.lushr, 1) := by decide +kernel
theorem dX11_mostSpecial_219 : decode cX11_mostSpecial 219 = .ok (.lconst 1, 1) := by decide +kernel
theorem dX11_mostSpecial_220 : decode cX11_mostSpecial 220 = .ok (.land, 1) := by decide +kernel
theorem dX11_mostSpecial_221 : decode cX11_mostSpecial 221 = .ok (.lconst 0, 1) := by decide +kernel
theorem dX11_mostSpecial_222 : decode cX11_mostSpecial 222 = .ok (.lcmp, 1) := by decide +kernel
theorem dX11_mostSpecial_223 : decode cX11_mostSpecial 223 = .ok (.ifCond .eq 24, 3) := by decide +kernel
theorem dX11_mostSpecial_226 : decode cX11_mostSpecial 226 = .ok (.aload_n 0, 1) := by decide +kernel
theorem dX11_mostSpecial_227 : decode cX11_mostSpecial 227 = .ok (.getfield 36, 3) := by decide +kernel
theorem dX11_mostSpecial_230 : decode cX11_mostSpecial 230 = .ok (.iload 10, 2) := by decide +kernel
theorem dX11_mostSpecial_232 : decode cX11_mostSpecial 232 = .ok (.laload, 1) := by decide +kernel
theorem dX11_mostSpecial_233 : decode cX11_mostSpecial 233 = .ok (.iload 8, 2) := by decide +kernel
theorem dX11_mostSpecial_235 : decode cX11_mostSpecial 235 = .ok (.lushr, 1) := by decide +kernel
theorem dX11_mostSpecial_236 : decode cX11_mostSpecial 236 = .ok (.lconst 1, 1) := by decide +kernel
theorem dX11_mostSpecial_237 : decode cX11_mostSpecial 237 = .ok (.land, 1) := by decide +kernel
theorem dX11_mostSpecial_238 : decode cX11_mostSpecial 238 = .ok (.lconst 0, 1) := by decide +kernel
theorem dX11_mostSpecial_239 : decode cX11_mostSpecial 239 = .ok (.lcmp, 1) := by decide +kernel
theorem dX11_mostSpecial_240 : decode cX11_mostSpecial 240 = .ok (.ifCond .eq 7, 3) := by decide +kernel
theorem dX11_mostSpecial_243 : decode cX11_mostSpecial 243 = .ok (.iconst 1, 1) := by decide +kernel
theorem dX11_mostSpecial_244 : decode cX11_mostSpecial 244 = .ok (.goto 4, 3) := by decide +kernel
theorem dX11_mostSpecial_247 : decode cX11_mostSpecial 247 = .ok (.iconst 0, 1) := by decide +kernel
theorem dX11_mostSpecial_248 : decode cX11_mostSpecial 248 = .ok (.istore 9, 2) := by decide +kernel
theorem dX11_mostSpecial_250 : decode cX11_mostSpecial 250 = .ok (.iinc 10 1, 3) := by decide +kernel
theorem dX11_mostSpecial_253 : decode cX11_mostSpecial 253 = .ok (.goto (-60), 3) := by decide +kernel
theorem dX11_mostSpecial_256 : decode cX11_mostSpecial 256 = .ok (.iload 9, 2) := by decide +kernel
theorem dX11_mostSpecial_258 : decode cX11_mostSpecial 258 = .ok (.ifCond .ne 23, 3) := by decide +kernel
theorem dX11_mostSpecial_261 : decode cX11_mostSpecial 261 = .ok (.iinc 7 1, 3) := by decide +kernel
theorem dX11_mostSpecial_264 : decode cX11_mostSpecial 264 = .ok (.aload_n 0, 1) := by decide +kernel
theorem dX11_mostSpecial_265 : decode cX11_mostSpecial 265 = .ok (.aload_n 0, 1) := by decide +kernel
theorem dX11_mostSpecial_266 : decode cX11_mostSpecial 266 = .ok (.getfield 57, 3) := by decide +kernel
theorem dX11_mostSpecial_269 : decode cX11_mostSpecial 269 = .ok (.iload 8, 2) := by decide +kernel
theorem dX11_mostSpecial_271 : decode cX11_mostSpecial 271 = .ok (.aaload, 1) := by decide +kernel
theorem dX11_mostSpecial_272 : decode cX11_mostSpecial 272 = .ok (.putfield 190, 3) := by decide +kernel
theorem dX11_mostSpecial_275 : decode cX11_mostSpecial 275 = .ok (.aload_n 0, 1) := by decide +kernel
theorem dX11_mostSpecial_276 : decode cX11_mostSpecial 276 = .ok (.iload 8, 2) := by decide +kernel
theorem dX11_mostSpecial_278 : decode cX11_mostSpecial 278 = .ok (.putfield 173, 3) := by decide +kernel
theorem dX11_mostSpecial_281 : decode cX11_mostSpecial 281 = .ok (.iinc 8 1, 3) := by decide +kernel
theorem dX11_mostSpecial_284 : decode cX11_mostSpecial 284 = .ok (.goto (-133), 3) := by decide +kernel
theorem dX11_mostSpecial_287 : decode cX11_mostSpecial 287 = .ok (.iload 7, 2) := by decide +kernel
theorem dX11_mostSpecial_289 : decode cX11_mostSpecial 289 = .ok (.ireturn, 1) := by decide +kernel
theorem dX11_overrides_0 : decode cX11_overrides 0 = .ok (.iconst 0, 1) := by decide +kernel
theorem dX11_overrides_1 : decode cX11_overrides 1 = .ok (.istore 4, 2) := by decide +kernel
theorem dX11_overrides_3 : decode cX11_overrides 3 = .ok (.iload_n 1, 1) := by decide +kernel
theorem dX11_overrides_4 : decode cX11_overrides 4 = .ok (.istore 5, 2) := by decide +kernel
theorem dX11_overrides_6 : decode cX11_overrides 6 = .ok (.iconst 0, 1) := by decide +kernel
theorem dX11_overrides_7 : decode cX11_overrides 7 = .ok (.istore 6, 2) := by decide +kernel
theorem dX11_overrides_9 : decode cX11_overrides 9 = .ok (.iload 6, 2) := by decide +kernel
theorem dX11_overrides_11 : decode cX11_overrides 11 = .ok (.aload_n 0, 1) := by decide +kernel
theorem dX11_overrides_12 : decode cX11_overrides 12 = .ok (.getfield 21, 3) := by decide +kernel
theorem dX11_overrides_15 : decode cX11_overrides 15 = .ok (.iload_n 1, 1) := by decide +kernel
theorem dX11_overrides_16 : decode cX11_overrides 16 = .ok (.iaload, 1) := by decide +kernel
theorem dX11_overrides_17 : decode cX11_overrides 17 = .ok (.if_icmp .ge 36, 3) := by decide +kernel
theorem dX11_overrides_20 : decode cX11_overrides 20 = .ok (.iload 5, 2) := by decide +kernel
theorem dX11_overrides_22 : decode cX11_overrides 22 = .ok (.iload_n 2, 1) := by decide +kernel
theorem dX11_overrides_23 : decode cX11_overrides 23 = .ok (.if_icmp .eq 30, 3) := by decide +kernel
theorem dX11_overrides_26 : decode cX11_overrides 26 = .ok (.aload_n 0, 1) := by decide +kernel
theorem dX11_overrides_27 : decode cX11_overrides 27 = .ok (.getfield 46, 3) := by decide +kernel
theorem dX11_overrides_30 : decode cX11_overrides 30 = .ok (.iload 4, 2) := by decide +kernel
theorem dX11_overrides_32 : decode cX11_overrides 32 = .ok (.iload 5, 2) := by decide +kernel
theorem dX11_overrides_34 : decode cX11_overrides 34 = .ok (.iastore, 1) := by decide +kernel
theorem dX11_overrides_35 : decode cX11_overrides 35 = .ok (.iinc 4 1, 3) := by decide +kernel
theorem dX11_overrides_38 : decode cX11_overrides 38 = .ok (.aload_n 0, 1) := by decide +kernel
theorem dX11_overrides_39 : decode cX11_overrides 39 = .ok (.getfield 17, 3) := by decide +kernel
theorem dX11_overrides_42 : decode cX11_overrides 42 = .ok (.iload 5, 2) := by decide +kernel
theorem dX11_overrides_44 : decode cX11_overrides 44 = .ok (.iaload, 1) := by decide +kernel
theorem dX11_overrides_45 : decode cX11_overrides 45 = .ok (.istore 5, 2) := by decide +kernel
theorem dX11_overrides_47 : decode cX11_overrides 47 = .ok (.iinc 6 1, 3) := by decide +kernel
theorem dX11_overrides_50 : decode cX11_overrides 50 = .ok (.goto (-41), 3) := by decide +kernel
theorem dX11_overrides_53 : decode cX11_overrides 53 = .ok (.iload 5, 2) := by decide +kernel
theorem dX11_overrides_55 : decode cX11_overrides 55 = .ok (.iload_n 2, 1) := by decide +kernel
theorem dX11_overrides_56 : decode cX11_overrides 56 = .ok (.if_icmp .ne 8, 3) := by decide +kernel
theorem dX11_overrides_59 : decode cX11_overrides 59 = .ok (.iload 4, 2) := by decide +kernel
theorem dX11_overrides_61 : decode cX11_overrides 61 = .ok (.ifCond .ne 5, 3) := by decide +kernel
theorem dX11_overrides_64 : decode cX11_overrides 64 = .ok (.iconst 0, 1) := by decide +kernel
theorem dX11_overrides_65 : decode cX11_overrides 65 = .ok (.ireturn, 1) := by decide +kernel
theorem dX11_overrides_66 : decode cX11_overrides 66 = .ok (.aload_n 3, 1) := by decide +kernel
theorem dX11_overrides_67 : decode cX11_overrides 67 = .ok (.getfield 109, 3) := by decide +kernel
theorem dX11_overrides_70 : decode cX11_overrides 70 = .ok (.iconst 2, 1) := by decide +kernel
theorem dX11_overrides_71 : decode cX11_overrides 71 = .ok (.if_icmp .lt 7, 3) := by decide +kernel
theorem dX11_overrides_74 : decode cX11_overrides 74 = .ok (.iconst 1, 1) := by decide +kernel
theorem dX11_overrides_75 : decode cX11_overrides 75 = .ok (.goto 4, 3) := by decide +kernel
theorem dX11_overrides_78 : decode cX11_overrides 78 = .ok (.iconst 0, 1) := by decide +kernel
theorem dX11_overrides_79 : decode cX11_overrides 79 = .ok (.istore 6, 2) := by decide +kernel
theorem dX11_overrides_81 : decode cX11_overrides 81 = .ok (.iconst 1, 1) := by decide +kernel
theorem dX11_overrides_82 : decode cX11_overrides 82 = .ok (.aload_n 0, 1) := by decide +kernel
theorem dX11_overrides_83 : decode cX11_overrides 83 = .ok (.getfield 11, 3) := by decide +kernel
theorem dX11_overrides_86 : decode cX11_overrides 86 = .ok (.iload_n 2, 1) := by decide +kernel
theorem dX11_overrides_87 : decode cX11_overrides 87 = .ok (.aaload, 1) := by decide +kernel
theorem dX11_overrides_88 : decode cX11_overrides 88 = .ok (.getfield 76, 3) := by decide +kernel
theorem dX11_overrides_91 : decode cX11_overrides 91 = .ok (.bipush 59, 2) := by decide +kernel
theorem dX11_overrides_93 : decode cX11_overrides 93 = .ok (.lushr, 1) := by decide +kernel
theorem dX11_overrides_94 : decode cX11_overrides 94 = .ok (.l2i, 1) := by decide +kernel
theorem dX11_overrides_95 : decode cX11_overrides 95 = .ok (.ishl, 1) := by decide +kernel
theorem dX11_overrides_96 : decode cX11_overrides 96 = .ok (.istore 7, 2) := by decide +kernel
theorem dX11_overrides_98 : decode cX11_overrides 98 = .ok (.iconst 0, 1) := by decide +kernel
theorem dX11_overrides_99 : decode cX11_overrides 99 = .ok (.istore 8, 2) := by decide +kernel
theorem dX11_overrides_101 : decode cX11_overrides 101 = .ok (.iload 4, 2) := by decide +kernel
theorem dX11_overrides_103 : decode cX11_overrides 103 = .ok (.iconst 1, 1) := by decide +kernel
theorem dX11_overrides_104 : decode cX11_overrides 104 = .ok (.isub, 1) := by decide +kernel
theorem dX11_overrides_105 : decode cX11_overrides 105 = .ok (.istore 9, 2) := by decide +kernel
theorem dX11_overrides_107 : decode cX11_overrides 107 = .ok (.iload 9, 2) := by decide +kernel
theorem dX11_overrides_109 : decode cX11_overrides 109 = .ok (.ifCond .lt 114, 3) := by decide +kernel
theorem dX11_overrides_112 : decode cX11_overrides 112 = .ok (.aload_n 0, 1) := by decide +kernel
theorem dX11_overrides_113 : decode cX11_overrides 113 = .ok (.getfield 11, 3) := by decide +kernel
theorem dX11_overrides_116 : decode cX11_overrides 116 = .ok (.aload_n 0, 1) := by decide +kernel
theorem dX11_overrides_117 : decode cX11_overrides 117 = .ok (.getfield 46, 3) := by decide +kernel
theorem dX11_overrides_120 : decode cX11_overrides 120 = .ok (.iload 9, 2) := by decide +kernel
theorem dX11_overrides_122 : decode cX11_overrides 122 = .ok (.iaload, 1) := by decide +kernel
theorem dX11_overrides_123 : decode cX11_overrides 123 = .ok (.aaload, 1) := by decide +kernel
theorem dX11_overrides_124 : decode cX11_overrides 124 = .ok (.aload_n 3, 1) := by decide +kernel
theorem dX11_overrides_125 : decode cX11_overrides 125 = .ok (.invokevirtual 184, 3) := by decide +kernel
theorem dX11_overrides_128 : decode cX11_overrides 128 = .ok (.astore 10, 2) := by decide +kernel
theorem dX11_overrides_130 : decode cX11_overrides 130 = .ok (.iconst 1, 1) := by decide +kernel
theorem dX11_overrides_131 : decode cX11_overrides 131 = .ok (.aload_n 0, 1) := by decide +kernel
theorem dX11_overrides_132 : decode cX11_overrides 132 = .ok (.getfield 11, 3) := by decide +kernel
theorem dX11_overrides_135 : decode cX11_overrides 135 = .ok (.aload_n 0, 1) := by decide +kernel
theorem dX11_overrides_136 : decode cX11_overrides 136 = .ok (.getfield 46, 3) := by decide +kernel
theorem dX11_overrides_139 : decode cX11_overrides 139 = .ok (.iload 9, 2) := by decide +kernel
theorem dX11_overrides_141 : decode cX11_overrides 141 = .ok (.iaload, 1) := by decide +kernel
theorem dX11_overrides_142 : decode cX11_overrides 142 = .ok (.aaload, 1) := by decide +kernel
theorem dX11_overrides_143 : decode cX11_overrides 143 = .ok (.getfield 76, 3) := by decide +kernel
theorem dX11_overrides_146 : decode cX11_overrides 146 = .ok (.bipush 59, 2) := by decide +kernel
theorem dX11_overrides_148 : decode cX11_overrides 148 = .ok (.lushr, 1) := by decide +kernel
theorem dX11_overrides_149 : decode cX11_overrides 149 = .ok (.l2i, 1) := by decide +kernel
theorem dX11_overrides_150 : decode cX11_overrides 150 = .ok (.ishl, 1) := by decide +kernel
theorem dX11_overrides_151 : decode cX11_overrides 151 = .ok (.istore 11, 2) := by decide +kernel
theorem dX11_overrides_153 : decode cX11_overrides 153 = .ok (.aload 10, 2) := by decide +kernel
theorem dX11_overrides_155 : decode cX11_overrides 155 = .ok (.ifnull 28, 3) := by decide +kernel
theorem dX11_overrides_158 : decode cX11_overrides 158 = .ok (.aload 10, 2) := by decide +kernel
theorem dX11_overrides_160 : decode cX11_overrides 160 = .ok (.invokevirtual 194, 3) := by decide +kernel
theorem dX11_overrides_163 : decode cX11_overrides 163 = .ok (.ifCond .eq 20, 3) := by decide +kernel
theorem dX11_overrides_166 : decode cX11_overrides 166 = .ok (.iload 6, 2) := by decide +kernel
theorem dX11_overrides_168 : decode cX11_overrides 168 = .ok (.ifCond .ne 11, 3) := by decide +kernel
theorem dX11_overrides_171 : decode cX11_overrides 171 = .ok (.iload 7, 2) := by decide +kernel
theorem dX11_overrides_173 : decode cX11_overrides 173 = .ok (.iload 11, 2) := by decide +kernel
theorem dX11_overrides_175 : decode cX11_overrides 175 = .ok (.iand, 1) := by decide +kernel
theorem dX11_overrides_176 : decode cX11_overrides 176 = .ok (.ifCond .eq 7, 3) := by decide +kernel
theorem dX11_overrides_179 : decode cX11_overrides 179 = .ok (.iconst 1, 1) := by decide +kernel
theorem dX11_overrides_180 : decode cX11_overrides 180 = .ok (.goto 4, 3) := by decide +kernel
theorem dX11_overrides_183 : decode cX11_overrides 183 = .ok (.iconst 0, 1) := by decide +kernel
theorem dX11_overrides_184 : decode cX11_overrides 184 = .ok (.istore 8, 2) := by decide +kernel
theorem dX11_overrides_186 : decode cX11_overrides 186 = .ok (.iload 8, 2) := by decide +kernel
theorem dX11_overrides_188 : decode cX11_overrides 188 = .ok (.ifCond .eq 29, 3) := by decide +kernel
theorem dX11_overrides_191 : decode cX11_overrides 191 = .ok (.iload 6, 2) := by decide +kernel
theorem dX11_overrides_193 : decode cX11_overrides 193 = .ok (.aload 10, 2) := by decide +kernel
theorem dX11_overrides_195 : decode cX11_overrides 195 = .ok (.getfield 109, 3) := by decide +kernel
theorem dX11_overrides_198 : decode cX11_overrides 198 = .ok (.iconst 2, 1) := by decide +kernel
theorem dX11_overrides_199 : decode cX11_overrides 199 = .ok (.if_icmp .lt 7, 3) := by decide +kernel
theorem dX11_overrides_202 : decode cX11_overrides 202 = .ok (.iconst 1, 1) := by decide +kernel
theorem dX11_overrides_203 : decode cX11_overrides 203 = .ok (.goto 4, 3) := by decide +kernel
theorem dX11_overrides_206 : decode cX11_overrides 206 = .ok (.iconst 0, 1) := by decide +kernel
theorem dX11_overrides_207 : decode cX11_overrides 207 = .ok (.ior, 1) := by decide +kernel
theorem dX11_overrides_208 : decode cX11_overrides 208 = .ok (.istore 6, 2) := by decide +kernel
theorem dX11_overrides_210 : decode cX11_overrides 210 = .ok (.iload 7, 2) := by decide +kernel
theorem dX11_overrides_212 : decode cX11_overrides 212 = .ok (.iload 11, 2) := by decide +kernel
theorem dX11_overrides_214 : decode cX11_overrides 214 = .ok (.ior, 1) := by decide +kernel
theorem dX11_overrides_215 : decode cX11_overrides 215 = .ok (.istore 7, 2) := by decide +kernel
theorem dX11_overrides_217 : decode cX11_overrides 217 = .ok (.iinc 9 (-1), 3) := by decide +kernel
theorem dX11_overrides_220 : decode cX11_overrides 220 = .ok (.goto (-113), 3) := by decide +kernel
theorem dX11_overrides_223 : decode cX11_overrides 223 = .ok (.iload 8, 2) := by decide +kernel
theorem dX11_overrides_225 : decode cX11_overrides 225 = .ok (.ireturn, 1) := by decide +kernel
theorem dX11_selected_0 : decode cX11_selected 0 = .ok (.aload_n 0, 1) := by decide +kernel
theorem dX11_selected_1 : decode cX11_selected 1 = .ok (.iload_n 2, 1) := by decide +kernel
theorem dX11_selected_2 : decode cX11_selected 2 = .ok (.putfield 173, 3) := by decide +kernel
theorem dX11_selected_5 : decode cX11_selected 5 = .ok (.aload_n 1, 1) := by decide +kernel
theorem dX11_selected_6 : decode cX11_selected 6 = .ok (.getfield 109, 3) := by decide +kernel
theorem dX11_selected_9 : decode cX11_selected 9 = .ok (.ifCond .ne 5, 3) := by decide +kernel
theorem dX11_selected_12 : decode cX11_selected 12 = .ok (.aload_n 1, 1) := by decide +kernel
theorem dX11_selected_13 : decode cX11_selected 13 = .ok (.areturn, 1) := by decide +kernel
theorem dX11_selected_14 : decode cX11_selected 14 = .ok (.iload_n 3, 1) := by decide +kernel
theorem dX11_selected_15 : decode cX11_selected 15 = .ok (.istore 4, 2) := by decide +kernel
theorem dX11_selected_17 : decode cX11_selected 17 = .ok (.iconst 0, 1) := by decide +kernel
theorem dX11_selected_18 : decode cX11_selected 18 = .ok (.istore 5, 2) := by decide +kernel
theorem dX11_selected_20 : decode cX11_selected 20 = .ok (.iload 5, 2) := by decide +kernel
theorem dX11_selected_22 : decode cX11_selected 22 = .ok (.aload_n 0, 1) := by decide +kernel
theorem dX11_selected_23 : decode cX11_selected 23 = .ok (.getfield 21, 3) := by decide +kernel
theorem dX11_selected_26 : decode cX11_selected 26 = .ok (.iload_n 3, 1) := by decide +kernel
theorem dX11_selected_27 : decode cX11_selected 27 = .ok (.iaload, 1) := by decide +kernel
theorem dX11_selected_28 : decode cX11_selected 28 = .ok (.if_icmp .gt 105, 3) := by decide +kernel
theorem dX11_selected_31 : decode cX11_selected 31 = .ok (.iload 4, 2) := by decide +kernel
theorem dX11_selected_33 : decode cX11_selected 33 = .ok (.ifCond .lt 100, 3) := by decide +kernel
theorem dX11_selected_36 : decode cX11_selected 36 = .ok (.aload_n 0, 1) := by decide +kernel
theorem dX11_selected_37 : decode cX11_selected 37 = .ok (.getfield 11, 3) := by decide +kernel
theorem dX11_selected_40 : decode cX11_selected 40 = .ok (.iload 4, 2) := by decide +kernel
theorem dX11_selected_42 : decode cX11_selected 42 = .ok (.aaload, 1) := by decide +kernel
theorem dX11_selected_43 : decode cX11_selected 43 = .ok (.aload_n 1, 1) := by decide +kernel
theorem dX11_selected_44 : decode cX11_selected 44 = .ok (.invokevirtual 184, 3) := by decide +kernel
theorem dX11_selected_47 : decode cX11_selected 47 = .ok (.astore 6, 2) := by decide +kernel
theorem dX11_selected_49 : decode cX11_selected 49 = .ok (.aload 6, 2) := by decide +kernel
theorem dX11_selected_51 : decode cX11_selected 51 = .ok (.ifnull 67, 3) := by decide +kernel
theorem dX11_selected_54 : decode cX11_selected 54 = .ok (.aload 6, 2) := by decide +kernel
theorem dX11_selected_56 : decode cX11_selected 56 = .ok (.invokevirtual 194, 3) := by decide +kernel
theorem dX11_selected_59 : decode cX11_selected 59 = .ok (.ifCond .eq 59, 3) := by decide +kernel
theorem dX11_selected_62 : decode cX11_selected 62 = .ok (.iload 4, 2) := by decide +kernel
theorem dX11_selected_64 : decode cX11_selected 64 = .ok (.iload_n 2, 1) := by decide +kernel
theorem dX11_selected_65 : decode cX11_selected 65 = .ok (.if_icmp .eq 26, 3) := by decide +kernel
theorem dX11_selected_68 : decode cX11_selected 68 = .ok (.aload_n 0, 1) := by decide +kernel
theorem dX11_selected_69 : decode cX11_selected 69 = .ok (.getfield 11, 3) := by decide +kernel
theorem dX11_selected_72 : decode cX11_selected 72 = .ok (.iload_n 2, 1) := by decide +kernel
theorem dX11_selected_73 : decode cX11_selected 73 = .ok (.aaload, 1) := by decide +kernel
theorem dX11_selected_74 : decode cX11_selected 74 = .ok (.getfield 132, 3) := by decide +kernel
theorem dX11_selected_77 : decode cX11_selected 77 = .ok (.ifCond .ne 14, 3) := by decide +kernel
theorem dX11_selected_80 : decode cX11_selected 80 = .ok (.aload_n 0, 1) := by decide +kernel
theorem dX11_selected_81 : decode cX11_selected 81 = .ok (.iload 4, 2) := by decide +kernel
theorem dX11_selected_83 : decode cX11_selected 83 = .ok (.iload_n 2, 1) := by decide +kernel
theorem dX11_selected_84 : decode cX11_selected 84 = .ok (.aload_n 1, 1) := by decide +kernel
theorem dX11_selected_85 : decode cX11_selected 85 = .ok (.invokevirtual 198, 3) := by decide +kernel
theorem dX11_selected_88 : decode cX11_selected 88 = .ok (.ifCond .eq 30, 3) := by decide +kernel
theorem dX11_selected_91 : decode cX11_selected 91 = .ok (.aload_n 0, 1) := by decide +kernel
theorem dX11_selected_92 : decode cX11_selected 92 = .ok (.iload 4, 2) := by decide +kernel
theorem dX11_selected_94 : decode cX11_selected 94 = .ok (.putfield 173, 3) := by decide +kernel
theorem dX11_selected_97 : decode cX11_selected 97 = .ok (.aload_n 0, 1) := by decide +kernel
theorem dX11_selected_98 : decode cX11_selected 98 = .ok (.bipush 6, 2) := by decide +kernel
theorem dX11_selected_100 : decode cX11_selected 100 = .ok (.putfield 202, 3) := by decide +kernel
theorem dX11_selected_103 : decode cX11_selected 103 = .ok (.aload 6, 2) := by decide +kernel
theorem dX11_selected_105 : decode cX11_selected 105 = .ok (.getfield 187, 3) := by decide +kernel
theorem dX11_selected_108 : decode cX11_selected 108 = .ok (.ifCond .eq 7, 3) := by decide +kernel
theorem dX11_selected_111 : decode cX11_selected 111 = .ok (.aconst_null, 1) := by decide +kernel
theorem dX11_selected_112 : decode cX11_selected 112 = .ok (.goto 5, 3) := by decide +kernel
theorem dX11_selected_115 : decode cX11_selected 115 = .ok (.aload 6, 2) := by decide +kernel
theorem dX11_selected_117 : decode cX11_selected 117 = .ok (.areturn, 1) := by decide +kernel
theorem dX11_selected_118 : decode cX11_selected 118 = .ok (.aload_n 0, 1) := by decide +kernel
theorem dX11_selected_119 : decode cX11_selected 119 = .ok (.getfield 17, 3) := by decide +kernel
theorem dX11_selected_122 : decode cX11_selected 122 = .ok (.iload 4, 2) := by decide +kernel
theorem dX11_selected_124 : decode cX11_selected 124 = .ok (.iaload, 1) := by decide +kernel
theorem dX11_selected_125 : decode cX11_selected 125 = .ok (.istore 4, 2) := by decide +kernel
theorem dX11_selected_127 : decode cX11_selected 127 = .ok (.iinc 5 1, 3) := by decide +kernel
theorem dX11_selected_130 : decode cX11_selected 130 = .ok (.goto (-110), 3) := by decide +kernel
theorem dX11_selected_133 : decode cX11_selected 133 = .ok (.aload_n 0, 1) := by decide +kernel
theorem dX11_selected_134 : decode cX11_selected 134 = .ok (.iload_n 3, 1) := by decide +kernel
theorem dX11_selected_135 : decode cX11_selected 135 = .ok (.aload_n 1, 1) := by decide +kernel
theorem dX11_selected_136 : decode cX11_selected 136 = .ok (.invokevirtual 205, 3) := by decide +kernel
theorem dX11_selected_139 : decode cX11_selected 139 = .ok (.istore 5, 2) := by decide +kernel
theorem dX11_selected_141 : decode cX11_selected 141 = .ok (.aload_n 0, 1) := by decide +kernel
theorem dX11_selected_142 : decode cX11_selected 142 = .ok (.iload 5, 2) := by decide +kernel
theorem dX11_selected_144 : decode cX11_selected 144 = .ok (.iconst 1, 1) := by decide +kernel
theorem dX11_selected_145 : decode cX11_selected 145 = .ok (.if_icmp .le 7, 3) := by decide +kernel
theorem dX11_selected_148 : decode cX11_selected 148 = .ok (.iconst 3, 1) := by decide +kernel
theorem dX11_selected_149 : decode cX11_selected 149 = .ok (.goto 5, 3) := by decide +kernel
theorem dX11_selected_152 : decode cX11_selected 152 = .ok (.bipush 6, 2) := by decide +kernel
theorem dX11_selected_154 : decode cX11_selected 154 = .ok (.putfield 202, 3) := by decide +kernel
theorem dX11_selected_157 : decode cX11_selected 157 = .ok (.iload 5, 2) := by decide +kernel
theorem dX11_selected_159 : decode cX11_selected 159 = .ok (.iconst 1, 1) := by decide +kernel
theorem dX11_selected_160 : decode cX11_selected 160 = .ok (.if_icmp .ne 10, 3) := by decide +kernel
theorem dX11_selected_163 : decode cX11_selected 163 = .ok (.aload_n 0, 1) := by decide +kernel
theorem dX11_selected_164 : decode cX11_selected 164 = .ok (.getfield 190, 3) := by decide +kernel
theorem dX11_selected_167 : decode cX11_selected 167 = .ok (.goto 4, 3) := by decide +kernel
theorem dX11_selected_170 : decode cX11_selected 170 = .ok (.aconst_null, 1) := by decide +kernel
theorem dX11_selected_171 : decode cX11_selected 171 = .ok (.areturn, 1) := by decide +kernel
theorem dX12_init_0 : decode cX12_init 0 = .ok (.aload_n 0, 1) := by decide +kernel
theorem dX12_init_1 : decode cX12_init 1 = .ok (.invokespecial 3, 3) := by decide +kernel
theorem dX12_init_4 : decode cX12_init 4 = .ok (.aload_n 0, 1) := by decide +kernel
theorem dX12_init_5 : decode cX12_init 5 = .ok (.sipush 4000, 3) := by decide +kernel
theorem dX12_init_8 : decode cX12_init 8 = .ok (.newarray .byte, 2) := by decide +kernel
theorem dX12_init_10 : decode cX12_init 10 = .ok (.putfield 9, 3) := by decide +kernel
theorem dX12_init_13 : decode cX12_init 13 = .ok (.aload_n 0, 1) := by decide +kernel
theorem dX12_init_14 : decode cX12_init 14 = .ok (.sipush 600, 3) := by decide +kernel
theorem dX12_init_17 : decode cX12_init 17 = .ok (.newarray .byte, 2) := by decide +kernel
theorem dX12_init_19 : decode cX12_init 19 = .ok (.putfield 13, 3) := by decide +kernel
theorem dX12_init_22 : decode cX12_init 22 = .ok (.aload_n 0, 1) := by decide +kernel
theorem dX12_init_23 : decode cX12_init 23 = .ok (.bipush 17, 2) := by decide +kernel
theorem dX12_init_25 : decode cX12_init 25 = .ok (.anewarray 16, 3) := by decide +kernel
theorem dX12_init_28 : decode cX12_init 28 = .ok (.putfield 18, 3) := by decide +kernel
theorem dX12_init_31 : decode cX12_init 31 = .ok (.aload_n 0, 1) := by decide +kernel
theorem dX12_init_32 : decode cX12_init 32 = .ok (.iconst 5, 1) := by decide +kernel
theorem dX12_init_33 : decode cX12_init 33 = .ok (.newarray .int, 2) := by decide +kernel
theorem dX12_init_35 : decode cX12_init 35 = .ok (.putfield 22, 3) := by decide +kernel
theorem dX12_init_38 : decode cX12_init 38 = .ok (.aload_n 0, 1) := by decide +kernel
theorem dX12_init_39 : decode cX12_init 39 = .ok (.iconst 5, 1) := by decide +kernel
theorem dX12_init_40 : decode cX12_init 40 = .ok (.newarray .int, 2) := by decide +kernel
theorem dX12_init_42 : decode cX12_init 42 = .ok (.putfield 26, 3) := by decide +kernel
theorem dX12_init_45 : decode cX12_init 45 = .ok (.aload_n 0, 1) := by decide +kernel
theorem dX12_init_46 : decode cX12_init 46 = .ok (.iconst 5, 1) := by decide +kernel
theorem dX12_init_47 : decode cX12_init 47 = .ok (.newarray .int, 2) := by decide +kernel
theorem dX12_init_49 : decode cX12_init 49 = .ok (.putfield 29, 3) := by decide +kernel
theorem dX12_init_52 : decode cX12_init 52 = .ok (.aload_n 0, 1) := by decide +kernel
theorem dX12_init_53 : decode cX12_init 53 = .ok (.new 32, 3) := by decide +kernel
theorem dX12_init_56 : decode cX12_init 56 = .ok (.dup, 1) := by decide +kernel
theorem dX12_init_57 : decode cX12_init 57 = .ok (.invokespecial 34, 3) := by decide +kernel
theorem dX12_init_60 : decode cX12_init 60 = .ok (.putfield 35, 3) := by decide +kernel
theorem dX12_init_63 : decode cX12_init 63 = .ok (.aload_n 0, 1) := by decide +kernel
theorem dX12_init_64 : decode cX12_init 64 = .ok (.new 39, 3) := by decide +kernel
theorem dX12_init_67 : decode cX12_init 67 = .ok (.dup, 1) := by decide +kernel
theorem dX12_init_68 : decode cX12_init 68 = .ok (.invokespecial 41, 3) := by decide +kernel
theorem dX12_init_71 : decode cX12_init 71 = .ok (.putfield 42, 3) := by decide +kernel
theorem dX12_init_74 : decode cX12_init 74 = .ok (.aload_n 0, 1) := by decide +kernel
theorem dX12_init_75 : decode cX12_init 75 = .ok (.new 46, 3) := by decide +kernel
theorem dX12_init_78 : decode cX12_init 78 = .ok (.dup, 1) := by decide +kernel
theorem dX12_init_79 : decode cX12_init 79 = .ok (.invokespecial 48, 3) := by decide +kernel
theorem dX12_init_82 : decode cX12_init 82 = .ok (.putfield 49, 3) := by decide +kernel
theorem dX12_init_85 : decode cX12_init 85 = .ok (.aload_n 0, 1) := by decide +kernel
theorem dX12_init_86 : decode cX12_init 86 = .ok (.new 53, 3) := by decide +kernel
theorem dX12_init_89 : decode cX12_init 89 = .ok (.dup, 1) := by decide +kernel
theorem dX12_init_90 : decode cX12_init 90 = .ok (.invokespecial 55, 3) := by decide +kernel
theorem dX12_init_93 : decode cX12_init 93 = .ok (.putfield 56, 3) := by decide +kernel
theorem dX12_init_96 : decode cX12_init 96 = .ok (.aload_n 0, 1) := by decide +kernel
theorem dX12_init_97 : decode cX12_init 97 = .ok (.bipush (-2), 2) := by decide +kernel
theorem dX12_init_99 : decode cX12_init 99 = .ok (.putfield 60, 3) := by decide +kernel
theorem dX12_init_102 : decode cX12_init 102 = .ok (.aload_n 0, 1) := by decide +kernel
theorem dX12_init_103 : decode cX12_init 103 = .ok (.new 64, 3) := by decide +kernel
theorem dX12_init_106 : decode cX12_init 106 = .ok (.dup, 1) := by decide +kernel
theorem dX12_init_107 : decode cX12_init 107 = .ok (.invokespecial 66, 3) := by decide +kernel
theorem dX12_init_110 : decode cX12_init 110 = .ok (.putfield 67, 3) := by decide +kernel
theorem dX12_init_113 : decode cX12_init 113 = .ok (.aload_n 0, 1) := by decide +kernel
theorem dX12_init_114 : decode cX12_init 114 = .ok (.new 64, 3) := by decide +kernel
theorem dX12_init_117 : decode cX12_init 117 = .ok (.dup, 1) := by decide +kernel
theorem dX12_init_118 : decode cX12_init 118 = .ok (.invokespecial 66, 3) := by decide +kernel
theorem dX12_init_121 : decode cX12_init 121 = .ok (.putfield 71, 3) := by decide +kernel
theorem dX12_init_124 : decode cX12_init 124 = .ok (.aload_n 0, 1) := by decide +kernel
theorem dX12_init_125 : decode cX12_init 125 = .ok (.new 74, 3) := by decide +kernel
theorem dX12_init_128 : decode cX12_init 128 = .ok (.dup, 1) := by decide +kernel
theorem dX12_init_129 : decode cX12_init 129 = .ok (.iconst 0, 1) := by decide +kernel
theorem dX12_init_130 : decode cX12_init 130 = .ok (.invokespecial 76, 3) := by decide +kernel
theorem dX12_init_133 : decode cX12_init 133 = .ok (.putfield 79, 3) := by decide +kernel
theorem dX12_init_136 : decode cX12_init 136 = .ok (.aload_n 0, 1) := by decide +kernel
theorem dX12_init_137 : decode cX12_init 137 = .ok (.new 74, 3) := by decide +kernel
theorem dX12_init_140 : decode cX12_init 140 = .ok (.dup, 1) := by decide +kernel
theorem dX12_init_141 : decode cX12_init 141 = .ok (.iconst 0, 1) := by decide +kernel
theorem dX12_init_142 : decode cX12_init 142 = .ok (.invokespecial 76, 3) := by decide +kernel
theorem dX12_init_145 : decode cX12_init 145 = .ok (.putfield 83, 3) := by decide +kernel
theorem dX12_init_148 : decode cX12_init 148 = .ok (.aload_n 0, 1) := by decide +kernel
theorem dX12_init_149 : decode cX12_init 149 = .ok (.sipush 14820, 3) := by decide +kernel
theorem dX12_init_152 : decode cX12_init 152 = .ok (.newarray .int, 2) := by decide +kernel
theorem dX12_init_154 : decode cX12_init 154 = .ok (.putfield 86, 3) := by decide +kernel
theorem dX12_init_157 : decode cX12_init 157 = .ok (.aload_n 0, 1) := by decide +kernel
theorem dX12_init_158 : decode cX12_init 158 = .ok (.new 89, 3) := by decide +kernel
theorem dX12_init_161 : decode cX12_init 161 = .ok (.dup, 1) := by decide +kernel
theorem dX12_init_162 : decode cX12_init 162 = .ok (.invokespecial 91, 3) := by decide +kernel
theorem dX12_init_165 : decode cX12_init 165 = .ok (.putfield 92, 3) := by decide +kernel
theorem dX12_init_168 : decode cX12_init 168 = .ok (.aload_n 0, 1) := by decide +kernel
theorem dX12_init_169 : decode cX12_init 169 = .ok (.new 96, 3) := by decide +kernel
theorem dX12_init_172 : decode cX12_init 172 = .ok (.dup, 1) := by decide +kernel
theorem dX12_init_173 : decode cX12_init 173 = .ok (.invokespecial 98, 3) := by decide +kernel
theorem dX12_init_176 : decode cX12_init 176 = .ok (.putfield 99, 3) := by decide +kernel
theorem dX12_init_179 : decode cX12_init 179 = .ok (.iconst 0, 1) := by decide +kernel
theorem dX12_init_180 : decode cX12_init 180 = .ok (.istore_n 1, 1) := by decide +kernel
theorem dX12_init_181 : decode cX12_init 181 = .ok (.iload_n 1, 1) := by decide +kernel
theorem dX12_init_182 : decode cX12_init 182 = .ok (.aload_n 0, 1) := by decide +kernel
theorem dX12_init_183 : decode cX12_init 183 = .ok (.getfield 18, 3) := by decide +kernel
theorem dX12_init_186 : decode cX12_init 186 = .ok (.arraylength, 1) := by decide +kernel
theorem dX12_init_187 : decode cX12_init 187 = .ok (.if_icmp .ge 39, 3) := by decide +kernel
theorem dX12_init_190 : decode cX12_init 190 = .ok (.aload_n 0, 1) := by decide +kernel
theorem dX12_init_191 : decode cX12_init 191 = .ok (.getfield 18, 3) := by decide +kernel
theorem dX12_init_194 : decode cX12_init 194 = .ok (.iload_n 1, 1) := by decide +kernel
theorem dX12_init_195 : decode cX12_init 195 = .ok (.new 16, 3) := by decide +kernel
theorem dX12_init_198 : decode cX12_init 198 = .ok (.dup, 1) := by decide +kernel
theorem dX12_init_199 : decode cX12_init 199 = .ok (.bipush 12, 2) := by decide +kernel
theorem dX12_init_201 : decode cX12_init 201 = .ok (.sipush 408, 3) := by decide +kernel
theorem dX12_init_204 : decode cX12_init 204 = .ok (.sipush 4000, 3) := by decide +kernel
theorem dX12_init_207 : decode cX12_init 207 = .ok (.sipush 700, 3) := by decide +kernel
theorem dX12_init_210 : decode cX12_init 210 = .ok (.sipush 988, 3) := by decide +kernel
theorem dX12_init_213 : decode cX12_init 213 = .ok (.sipush 4816, 3) := by decide +kernel
theorem dX12_init_216 : decode cX12_init 216 = .ok (.invokespecial 103, 3) := by decide +kernel
theorem dX12_init_219 : decode cX12_init 219 = .ok (.aastore, 1) := by decide +kernel
theorem dX12_init_220 : decode cX12_init 220 = .ok (.iinc 1 1, 3) := by decide +kernel
theorem dX12_init_223 : decode cX12_init 223 = .ok (.goto (-42), 3) := by decide +kernel
theorem dX12_init_226 : decode cX12_init 226 = .ok (.aload_n 0, 1) := by decide +kernel
theorem dX12_init_227 : decode cX12_init 227 = .ok (.getfield 26, 3) := by decide +kernel
theorem dX12_init_230 : decode cX12_init 230 = .ok (.bipush (-2), 2) := by decide +kernel
theorem dX12_init_232 : decode cX12_init 232 = .ok (.invokestatic 106, 3) := by decide +kernel
theorem dX12_init_235 : decode cX12_init 235 = .ok (.aload_n 0, 1) := by decide +kernel
theorem dX12_init_236 : decode cX12_init 236 = .ok (.aload_n 0, 1) := by decide +kernel
theorem dX12_init_237 : decode cX12_init 237 = .ok (.getfield 67, 3) := by decide +kernel
theorem dX12_init_240 : decode cX12_init 240 = .ok (.aload_n 0, 1) := by decide +kernel
theorem dX12_init_241 : decode cX12_init 241 = .ok (.getfield 26, 3) := by decide +kernel
theorem dX12_init_244 : decode cX12_init 244 = .ok (.invokevirtual 112, 3) := by decide +kernel
theorem dX12_init_247 : decode cX12_init 247 = .ok (.aload_n 0, 1) := by decide +kernel
theorem dX12_init_248 : decode cX12_init 248 = .ok (.getfield 99, 3) := by decide +kernel
theorem dX12_init_251 : decode cX12_init 251 = .ok (.aload_n 0, 1) := by decide +kernel
theorem dX12_init_252 : decode cX12_init 252 = .ok (.getfield 67, 3) := by decide +kernel
theorem dX12_init_255 : decode cX12_init 255 = .ok (.invokevirtual 116, 3) := by decide +kernel
theorem dX12_init_258 : decode cX12_init 258 = .ok (.return_, 1) := by decide +kernel
theorem dX12_feed_0 : decode cX12_feed 0 = .ok (.aload_n 0, 1) := by decide +kernel
theorem dX12_feed_1 : decode cX12_feed 1 = .ok (.getfield 120, 3) := by decide +kernel
theorem dX12_feed_4 : decode cX12_feed 4 = .ok (.bipush 20, 2) := by decide +kernel
theorem dX12_feed_6 : decode cX12_feed 6 = .ok (.iadd, 1) := by decide +kernel
theorem dX12_feed_7 : decode cX12_feed 7 = .ok (.sipush 4000, 3) := by decide +kernel
theorem dX12_feed_10 : decode cX12_feed 10 = .ok (.if_icmp .le 6, 3) := by decide +kernel
theorem dX12_feed_13 : decode cX12_feed 13 = .ok (.bipush (-3), 2) := by decide +kernel
theorem dX12_feed_15 : decode cX12_feed 15 = .ok (.ireturn, 1) := by decide +kernel
theorem dX12_feed_16 : decode cX12_feed 16 = .ok (.aload_n 0, 1) := by decide +kernel
theorem dX12_feed_17 : decode cX12_feed 17 = .ok (.iload_n 1, 1) := by decide +kernel
theorem dX12_feed_18 : decode cX12_feed 18 = .ok (.invokevirtual 123, 3) := by decide +kernel
theorem dX12_feed_21 : decode cX12_feed 21 = .ok (.aload_n 0, 1) := by decide +kernel
theorem dX12_feed_22 : decode cX12_feed 22 = .ok (.iload_n 2, 1) := by decide +kernel
theorem dX12_feed_23 : decode cX12_feed 23 = .ok (.invokevirtual 123, 3) := by decide +kernel
theorem dX12_feed_26 : decode cX12_feed 26 = .ok (.aload_n 0, 1) := by decide +kernel
theorem dX12_feed_27 : decode cX12_feed 27 = .ok (.iload_n 3, 1) := by decide +kernel
theorem dX12_feed_28 : decode cX12_feed 28 = .ok (.invokevirtual 123, 3) := by decide +kernel
theorem dX12_feed_31 : decode cX12_feed 31 = .ok (.aload_n 0, 1) := by decide +kernel
theorem dX12_feed_32 : decode cX12_feed 32 = .ok (.iload 4, 2) := by decide +kernel
theorem dX12_feed_34 : decode cX12_feed 34 = .ok (.invokevirtual 123, 3) := by decide +kernel
theorem dX12_feed_37 : decode cX12_feed 37 = .ok (.aload_n 0, 1) := by decide +kernel
theorem dX12_feed_38 : decode cX12_feed 38 = .ok (.iload 5, 2) := by decide +kernel
theorem dX12_feed_40 : decode cX12_feed 40 = .ok (.invokevirtual 123, 3) := by decide +kernel
theorem dX12_feed_43 : decode cX12_feed 43 = .ok (.aload_n 0, 1) := by decide +kernel
theorem dX12_feed_44 : decode cX12_feed 44 = .ok (.getfield 120, 3) := by decide +kernel
theorem dX12_feed_47 : decode cX12_feed 47 = .ok (.ireturn, 1) := by decide +kernel
theorem dX12_fourBytes_0 : decode cX12_fourBytes 0 = .ok (.bipush 24, 2) := by decide +kernel
theorem dX12_fourBytes_2 : decode cX12_fourBytes 2 = .ok (.istore_n 2, 1) := by decide +kernel
theorem dX12_fourBytes_3 : decode cX12_fourBytes 3 = .ok (.iload_n 2, 1) := by decide +kernel
theorem dX12_fourBytes_4 : decode cX12_fourBytes 4 = .ok (.ifCond .lt 42, 3) := by decide +kernel
theorem dX12_fourBytes_7 : decode cX12_fourBytes 7 = .ok (.aload_n 0, 1) := by decide +kernel
theorem dX12_fourBytes_8 : decode cX12_fourBytes 8 = .ok (.getfield 120, 3) := by decide +kernel
theorem dX12_fourBytes_11 : decode cX12_fourBytes 11 = .ok (.sipush 4000, 3) := by decide +kernel
theorem dX12_fourBytes_14 : decode cX12_fourBytes 14 = .ok (.if_icmp .ge 32, 3) := by decide +kernel
theorem dX12_fourBytes_17 : decode cX12_fourBytes 17 = .ok (.aload_n 0, 1) := by decide +kernel
theorem dX12_fourBytes_18 : decode cX12_fourBytes 18 = .ok (.getfield 9, 3) := by decide +kernel
theorem dX12_fourBytes_21 : decode cX12_fourBytes 21 = .ok (.aload_n 0, 1) := by decide +kernel
theorem dX12_fourBytes_22 : decode cX12_fourBytes 22 = .ok (.getfield 120, 3) := by decide +kernel
theorem dX12_fourBytes_25 : decode cX12_fourBytes 25 = .ok (.iload_n 1, 1) := by decide +kernel
theorem dX12_fourBytes_26 : decode cX12_fourBytes 26 = .ok (.iload_n 2, 1) := by decide +kernel
theorem dX12_fourBytes_27 : decode cX12_fourBytes 27 = .ok (.iushr, 1) := by decide +kernel
theorem dX12_fourBytes_28 : decode cX12_fourBytes 28 = .ok (.i2b, 1) := by decide +kernel
theorem dX12_fourBytes_29 : decode cX12_fourBytes 29 = .ok (.bastore, 1) := by decide +kernel
theorem dX12_fourBytes_30 : decode cX12_fourBytes 30 = .ok (.aload_n 0, 1) := by decide +kernel
theorem dX12_fourBytes_31 : decode cX12_fourBytes 31 = .ok (.dup, 1) := by decide +kernel
theorem dX12_fourBytes_32 : decode cX12_fourBytes 32 = .ok (.getfield 120, 3) := by decide +kernel
theorem dX12_fourBytes_35 : decode cX12_fourBytes 35 = .ok (.iconst 1, 1) := by decide +kernel
theorem dX12_fourBytes_36 : decode cX12_fourBytes 36 = .ok (.iadd, 1) := by decide +kernel
theorem dX12_fourBytes_37 : decode cX12_fourBytes 37 = .ok (.putfield 120, 3) := by decide +kernel
theorem dX12_fourBytes_40 : decode cX12_fourBytes 40 = .ok (.iinc 2 (-8), 3) := by decide +kernel
theorem dX12_fourBytes_43 : decode cX12_fourBytes 43 = .ok (.goto (-40), 3) := by decide +kernel
theorem dX12_fourBytes_46 : decode cX12_fourBytes 46 = .ok (.return_, 1) := by decide +kernel
theorem dX12_cut_0 : decode cX12_cut 0 = .ok (.iload_n 1, 1) := by decide +kernel
theorem dX12_cut_1 : decode cX12_cut 1 = .ok (.ifCond .lt 11, 3) := by decide +kernel
theorem dX12_cut_4 : decode cX12_cut 4 = .ok (.iload_n 1, 1) := by decide +kernel
theorem dX12_cut_5 : decode cX12_cut 5 = .ok (.aload_n 0, 1) := by decide +kernel
theorem dX12_cut_6 : decode cX12_cut 6 = .ok (.getfield 120, 3) := by decide +kernel
theorem dX12_cut_9 : decode cX12_cut 9 = .ok (.if_icmp .le 5, 3) := by decide +kernel
theorem dX12_cut_12 : decode cX12_cut 12 = .ok (.iconst (-1), 1) := by decide +kernel
theorem dX12_cut_13 : decode cX12_cut 13 = .ok (.ireturn, 1) := by decide +kernel
theorem dX12_cut_14 : decode cX12_cut 14 = .ok (.aload_n 0, 1) := by decide +kernel
theorem dX12_cut_15 : decode cX12_cut 15 = .ok (.dup, 1) := by decide +kernel
theorem dX12_cut_16 : decode cX12_cut 16 = .ok (.getfield 120, 3) := by decide +kernel
theorem dX12_cut_19 : decode cX12_cut 19 = .ok (.iload_n 1, 1) := by decide +kernel
theorem dX12_cut_20 : decode cX12_cut 20 = .ok (.isub, 1) := by decide +kernel
theorem dX12_cut_21 : decode cX12_cut 21 = .ok (.putfield 120, 3) := by decide +kernel
theorem dX12_cut_24 : decode cX12_cut 24 = .ok (.aload_n 0, 1) := by decide +kernel
theorem dX12_cut_25 : decode cX12_cut 25 = .ok (.getfield 120, 3) := by decide +kernel
theorem dX12_cut_28 : decode cX12_cut 28 = .ok (.ireturn, 1) := by decide +kernel
theorem dX12_splice_0 : decode cX12_splice 0 = .ok (.iload_n 3, 1) := by decide +kernel
theorem dX12_splice_1 : decode cX12_splice 1 = .ok (.ifCond .lt 11, 3) := by decide +kernel
theorem dX12_splice_4 : decode cX12_splice 4 = .ok (.iload_n 3, 1) := by decide +kernel
theorem dX12_splice_5 : decode cX12_splice 5 = .ok (.aload_n 0, 1) := by decide +kernel
theorem dX12_splice_6 : decode cX12_splice 6 = .ok (.getfield 120, 3) := by decide +kernel
theorem dX12_splice_9 : decode cX12_splice 9 = .ok (.if_icmp .le 5, 3) := by decide +kernel
theorem dX12_splice_12 : decode cX12_splice 12 = .ok (.iconst (-1), 1) := by decide +kernel
theorem dX12_splice_13 : decode cX12_splice 13 = .ok (.ireturn, 1) := by decide +kernel
theorem dX12_splice_14 : decode cX12_splice 14 = .ok (.aload_n 0, 1) := by decide +kernel
theorem dX12_splice_15 : decode cX12_splice 15 = .ok (.getfield 120, 3) := by decide +kernel
theorem dX12_splice_18 : decode cX12_splice 18 = .ok (.iload_n 3, 1) := by decide +kernel
theorem dX12_splice_19 : decode cX12_splice 19 = .ok (.isub, 1) := by decide +kernel
theorem dX12_splice_20 : decode cX12_splice 20 = .ok (.istore 4, 2) := by decide +kernel
theorem dX12_splice_22 : decode cX12_splice 22 = .ok (.iload_n 1, 1) := by decide +kernel
theorem dX12_splice_23 : decode cX12_splice 23 = .ok (.ifCond .lt 21, 3) := by decide +kernel
theorem dX12_splice_26 : decode cX12_splice 26 = .ok (.iload_n 1, 1) := by decide +kernel
theorem dX12_splice_27 : decode cX12_splice 27 = .ok (.iload 4, 2) := by decide +kernel
theorem dX12_splice_29 : decode cX12_splice 29 = .ok (.if_icmp .gt 15, 3) := by decide +kernel
theorem dX12_splice_32 : decode cX12_splice 32 = .ok (.iload_n 2, 1) := by decide +kernel
theorem dX12_splice_33 : decode cX12_splice 33 = .ok (.ifCond .lt 11, 3) := by decide +kernel
theorem dX12_splice_36 : decode cX12_splice 36 = .ok (.iload_n 2, 1) := by decide +kernel
theorem dX12_splice_37 : decode cX12_splice 37 = .ok (.iload 4, 2) := by decide +kernel
theorem dX12_splice_39 : decode cX12_splice 39 = .ok (.iload_n 1, 1) := by decide +kernel
theorem dX12_splice_40 : decode cX12_splice 40 = .ok (.isub, 1) := by decide +kernel
theorem dX12_splice_41 : decode cX12_splice 41 = .ok (.if_icmp .le 5, 3) := by decide +kernel
theorem dX12_splice_44 : decode cX12_splice 44 = .ok (.iconst (-1), 1) := by decide +kernel
theorem dX12_splice_45 : decode cX12_splice 45 = .ok (.ireturn, 1) := by decide +kernel
theorem dX12_splice_46 : decode cX12_splice 46 = .ok (.aload_n 0, 1) := by decide +kernel
theorem dX12_splice_47 : decode cX12_splice 47 = .ok (.invokevirtual 126, 3) := by decide +kernel
theorem dX12_splice_50 : decode cX12_splice 50 = .ok (.getfield 130, 3) := by decide +kernel
theorem dX12_splice_53 : decode cX12_splice 53 = .ok (.astore 5, 2) := by decide +kernel
theorem dX12_splice_55 : decode cX12_splice 55 = .ok (.aload_n 0, 1) := by decide +kernel
theorem dX12_splice_56 : decode cX12_splice 56 = .ok (.getfield 9, 3) := by decide +kernel
theorem dX12_splice_59 : decode cX12_splice 59 = .ok (.iload 4, 2) := by decide +kernel
theorem dX12_splice_61 : decode cX12_splice 61 = .ok (.aload 5, 2) := by decide +kernel
theorem dX12_splice_63 : decode cX12_splice 63 = .ok (.iconst 0, 1) := by decide +kernel
theorem dX12_splice_64 : decode cX12_splice 64 = .ok (.iload_n 3, 1) := by decide +kernel
theorem dX12_splice_65 : decode cX12_splice 65 = .ok (.invokestatic 133, 3) := by decide +kernel
theorem dX12_splice_68 : decode cX12_splice 68 = .ok (.aload_n 0, 1) := by decide +kernel
theorem dX12_splice_69 : decode cX12_splice 69 = .ok (.getfield 9, 3) := by decide +kernel
theorem dX12_splice_72 : decode cX12_splice 72 = .ok (.iload_n 1, 1) := by decide +kernel
theorem dX12_splice_73 : decode cX12_splice 73 = .ok (.iload_n 2, 1) := by decide +kernel
theorem dX12_splice_74 : decode cX12_splice 74 = .ok (.iadd, 1) := by decide +kernel
theorem dX12_splice_75 : decode cX12_splice 75 = .ok (.aload_n 0, 1) := by decide +kernel
theorem dX12_splice_76 : decode cX12_splice 76 = .ok (.getfield 9, 3) := by decide +kernel
theorem dX12_splice_79 : decode cX12_splice 79 = .ok (.iload_n 1, 1) := by decide +kernel
theorem dX12_splice_80 : decode cX12_splice 80 = .ok (.iload_n 3, 1) := by decide +kernel
theorem dX12_splice_81 : decode cX12_splice 81 = .ok (.iadd, 1) := by decide +kernel
theorem dX12_splice_82 : decode cX12_splice 82 = .ok (.iload 4, 2) := by decide +kernel
theorem dX12_splice_84 : decode cX12_splice 84 = .ok (.iload_n 1, 1) := by decide +kernel
theorem dX12_splice_85 : decode cX12_splice 85 = .ok (.isub, 1) := by decide +kernel
theorem dX12_splice_86 : decode cX12_splice 86 = .ok (.iload_n 2, 1) := by decide +kernel
theorem dX12_splice_87 : decode cX12_splice 87 = .ok (.isub, 1) := by decide +kernel
theorem dX12_splice_88 : decode cX12_splice 88 = .ok (.invokestatic 133, 3) := by decide +kernel
theorem dX12_splice_91 : decode cX12_splice 91 = .ok (.aload 5, 2) := by decide +kernel
theorem dX12_splice_93 : decode cX12_splice 93 = .ok (.iconst 0, 1) := by decide +kernel
theorem dX12_splice_94 : decode cX12_splice 94 = .ok (.aload_n 0, 1) := by decide +kernel
theorem dX12_splice_95 : decode cX12_splice 95 = .ok (.getfield 9, 3) := by decide +kernel
theorem dX12_splice_98 : decode cX12_splice 98 = .ok (.iload_n 1, 1) := by decide +kernel
theorem dX12_splice_99 : decode cX12_splice 99 = .ok (.iload_n 3, 1) := by decide +kernel
theorem dX12_splice_100 : decode cX12_splice 100 = .ok (.invokestatic 133, 3) := by decide +kernel
theorem dX12_splice_103 : decode cX12_splice 103 = .ok (.aload_n 0, 1) := by decide +kernel
theorem dX12_splice_104 : decode cX12_splice 104 = .ok (.dup, 1) := by decide +kernel
theorem dX12_splice_105 : decode cX12_splice 105 = .ok (.getfield 120, 3) := by decide +kernel
theorem dX12_splice_108 : decode cX12_splice 108 = .ok (.iload_n 2, 1) := by decide +kernel
theorem dX12_splice_109 : decode cX12_splice 109 = .ok (.isub, 1) := by decide +kernel
theorem dX12_splice_110 : decode cX12_splice 110 = .ok (.putfield 120, 3) := by decide +kernel
theorem dX12_splice_113 : decode cX12_splice 113 = .ok (.aload_n 0, 1) := by decide +kernel
theorem dX12_splice_114 : decode cX12_splice 114 = .ok (.getfield 120, 3) := by decide +kernel
theorem dX12_splice_117 : decode cX12_splice 117 = .ok (.ireturn, 1) := by decide +kernel
theorem dX12_text_0 : decode cX12_text 0 = .ok (.aload_n 0, 1) := by decide +kernel
theorem dX12_text_1 : decode cX12_text 1 = .ok (.iload_n 1, 1) := by decide +kernel
theorem dX12_text_2 : decode cX12_text 2 = .ok (.iload_n 2, 1) := by decide +kernel
theorem dX12_text_3 : decode cX12_text 3 = .ok (.invokevirtual 139, 3) := by decide +kernel
theorem dX12_text_6 : decode cX12_text 6 = .ok (.astore_n 3, 1) := by decide +kernel
theorem dX12_text_7 : decode cX12_text 7 = .ok (.aload_n 3, 1) := by decide +kernel
theorem dX12_text_8 : decode cX12_text 8 = .ok (.ifnonnull 5, 3) := by decide +kernel
theorem dX12_text_11 : decode cX12_text 11 = .ok (.iconst (-1), 1) := by decide +kernel
theorem dX12_text_12 : decode cX12_text 12 = .ok (.ireturn, 1) := by decide +kernel
theorem dX12_text_13 : decode cX12_text 13 = .ok (.aload_n 3, 1) := by decide +kernel
theorem dX12_text_14 : decode cX12_text 14 = .ok (.getfield 130, 3) := by decide +kernel
theorem dX12_text_17 : decode cX12_text 17 = .ok (.iconst 0, 1) := by decide +kernel
theorem dX12_text_18 : decode cX12_text 18 = .ok (.aload_n 0, 1) := by decide +kernel
theorem dX12_text_19 : decode cX12_text 19 = .ok (.getfield 9, 3) := by decide +kernel
theorem dX12_text_22 : decode cX12_text 22 = .ok (.iconst 0, 1) := by decide +kernel
theorem dX12_text_23 : decode cX12_text 23 = .ok (.aload_n 3, 1) := by decide +kernel
theorem dX12_text_24 : decode cX12_text 24 = .ok (.getfield 143, 3) := by decide +kernel
theorem dX12_text_27 : decode cX12_text 27 = .ok (.invokestatic 133, 3) := by decide +kernel
theorem dX12_text_30 : decode cX12_text 30 = .ok (.aload_n 0, 1) := by decide +kernel
theorem dX12_text_31 : decode cX12_text 31 = .ok (.aload_n 3, 1) := by decide +kernel
theorem dX12_text_32 : decode cX12_text 32 = .ok (.getfield 143, 3) := by decide +kernel
theorem dX12_text_35 : decode cX12_text 35 = .ok (.putfield 120, 3) := by decide +kernel
theorem dX12_text_38 : decode cX12_text 38 = .ok (.aload_n 0, 1) := by decide +kernel
theorem dX12_text_39 : decode cX12_text 39 = .ok (.getfield 120, 3) := by decide +kernel
theorem dX12_text_42 : decode cX12_text 42 = .ok (.ireturn, 1) := by decide +kernel
theorem dX12_size_0 : decode cX12_size 0 = .ok (.aload_n 0, 1) := by decide +kernel
theorem dX12_size_1 : decode cX12_size 1 = .ok (.getfield 146, 3) := by decide +kernel
theorem dX12_size_4 : decode cX12_size 4 = .ok (.ireturn, 1) := by decide +kernel
theorem dX12_octet_0 : decode cX12_octet 0 = .ok (.iload_n 1, 1) := by decide +kernel
theorem dX12_octet_1 : decode cX12_octet 1 = .ok (.ifCond .lt 11, 3) := by decide +kernel
theorem dX12_octet_4 : decode cX12_octet 4 = .ok (.iload_n 1, 1) := by decide +kernel
theorem dX12_octet_5 : decode cX12_octet 5 = .ok (.aload_n 0, 1) := by decide +kernel
theorem dX12_octet_6 : decode cX12_octet 6 = .ok (.getfield 146, 3) := by decide +kernel
theorem dX12_octet_9 : decode cX12_octet 9 = .ok (.if_icmp .lt 7, 3) := by decide +kernel
theorem dX12_octet_12 : decode cX12_octet 12 = .ok (.iconst (-1), 1) := by decide +kernel
theorem dX12_octet_13 : decode cX12_octet 13 = .ok (.goto 13, 3) := by decide +kernel
theorem dX12_octet_16 : decode cX12_octet 16 = .ok (.aload_n 0, 1) := by decide +kernel
theorem dX12_octet_17 : decode cX12_octet 17 = .ok (.getfield 13, 3) := by decide +kernel
theorem dX12_octet_20 : decode cX12_octet 20 = .ok (.iload_n 1, 1) := by decide +kernel
theorem dX12_octet_21 : decode cX12_octet 21 = .ok (.baload, 1) := by decide +kernel
theorem dX12_octet_22 : decode cX12_octet 22 = .ok (.sipush 255, 3) := by decide +kernel
theorem dX12_octet_25 : decode cX12_octet 25 = .ok (.iand, 1) := by decide +kernel
theorem dX12_octet_26 : decode cX12_octet 26 = .ok (.ireturn, 1) := by decide +kernel
theorem dX12_isLibrary_0 : decode cX12_isLibrary 0 = .ok (.iload_n 0, 1) := by decide +kernel
theorem dX12_isLibrary_1 : decode cX12_isLibrary 1 = .ok (.ifCond .lt 12, 3) := by decide +kernel
theorem dX12_isLibrary_4 : decode cX12_isLibrary 4 = .ok (.iload_n 0, 1) := by decide +kernel
theorem dX12_isLibrary_5 : decode cX12_isLibrary 5 = .ok (.iconst 5, 1) := by decide +kernel
theorem dX12_isLibrary_6 : decode cX12_isLibrary 6 = .ok (.if_icmp .ge 7, 3) := by decide +kernel
theorem dX12_isLibrary_9 : decode cX12_isLibrary 9 = .ok (.iconst 1, 1) := by decide +kernel
theorem dX12_isLibrary_10 : decode cX12_isLibrary 10 = .ok (.goto 4, 3) := by decide +kernel
theorem dX12_isLibrary_13 : decode cX12_isLibrary 13 = .ok (.iconst 0, 1) := by decide +kernel
theorem dX12_isLibrary_14 : decode cX12_isLibrary 14 = .ok (.ireturn, 1) := by decide +kernel
theorem dX12_buildOf_0 : decode cX12_buildOf 0 = .ok (.aload_n 0, 1) := by decide +kernel
theorem dX12_buildOf_1 : decode cX12_buildOf 1 = .ok (.invokevirtual 149, 3) := by decide +kernel
theorem dX12_buildOf_4 : decode cX12_buildOf 4 = .ok (.istore_n 3, 1) := by decide +kernel
theorem dX12_buildOf_5 : decode cX12_buildOf 5 = .ok (.iconst 0, 1) := by decide +kernel
theorem dX12_buildOf_6 : decode cX12_buildOf 6 = .ok (.istore 4, 2) := by decide +kernel
theorem dX12_buildOf_8 : decode cX12_buildOf 8 = .ok (.iload 4, 2) := by decide +kernel
theorem dX12_buildOf_10 : decode cX12_buildOf 10 = .ok (.iload_n 3, 1) := by decide +kernel
theorem dX12_buildOf_11 : decode cX12_buildOf 11 = .ok (.if_icmp .ge 45, 3) := by decide +kernel
theorem dX12_buildOf_14 : decode cX12_buildOf 14 = .ok (.aload_n 0, 1) := by decide +kernel
theorem dX12_buildOf_15 : decode cX12_buildOf 15 = .ok (.getfield 18, 3) := by decide +kernel
theorem dX12_buildOf_18 : decode cX12_buildOf 18 = .ok (.iload 4, 2) := by decide +kernel
theorem dX12_buildOf_20 : decode cX12_buildOf 20 = .ok (.aaload, 1) := by decide +kernel
theorem dX12_buildOf_21 : decode cX12_buildOf 21 = .ok (.getfield 153, 3) := by decide +kernel
theorem dX12_buildOf_24 : decode cX12_buildOf 24 = .ok (.iload_n 1, 1) := by decide +kernel
