theorem dX12_name_5 : decode cX12_name 5 = .ok (.aload_n 0, 1) := by decide +kernel
theorem dX12_name_6 : decode cX12_name 6 = .ok (.getfield 67, 3) := by decide +kernel
theorem dX12_name_9 : decode cX12_name 9 = .ok (.getfield 554, 3) := by decide +kernel
theorem dX12_name_12 : decode cX12_name 12 = .ok (.if_icmp .lt 5, 3) := by decide +kernel
theorem dX12_name_15 : decode cX12_name 15 = .ok (.iconst (-1), 1) := by decide +kernel
theorem dX12_name_16 : decode cX12_name 16 = .ok (.ireturn, 1) := by decide +kernel
theorem dX12_name_17 : decode cX12_name 17 = .ok (.aload_n 0, 1) := by decide +kernel
theorem dX12_name_18 : decode cX12_name 18 = .ok (.iconst 0, 1) := by decide +kernel
theorem dX12_name_19 : decode cX12_name 19 = .ok (.putfield 146, 3) := by decide +kernel
theorem dX12_name_22 : decode cX12_name 22 = .ok (.aload_n 0, 1) := by decide +kernel
theorem dX12_name_23 : decode cX12_name 23 = .ok (.aload_n 0, 1) := by decide +kernel
theorem dX12_name_24 : decode cX12_name 24 = .ok (.getfield 67, 3) := by decide +kernel
theorem dX12_name_27 : decode cX12_name 27 = .ok (.getfield 444, 3) := by decide +kernel
theorem dX12_name_30 : decode cX12_name 30 = .ok (.iload_n 1, 1) := by decide +kernel
theorem dX12_name_31 : decode cX12_name 31 = .ok (.aaload, 1) := by decide +kernel
theorem dX12_name_32 : decode cX12_name 32 = .ok (.getfield 278, 3) := by decide +kernel
theorem dX12_name_35 : decode cX12_name 35 = .ok (.invokevirtual 282, 3) := by decide +kernel
theorem dX12_name_38 : decode cX12_name 38 = .ok (.aload_n 0, 1) := by decide +kernel
theorem dX12_name_39 : decode cX12_name 39 = .ok (.getfield 146, 3) := by decide +kernel
theorem dX12_name_42 : decode cX12_name 42 = .ok (.ireturn, 1) := by decide +kernel
theorem dX12_state_0 : decode cX12_state 0 = .ok (.iload_n 1, 1) := by decide +kernel
theorem dX12_state_1 : decode cX12_state 1 = .ok (.ifCond .lt 14, 3) := by decide +kernel
theorem dX12_state_4 : decode cX12_state 4 = .ok (.iload_n 1, 1) := by decide +kernel
theorem dX12_state_5 : decode cX12_state 5 = .ok (.aload_n 0, 1) := by decide +kernel
theorem dX12_state_6 : decode cX12_state 6 = .ok (.getfield 67, 3) := by decide +kernel
theorem dX12_state_9 : decode cX12_state 9 = .ok (.getfield 554, 3) := by decide +kernel
theorem dX12_state_12 : decode cX12_state 12 = .ok (.if_icmp .lt 7, 3) := by decide +kernel
theorem dX12_state_15 : decode cX12_state 15 = .ok (.iconst (-1), 1) := by decide +kernel
theorem dX12_state_16 : decode cX12_state 16 = .ok (.goto 15, 3) := by decide +kernel
theorem dX12_state_19 : decode cX12_state 19 = .ok (.aload_n 0, 1) := by decide +kernel
theorem dX12_state_20 : decode cX12_state 20 = .ok (.getfield 99, 3) := by decide +kernel
theorem dX12_state_23 : decode cX12_state 23 = .ok (.getfield 555, 3) := by decide +kernel
theorem dX12_state_26 : decode cX12_state 26 = .ok (.getfield 616, 3) := by decide +kernel
theorem dX12_state_29 : decode cX12_state 29 = .ok (.iload_n 1, 1) := by decide +kernel
theorem dX12_state_30 : decode cX12_state 30 = .ok (.iaload, 1) := by decide +kernel
theorem dX12_state_31 : decode cX12_state 31 = .ok (.ireturn, 1) := by decide +kernel
theorem dX12_classOf_0 : decode cX12_classOf 0 = .ok (.iload_n 1, 1) := by decide +kernel
theorem dX12_classOf_1 : decode cX12_classOf 1 = .ok (.iconst 1, 1) := by decide +kernel
theorem dX12_classOf_2 : decode cX12_classOf 2 = .ok (.if_icmp .lt 14, 3) := by decide +kernel
theorem dX12_classOf_5 : decode cX12_classOf 5 = .ok (.iload_n 1, 1) := by decide +kernel
theorem dX12_classOf_6 : decode cX12_classOf 6 = .ok (.aload_n 0, 1) := by decide +kernel
theorem dX12_classOf_7 : decode cX12_classOf 7 = .ok (.getfield 99, 3) := by decide +kernel
theorem dX12_classOf_10 : decode cX12_classOf 10 = .ok (.getfield 602, 3) := by decide +kernel
theorem dX12_classOf_13 : decode cX12_classOf 13 = .ok (.if_icmp .le 7, 3) := by decide +kernel
theorem dX12_classOf_16 : decode cX12_classOf 16 = .ok (.iconst (-1), 1) := by decide +kernel
theorem dX12_classOf_17 : decode cX12_classOf 17 = .ok (.goto 12, 3) := by decide +kernel
theorem dX12_classOf_29 : decode cX12_classOf 29 = .ok (.ireturn, 1) := by decide +kernel
theorem dX12_fieldOf_0 : decode cX12_fieldOf 0 = .ok (.iload_n 1, 1) := by decide +kernel
theorem dX12_fieldOf_1 : decode cX12_fieldOf 1 = .ok (.iconst 1, 1) := by decide +kernel
theorem dX12_fieldOf_2 : decode cX12_fieldOf 2 = .ok (.if_icmp .lt 38, 3) := by decide +kernel
theorem dX12_fieldOf_5 : decode cX12_fieldOf 5 = .ok (.iload_n 1, 1) := by decide +kernel
theorem dX12_fieldOf_6 : decode cX12_fieldOf 6 = .ok (.aload_n 0, 1) := by decide +kernel
theorem dX12_fieldOf_7 : decode cX12_fieldOf 7 = .ok (.getfield 99, 3) := by decide +kernel
theorem dX12_fieldOf_10 : decode cX12_fieldOf 10 = .ok (.getfield 602, 3) := by decide +kernel
theorem dX12_fieldOf_13 : decode cX12_fieldOf 13 = .ok (.if_icmp .gt 27, 3) := by decide +kernel
theorem dX12_fieldOf_40 : decode cX12_fieldOf 40 = .ok (.iconst 0, 1) := by decide +kernel
theorem dX12_fieldOf_41 : decode cX12_fieldOf 41 = .ok (.ireturn, 1) := by decide +kernel
theorem dX13_sym_0 : decode cX13_sym 0 = .ok (.iload_n 0, 1) := by decide +kernel
theorem dX13_sym_1 : decode cX13_sym 1 = .ok (.bipush 97, 2) := by decide +kernel
theorem dX13_sym_3 : decode cX13_sym 3 = .ok (.if_icmp .lt 18, 3) := by decide +kernel
theorem dX13_sym_6 : decode cX13_sym 6 = .ok (.iload_n 0, 1) := by decide +kernel
theorem dX13_sym_7 : decode cX13_sym 7 = .ok (.bipush 122, 2) := by decide +kernel
theorem dX13_sym_9 : decode cX13_sym 9 = .ok (.if_icmp .gt 12, 3) := by decide +kernel
theorem dX13_sym_12 : decode cX13_sym 12 = .ok (.iload_n 0, 1) := by decide +kernel
theorem dX13_sym_13 : decode cX13_sym 13 = .ok (.bipush 97, 2) := by decide +kernel
theorem dX13_sym_15 : decode cX13_sym 15 = .ok (.isub, 1) := by decide +kernel
theorem dX13_sym_16 : decode cX13_sym 16 = .ok (.iconst 1, 1) := by decide +kernel
theorem dX13_sym_17 : decode cX13_sym 17 = .ok (.iadd, 1) := by decide +kernel
theorem dX13_sym_18 : decode cX13_sym 18 = .ok (.goto 48, 3) := by decide +kernel
theorem dX13_sym_66 : decode cX13_sym 66 = .ok (.ireturn, 1) := by decide +kernel
theorem dX13_letter_0 : decode cX13_letter 0 = .ok (.iload_n 0, 1) := by decide +kernel
theorem dX13_letter_1 : decode cX13_letter 1 = .ok (.bipush 26, 2) := by decide +kernel
theorem dX13_letter_3 : decode cX13_letter 3 = .ok (.if_icmp .gt 12, 3) := by decide +kernel
theorem dX13_letter_6 : decode cX13_letter 6 = .ok (.bipush 97, 2) := by decide +kernel
theorem dX13_letter_8 : decode cX13_letter 8 = .ok (.iload_n 0, 1) := by decide +kernel
theorem dX13_letter_9 : decode cX13_letter 9 = .ok (.iadd, 1) := by decide +kernel
theorem dX13_letter_10 : decode cX13_letter 10 = .ok (.iconst 1, 1) := by decide +kernel
theorem dX13_letter_11 : decode cX13_letter 11 = .ok (.isub, 1) := by decide +kernel
theorem dX13_letter_12 : decode cX13_letter 12 = .ok (.goto 26, 3) := by decide +kernel
theorem dX13_letter_15 : decode cX13_letter 15 = .ok (.iload_n 0, 1) := by decide +kernel
theorem dX13_letter_16 : decode cX13_letter 16 = .ok (.bipush 52, 2) := by decide +kernel
theorem dX13_letter_18 : decode cX13_letter 18 = .ok (.if_icmp .gt 13, 3) := by decide +kernel
theorem dX13_letter_21 : decode cX13_letter 21 = .ok (.bipush 65, 2) := by decide +kernel
theorem dX13_letter_23 : decode cX13_letter 23 = .ok (.iload_n 0, 1) := by decide +kernel
theorem dX13_letter_24 : decode cX13_letter 24 = .ok (.iadd, 1) := by decide +kernel
theorem dX13_letter_25 : decode cX13_letter 25 = .ok (.bipush 27, 2) := by decide +kernel
theorem dX13_letter_27 : decode cX13_letter 27 = .ok (.isub, 1) := by decide +kernel
theorem dX13_letter_28 : decode cX13_letter 28 = .ok (.goto 10, 3) := by decide +kernel
theorem dX13_letter_38 : decode cX13_letter 38 = .ok (.ireturn, 1) := by decide +kernel
theorem dX13_isC_0 : decode cX13_isC 0 = .ok (.lload_n 0, 1) := by decide +kernel
theorem dX13_isC_1 : decode cX13_isC 1 = .ok (.ldc2_w 5, 3) := by decide +kernel
theorem dX13_isC_4 : decode cX13_isC 4 = .ok (.land, 1) := by decide +kernel
theorem dX13_isC_5 : decode cX13_isC 5 = .ok (.lconst 0, 1) := by decide +kernel
theorem dX13_isC_6 : decode cX13_isC 6 = .ok (.lcmp, 1) := by decide +kernel
theorem dX13_isC_7 : decode cX13_isC 7 = .ok (.ifCond .eq 7, 3) := by decide +kernel
theorem dX13_isC_10 : decode cX13_isC 10 = .ok (.iconst 1, 1) := by decide +kernel
theorem dX13_isC_11 : decode cX13_isC 11 = .ok (.goto 4, 3) := by decide +kernel
theorem dX13_isC_15 : decode cX13_isC 15 = .ok (.ireturn, 1) := by decide +kernel
theorem dX13_outByte_0 : decode cX13_outByte 0 = .ok (.aload_n 0, 1) := by decide +kernel
theorem dX13_outByte_1 : decode cX13_outByte 1 = .ok (.getfield 11, 3) := by decide +kernel
theorem dX13_outByte_4 : decode cX13_outByte 4 = .ok (.aload_n 0, 1) := by decide +kernel
theorem dX13_outByte_5 : decode cX13_outByte 5 = .ok (.getfield 15, 3) := by decide +kernel
theorem dX13_outByte_8 : decode cX13_outByte 8 = .ok (.iload_n 1, 1) := by decide +kernel
theorem dX13_outByte_9 : decode cX13_outByte 9 = .ok (.iastore, 1) := by decide +kernel
theorem dX13_outByte_10 : decode cX13_outByte 10 = .ok (.aload_n 0, 1) := by decide +kernel
theorem dX13_outByte_11 : decode cX13_outByte 11 = .ok (.dup, 1) := by decide +kernel
theorem dX13_outByte_12 : decode cX13_outByte 12 = .ok (.getfield 15, 3) := by decide +kernel
theorem dX13_outByte_15 : decode cX13_outByte 15 = .ok (.iconst 1, 1) := by decide +kernel
theorem dX13_outByte_16 : decode cX13_outByte 16 = .ok (.iadd, 1) := by decide +kernel
theorem dX13_outByte_17 : decode cX13_outByte 17 = .ok (.putfield 15, 3) := by decide +kernel
theorem dX13_outByte_20 : decode cX13_outByte 20 = .ok (.return_, 1) := by decide +kernel
theorem dX13_outName_0 : decode cX13_outName 0 = .ok (.lload_n 1, 1) := by decide +kernel
theorem dX13_outName_1 : decode cX13_outName 1 = .ok (.ldc2_w 7, 3) := by decide +kernel
theorem dX13_outName_4 : decode cX13_outName 4 = .ok (.land, 1) := by decide +kernel
theorem dX13_outName_5 : decode cX13_outName 5 = .ok (.lstore_n 3, 1) := by decide +kernel
theorem dX13_outName_6 : decode cX13_outName 6 = .ok (.iconst 0, 1) := by decide +kernel
theorem dX13_outName_7 : decode cX13_outName 7 = .ok (.istore 5, 2) := by decide +kernel
theorem dX13_outName_9 : decode cX13_outName 9 = .ok (.iload 5, 2) := by decide +kernel
theorem dX13_outName_11 : decode cX13_outName 11 = .ok (.bipush 10, 2) := by decide +kernel
theorem dX13_outName_13 : decode cX13_outName 13 = .ok (.if_icmp .ge 21, 3) := by decide +kernel
theorem dX13_outName_16 : decode cX13_outName 16 = .ok (.lload_n 3, 1) := by decide +kernel
theorem dX13_outName_17 : decode cX13_outName 17 = .ok (.bipush 6, 2) := by decide +kernel
theorem dX13_outName_19 : decode cX13_outName 19 = .ok (.iload 5, 2) := by decide +kernel
theorem dX13_outName_21 : decode cX13_outName 21 = .ok (.imul, 1) := by decide +kernel
theorem dX13_outName_22 : decode cX13_outName 22 = .ok (.lushr, 1) := by decide +kernel
theorem dX13_outName_23 : decode cX13_outName 23 = .ok (.lconst 0, 1) := by decide +kernel
theorem dX13_outName_24 : decode cX13_outName 24 = .ok (.lcmp, 1) := by decide +kernel
theorem dX13_outName_25 : decode cX13_outName 25 = .ok (.ifCond .eq 9, 3) := by decide +kernel
theorem dX13_outName_28 : decode cX13_outName 28 = .ok (.iinc 5 1, 3) := by decide +kernel
theorem dX13_outName_31 : decode cX13_outName 31 = .ok (.goto (-22), 3) := by decide +kernel
theorem dX13_outName_34 : decode cX13_outName 34 = .ok (.iload 5, 2) := by decide +kernel
theorem dX13_outName_36 : decode cX13_outName 36 = .ok (.iconst 1, 1) := by decide +kernel
theorem dX13_outName_37 : decode cX13_outName 37 = .ok (.isub, 1) := by decide +kernel
theorem dX13_outName_38 : decode cX13_outName 38 = .ok (.istore 6, 2) := by decide +kernel
theorem dX13_outName_40 : decode cX13_outName 40 = .ok (.iload 6, 2) := by decide +kernel
theorem dX13_outName_42 : decode cX13_outName 42 = .ok (.ifCond .lt 50, 3) := by decide +kernel
theorem dX13_outName_45 : decode cX13_outName 45 = .ok (.aload_n 0, 1) := by decide +kernel
theorem dX13_outName_46 : decode cX13_outName 46 = .ok (.lload_n 3, 1) := by decide +kernel
theorem dX13_outName_47 : decode cX13_outName 47 = .ok (.bipush 6, 2) := by decide +kernel
theorem dX13_outName_49 : decode cX13_outName 49 = .ok (.iload 6, 2) := by decide +kernel
theorem dX13_outName_51 : decode cX13_outName 51 = .ok (.imul, 1) := by decide +kernel
theorem dX13_outName_52 : decode cX13_outName 52 = .ok (.lushr, 1) := by decide +kernel
theorem dX13_outName_53 : decode cX13_outName 53 = .ok (.ldc2_w 9, 3) := by decide +kernel
theorem dX13_outName_56 : decode cX13_outName 56 = .ok (.land, 1) := by decide +kernel
theorem dX13_outName_57 : decode cX13_outName 57 = .ok (.l2i, 1) := by decide +kernel
theorem dX13_outName_58 : decode cX13_outName 58 = .ok (.invokestatic 33, 3) := by decide +kernel
theorem dX13_outName_61 : decode cX13_outName 61 = .ok (.invokevirtual 29, 3) := by decide +kernel
theorem dX13_outName_64 : decode cX13_outName 64 = .ok (.lload_n 1, 1) := by decide +kernel
theorem dX13_outName_65 : decode cX13_outName 65 = .ok (.invokestatic 37, 3) := by decide +kernel
theorem dX13_outName_68 : decode cX13_outName 68 = .ok (.ifCond .eq 18, 3) := by decide +kernel
theorem dX13_outName_71 : decode cX13_outName 71 = .ok (.iload 6, 2) := by decide +kernel
theorem dX13_outName_73 : decode cX13_outName 73 = .ok (.iload 5, 2) := by decide +kernel
theorem dX13_outName_75 : decode cX13_outName 75 = .ok (.iconst 1, 1) := by decide +kernel
theorem dX13_outName_76 : decode cX13_outName 76 = .ok (.isub, 1) := by decide +kernel
theorem dX13_outName_77 : decode cX13_outName 77 = .ok (.if_icmp .ne 9, 3) := by decide +kernel
theorem dX13_outName_80 : decode cX13_outName 80 = .ok (.aload_n 0, 1) := by decide +kernel
theorem dX13_outName_81 : decode cX13_outName 81 = .ok (.bipush 46, 2) := by decide +kernel
theorem dX13_outName_83 : decode cX13_outName 83 = .ok (.invokevirtual 29, 3) := by decide +kernel
theorem dX13_outName_86 : decode cX13_outName 86 = .ok (.iinc 6 (-1), 3) := by decide +kernel
theorem dX13_outName_89 : decode cX13_outName 89 = .ok (.goto (-49), 3) := by decide +kernel
theorem dX13_outName_92 : decode cX13_outName 92 = .ok (.return_, 1) := by decide +kernel
theorem dX13_feed_0 : decode cX13_feed 0 = .ok (.aload_n 0, 1) := by decide +kernel
theorem dX13_feed_1 : decode cX13_feed 1 = .ok (.getfield 57, 3) := by decide +kernel
theorem dX13_feed_4 : decode cX13_feed 4 = .ok (.bipush 20, 2) := by decide +kernel
theorem dX13_feed_6 : decode cX13_feed 6 = .ok (.iadd, 1) := by decide +kernel
theorem dX13_feed_7 : decode cX13_feed 7 = .ok (.sipush 4000, 3) := by decide +kernel
theorem dX13_feed_10 : decode cX13_feed 10 = .ok (.if_icmp .le 6, 3) := by decide +kernel
theorem dX13_feed_16 : decode cX13_feed 16 = .ok (.aload_n 0, 1) := by decide +kernel
theorem dX13_feed_17 : decode cX13_feed 17 = .ok (.iload_n 1, 1) := by decide +kernel
theorem dX13_feed_18 : decode cX13_feed 18 = .ok (.invokevirtual 60, 3) := by decide +kernel
theorem dX13_feed_21 : decode cX13_feed 21 = .ok (.aload_n 0, 1) := by decide +kernel
theorem dX13_feed_22 : decode cX13_feed 22 = .ok (.iload_n 2, 1) := by decide +kernel
theorem dX13_feed_23 : decode cX13_feed 23 = .ok (.invokevirtual 60, 3) := by decide +kernel
theorem dX13_feed_26 : decode cX13_feed 26 = .ok (.aload_n 0, 1) := by decide +kernel
theorem dX13_feed_27 : decode cX13_feed 27 = .ok (.iload_n 3, 1) := by decide +kernel
theorem dX13_feed_28 : decode cX13_feed 28 = .ok (.invokevirtual 60, 3) := by decide +kernel
theorem dX13_feed_31 : decode cX13_feed 31 = .ok (.aload_n 0, 1) := by decide +kernel
theorem dX13_feed_32 : decode cX13_feed 32 = .ok (.iload 4, 2) := by decide +kernel
theorem dX13_feed_34 : decode cX13_feed 34 = .ok (.invokevirtual 60, 3) := by decide +kernel
theorem dX13_feed_37 : decode cX13_feed 37 = .ok (.aload_n 0, 1) := by decide +kernel
theorem dX13_feed_38 : decode cX13_feed 38 = .ok (.iload 5, 2) := by decide +kernel
theorem dX13_feed_40 : decode cX13_feed 40 = .ok (.invokevirtual 60, 3) := by decide +kernel
theorem dX13_feed_43 : decode cX13_feed 43 = .ok (.aload_n 0, 1) := by decide +kernel
theorem dX13_feed_44 : decode cX13_feed 44 = .ok (.getfield 57, 3) := by decide +kernel
theorem dX13_feed_47 : decode cX13_feed 47 = .ok (.ireturn, 1) := by decide +kernel
theorem dX13_four_0 : decode cX13_four 0 = .ok (.bipush 24, 2) := by decide +kernel
theorem dX13_four_2 : decode cX13_four 2 = .ok (.istore_n 2, 1) := by decide +kernel
theorem dX13_four_3 : decode cX13_four 3 = .ok (.iload_n 2, 1) := by decide +kernel
theorem dX13_four_4 : decode cX13_four 4 = .ok (.ifCond .lt 35, 3) := by decide +kernel
theorem dX13_four_7 : decode cX13_four 7 = .ok (.aload_n 0, 1) := by decide +kernel
theorem dX13_four_8 : decode cX13_four 8 = .ok (.getfield 63, 3) := by decide +kernel
theorem dX13_four_11 : decode cX13_four 11 = .ok (.aload_n 0, 1) := by decide +kernel
theorem dX13_four_12 : decode cX13_four 12 = .ok (.getfield 57, 3) := by decide +kernel
theorem dX13_four_15 : decode cX13_four 15 = .ok (.iload_n 1, 1) := by decide +kernel
theorem dX13_four_16 : decode cX13_four 16 = .ok (.iload_n 2, 1) := by decide +kernel
theorem dX13_four_17 : decode cX13_four 17 = .ok (.iushr, 1) := by decide +kernel
theorem dX13_four_18 : decode cX13_four 18 = .ok (.sipush 255, 3) := by decide +kernel
theorem dX13_four_21 : decode cX13_four 21 = .ok (.iand, 1) := by decide +kernel
theorem dX13_four_22 : decode cX13_four 22 = .ok (.iastore, 1) := by decide +kernel
theorem dX13_four_23 : decode cX13_four 23 = .ok (.aload_n 0, 1) := by decide +kernel
theorem dX13_four_24 : decode cX13_four 24 = .ok (.dup, 1) := by decide +kernel
theorem dX13_four_25 : decode cX13_four 25 = .ok (.getfield 57, 3) := by decide +kernel
theorem dX13_four_28 : decode cX13_four 28 = .ok (.iconst 1, 1) := by decide +kernel
theorem dX13_four_29 : decode cX13_four 29 = .ok (.iadd, 1) := by decide +kernel
theorem dX13_four_30 : decode cX13_four 30 = .ok (.putfield 57, 3) := by decide +kernel
theorem dX13_four_33 : decode cX13_four 33 = .ok (.iinc 2 (-8), 3) := by decide +kernel
theorem dX13_four_36 : decode cX13_four 36 = .ok (.goto (-33), 3) := by decide +kernel
theorem dX13_four_39 : decode cX13_four 39 = .ok (.return_, 1) := by decide +kernel
theorem dX13_cut_0 : decode cX13_cut 0 = .ok (.iload_n 1, 1) := by decide +kernel
theorem dX13_cut_1 : decode cX13_cut 1 = .ok (.ifCond .lt 11, 3) := by decide +kernel
theorem dX13_cut_4 : decode cX13_cut 4 = .ok (.iload_n 1, 1) := by decide +kernel
theorem dX13_cut_5 : decode cX13_cut 5 = .ok (.aload_n 0, 1) := by decide +kernel
theorem dX13_cut_6 : decode cX13_cut 6 = .ok (.getfield 57, 3) := by decide +kernel
theorem dX13_cut_9 : decode cX13_cut 9 = .ok (.if_icmp .le 5, 3) := by decide +kernel
theorem dX13_cut_12 : decode cX13_cut 12 = .ok (.iconst (-1), 1) := by decide +kernel
theorem dX13_cut_13 : decode cX13_cut 13 = .ok (.ireturn, 1) := by decide +kernel
theorem dX13_cut_14 : decode cX13_cut 14 = .ok (.aload_n 0, 1) := by decide +kernel
theorem dX13_cut_15 : decode cX13_cut 15 = .ok (.dup, 1) := by decide +kernel
theorem dX13_cut_16 : decode cX13_cut 16 = .ok (.getfield 57, 3) := by decide +kernel
theorem dX13_cut_19 : decode cX13_cut 19 = .ok (.iload_n 1, 1) := by decide +kernel
theorem dX13_cut_20 : decode cX13_cut 20 = .ok (.isub, 1) := by decide +kernel
theorem dX13_cut_21 : decode cX13_cut 21 = .ok (.putfield 57, 3) := by decide +kernel
theorem dX13_cut_24 : decode cX13_cut 24 = .ok (.aload_n 0, 1) := by decide +kernel
theorem dX13_cut_25 : decode cX13_cut 25 = .ok (.getfield 57, 3) := by decide +kernel
theorem dX13_cut_28 : decode cX13_cut 28 = .ok (.ireturn, 1) := by decide +kernel
theorem dX13_splice_0 : decode cX13_splice 0 = .ok (.iload_n 3, 1) := by decide +kernel
theorem dX13_splice_1 : decode cX13_splice 1 = .ok (.ifCond .lt 41, 3) := by decide +kernel
theorem dX13_splice_4 : decode cX13_splice 4 = .ok (.iload_n 3, 1) := by decide +kernel
theorem dX13_splice_5 : decode cX13_splice 5 = .ok (.aload_n 0, 1) := by decide +kernel
theorem dX13_splice_6 : decode cX13_splice 6 = .ok (.getfield 57, 3) := by decide +kernel
theorem dX13_splice_9 : decode cX13_splice 9 = .ok (.if_icmp .gt 33, 3) := by decide +kernel
theorem dX13_splice_12 : decode cX13_splice 12 = .ok (.iload_n 1, 1) := by decide +kernel
theorem dX13_splice_13 : decode cX13_splice 13 = .ok (.ifCond .lt 29, 3) := by decide +kernel
theorem dX13_splice_16 : decode cX13_splice 16 = .ok (.iload_n 1, 1) := by decide +kernel
theorem dX13_splice_17 : decode cX13_splice 17 = .ok (.aload_n 0, 1) := by decide +kernel
theorem dX13_splice_18 : decode cX13_splice 18 = .ok (.getfield 57, 3) := by decide +kernel
theorem dX13_splice_21 : decode cX13_splice 21 = .ok (.iload_n 3, 1) := by decide +kernel
theorem dX13_splice_22 : decode cX13_splice 22 = .ok (.isub, 1) := by decide +kernel
theorem dX13_splice_23 : decode cX13_splice 23 = .ok (.if_icmp .gt 19, 3) := by decide +kernel
theorem dX13_splice_26 : decode cX13_splice 26 = .ok (.iload_n 2, 1) := by decide +kernel
theorem dX13_splice_27 : decode cX13_splice 27 = .ok (.ifCond .lt 15, 3) := by decide +kernel
theorem dX13_splice_30 : decode cX13_splice 30 = .ok (.iload_n 2, 1) := by decide +kernel
theorem dX13_splice_31 : decode cX13_splice 31 = .ok (.aload_n 0, 1) := by decide +kernel
theorem dX13_splice_32 : decode cX13_splice 32 = .ok (.getfield 57, 3) := by decide +kernel
theorem dX13_splice_35 : decode cX13_splice 35 = .ok (.iload_n 3, 1) := by decide +kernel
theorem dX13_splice_36 : decode cX13_splice 36 = .ok (.isub, 1) := by decide +kernel
theorem dX13_splice_37 : decode cX13_splice 37 = .ok (.iload_n 1, 1) := by decide +kernel
theorem dX13_splice_38 : decode cX13_splice 38 = .ok (.isub, 1) := by decide +kernel
theorem dX13_splice_39 : decode cX13_splice 39 = .ok (.if_icmp .le 5, 3) := by decide +kernel
theorem dX13_splice_42 : decode cX13_splice 42 = .ok (.iconst (-1), 1) := by decide +kernel
theorem dX13_splice_43 : decode cX13_splice 43 = .ok (.ireturn, 1) := by decide +kernel
theorem dX13_splice_44 : decode cX13_splice 44 = .ok (.aload_n 0, 1) := by decide +kernel
theorem dX13_splice_45 : decode cX13_splice 45 = .ok (.getfield 57, 3) := by decide +kernel
theorem dX13_splice_48 : decode cX13_splice 48 = .ok (.iload_n 3, 1) := by decide +kernel
theorem dX13_splice_49 : decode cX13_splice 49 = .ok (.isub, 1) := by decide +kernel
theorem dX13_splice_50 : decode cX13_splice 50 = .ok (.istore 4, 2) := by decide +kernel
theorem dX13_splice_52 : decode cX13_splice 52 = .ok (.iconst 0, 1) := by decide +kernel
theorem dX13_splice_53 : decode cX13_splice 53 = .ok (.istore 5, 2) := by decide +kernel
theorem dX13_splice_55 : decode cX13_splice 55 = .ok (.iconst 0, 1) := by decide +kernel
theorem dX13_splice_56 : decode cX13_splice 56 = .ok (.istore 6, 2) := by decide +kernel
theorem dX13_splice_58 : decode cX13_splice 58 = .ok (.iload 6, 2) := by decide +kernel
theorem dX13_splice_60 : decode cX13_splice 60 = .ok (.iload_n 1, 1) := by decide +kernel
theorem dX13_splice_61 : decode cX13_splice 61 = .ok (.if_icmp .ge 26, 3) := by decide +kernel
theorem dX13_splice_87 : decode cX13_splice 87 = .ok (.iconst 0, 1) := by decide +kernel
theorem dX13_splice_88 : decode cX13_splice 88 = .ok (.istore 6, 2) := by decide +kernel
theorem dX13_splice_90 : decode cX13_splice 90 = .ok (.iload 6, 2) := by decide +kernel
theorem dX13_splice_92 : decode cX13_splice 92 = .ok (.iload_n 3, 1) := by decide +kernel
theorem dX13_splice_93 : decode cX13_splice 93 = .ok (.if_icmp .ge 29, 3) := by decide +kernel
theorem dX13_splice_122 : decode cX13_splice 122 = .ok (.iload_n 1, 1) := by decide +kernel
theorem dX13_splice_123 : decode cX13_splice 123 = .ok (.iload_n 2, 1) := by decide +kernel
theorem dX13_splice_124 : decode cX13_splice 124 = .ok (.iadd, 1) := by decide +kernel
theorem dX13_splice_125 : decode cX13_splice 125 = .ok (.istore 6, 2) := by decide +kernel
theorem dX13_splice_127 : decode cX13_splice 127 = .ok (.iload 6, 2) := by decide +kernel
theorem dX13_splice_129 : decode cX13_splice 129 = .ok (.iload 4, 2) := by decide +kernel
theorem dX13_splice_131 : decode cX13_splice 131 = .ok (.if_icmp .ge 26, 3) := by decide +kernel
theorem dX13_splice_157 : decode cX13_splice 157 = .ok (.iconst 0, 1) := by decide +kernel
theorem dX13_splice_158 : decode cX13_splice 158 = .ok (.istore 6, 2) := by decide +kernel
theorem dX13_splice_160 : decode cX13_splice 160 = .ok (.iload 6, 2) := by decide +kernel
theorem dX13_splice_162 : decode cX13_splice 162 = .ok (.iload 5, 2) := by decide +kernel
theorem dX13_splice_164 : decode cX13_splice 164 = .ok (.if_icmp .ge 23, 3) := by decide +kernel
theorem dX13_splice_187 : decode cX13_splice 187 = .ok (.aload_n 0, 1) := by decide +kernel
theorem dX13_splice_188 : decode cX13_splice 188 = .ok (.iload 5, 2) := by decide +kernel
theorem dX13_splice_190 : decode cX13_splice 190 = .ok (.putfield 57, 3) := by decide +kernel
theorem dX13_splice_193 : decode cX13_splice 193 = .ok (.aload_n 0, 1) := by decide +kernel
theorem dX13_splice_194 : decode cX13_splice 194 = .ok (.getfield 57, 3) := by decide +kernel
theorem dX13_splice_197 : decode cX13_splice 197 = .ok (.ireturn, 1) := by decide +kernel
theorem dX13_size_0 : decode cX13_size 0 = .ok (.aload_n 0, 1) := by decide +kernel
theorem dX13_size_1 : decode cX13_size 1 = .ok (.getfield 15, 3) := by decide +kernel
theorem dX13_size_4 : decode cX13_size 4 = .ok (.ireturn, 1) := by decide +kernel
theorem dX13_octet_0 : decode cX13_octet 0 = .ok (.iload_n 1, 1) := by decide +kernel
theorem dX13_octet_1 : decode cX13_octet 1 = .ok (.ifCond .lt 11, 3) := by decide +kernel
theorem dX13_octet_4 : decode cX13_octet 4 = .ok (.iload_n 1, 1) := by decide +kernel
theorem dX13_octet_5 : decode cX13_octet 5 = .ok (.aload_n 0, 1) := by decide +kernel
theorem dX13_octet_6 : decode cX13_octet 6 = .ok (.getfield 15, 3) := by decide +kernel
theorem dX13_octet_9 : decode cX13_octet 9 = .ok (.if_icmp .lt 7, 3) := by decide +kernel
theorem dX13_octet_12 : decode cX13_octet 12 = .ok (.iconst (-1), 1) := by decide +kernel
theorem dX13_octet_13 : decode cX13_octet 13 = .ok (.goto 9, 3) := by decide +kernel
theorem dX13_octet_22 : decode cX13_octet 22 = .ok (.ireturn, 1) := by decide +kernel
theorem dX13_wordTable_0 : decode cX13_wordTable 0 = .ok (.lconst 0, 1) := by decide +kernel
theorem dX13_wordTable_1 : decode cX13_wordTable 1 = .ok (.lstore_n 1, 1) := by decide +kernel
theorem dX13_wordTable_2 : decode cX13_wordTable 2 = .ok (.iconst 1, 1) := by decide +kernel
theorem dX13_wordTable_3 : decode cX13_wordTable 3 = .ok (.istore_n 3, 1) := by decide +kernel
theorem dX13_wordTable_4 : decode cX13_wordTable 4 = .ok (.iload_n 3, 1) := by decide +kernel
theorem dX13_wordTable_5 : decode cX13_wordTable 5 = .ok (.ldc 69, 2) := by decide +kernel
theorem dX13_wordTable_7 : decode cX13_wordTable 7 = .ok (.invokevirtual 19, 3) := by decide +kernel
theorem dX13_wordTable_10 : decode cX13_wordTable 10 = .ok (.if_icmp .ge 61, 3) := by decide +kernel
theorem dX13_wordTable_13 : decode cX13_wordTable 13 = .ok (.ldc 69, 2) := by decide +kernel
theorem dX13_wordTable_15 : decode cX13_wordTable 15 = .ok (.iload_n 3, 1) := by decide +kernel
theorem dX13_wordTable_16 : decode cX13_wordTable 16 = .ok (.invokevirtual 25, 3) := by decide +kernel
theorem dX13_wordTable_19 : decode cX13_wordTable 19 = .ok (.bipush 32, 2) := by decide +kernel
theorem dX13_wordTable_21 : decode cX13_wordTable 21 = .ok (.if_icmp .ne 28, 3) := by decide +kernel
theorem dX13_wordTable_24 : decode cX13_wordTable 24 = .ok (.aload_n 0, 1) := by decide +kernel
theorem dX13_wordTable_25 : decode cX13_wordTable 25 = .ok (.getfield 71, 3) := by decide +kernel
theorem dX13_wordTable_28 : decode cX13_wordTable 28 = .ok (.aload_n 0, 1) := by decide +kernel
theorem dX13_wordTable_29 : decode cX13_wordTable 29 = .ok (.getfield 75, 3) := by decide +kernel
theorem dX13_wordTable_32 : decode cX13_wordTable 32 = .ok (.lload_n 1, 1) := by decide +kernel
theorem dX13_wordTable_33 : decode cX13_wordTable 33 = .ok (.lastore, 1) := by decide +kernel
theorem dX13_wordTable_34 : decode cX13_wordTable 34 = .ok (.aload_n 0, 1) := by decide +kernel
theorem dX13_wordTable_35 : decode cX13_wordTable 35 = .ok (.dup, 1) := by decide +kernel
theorem dX13_wordTable_36 : decode cX13_wordTable 36 = .ok (.getfield 75, 3) := by decide +kernel
theorem dX13_wordTable_39 : decode cX13_wordTable 39 = .ok (.iconst 1, 1) := by decide +kernel
theorem dX13_wordTable_40 : decode cX13_wordTable 40 = .ok (.iadd, 1) := by decide +kernel
theorem dX13_wordTable_41 : decode cX13_wordTable 41 = .ok (.putfield 75, 3) := by decide +kernel
theorem dX13_wordTable_44 : decode cX13_wordTable 44 = .ok (.lconst 0, 1) := by decide +kernel
theorem dX13_wordTable_45 : decode cX13_wordTable 45 = .ok (.lstore_n 1, 1) := by decide +kernel
theorem dX13_wordTable_46 : decode cX13_wordTable 46 = .ok (.goto 19, 3) := by decide +kernel
theorem dX13_wordTable_49 : decode cX13_wordTable 49 = .ok (.lload_n 1, 1) := by decide +kernel
theorem dX13_wordTable_50 : decode cX13_wordTable 50 = .ok (.bipush 6, 2) := by decide +kernel
theorem dX13_wordTable_52 : decode cX13_wordTable 52 = .ok (.lshl, 1) := by decide +kernel
theorem dX13_wordTable_53 : decode cX13_wordTable 53 = .ok (.ldc 69, 2) := by decide +kernel
theorem dX13_wordTable_55 : decode cX13_wordTable 55 = .ok (.iload_n 3, 1) := by decide +kernel
theorem dX13_wordTable_56 : decode cX13_wordTable 56 = .ok (.invokevirtual 25, 3) := by decide +kernel
theorem dX13_wordTable_59 : decode cX13_wordTable 59 = .ok (.invokestatic 78, 3) := by decide +kernel
theorem dX13_wordTable_62 : decode cX13_wordTable 62 = .ok (.i2l, 1) := by decide +kernel
theorem dX13_wordTable_63 : decode cX13_wordTable 63 = .ok (.lor, 1) := by decide +kernel
theorem dX13_wordTable_64 : decode cX13_wordTable 64 = .ok (.lstore_n 1, 1) := by decide +kernel
theorem dX13_wordTable_65 : decode cX13_wordTable 65 = .ok (.iinc 3 1, 3) := by decide +kernel
theorem dX13_wordTable_68 : decode cX13_wordTable 68 = .ok (.goto (-64), 3) := by decide +kernel
theorem dX13_wordTable_71 : decode cX13_wordTable 71 = .ok (.return_, 1) := by decide +kernel
theorem dX13_nameOf_0 : decode cX13_nameOf 0 = .ok (.lconst 0, 1) := by decide +kernel
theorem dX13_nameOf_1 : decode cX13_nameOf 1 = .ok (.lstore_n 1, 1) := by decide +kernel
theorem dX13_nameOf_2 : decode cX13_nameOf 2 = .ok (.iconst 0, 1) := by decide +kernel
theorem dX13_nameOf_3 : decode cX13_nameOf 3 = .ok (.istore_n 3, 1) := by decide +kernel
theorem dX13_nameOf_4 : decode cX13_nameOf 4 = .ok (.iload_n 3, 1) := by decide +kernel
theorem dX13_nameOf_5 : decode cX13_nameOf 5 = .ok (.aload_n 0, 1) := by decide +kernel
theorem dX13_nameOf_6 : decode cX13_nameOf 6 = .ok (.invokevirtual 19, 3) := by decide +kernel
theorem dX13_nameOf_9 : decode cX13_nameOf 9 = .ok (.if_icmp .ge 24, 3) := by decide +kernel
theorem dX13_nameOf_12 : decode cX13_nameOf 12 = .ok (.lload_n 1, 1) := by decide +kernel
theorem dX13_nameOf_13 : decode cX13_nameOf 13 = .ok (.bipush 6, 2) := by decide +kernel
theorem dX13_nameOf_15 : decode cX13_nameOf 15 = .ok (.lshl, 1) := by decide +kernel
theorem dX13_nameOf_16 : decode cX13_nameOf 16 = .ok (.aload_n 0, 1) := by decide +kernel
theorem dX13_nameOf_17 : decode cX13_nameOf 17 = .ok (.iload_n 3, 1) := by decide +kernel
theorem dX13_nameOf_18 : decode cX13_nameOf 18 = .ok (.invokevirtual 25, 3) := by decide +kernel
theorem dX13_nameOf_21 : decode cX13_nameOf 21 = .ok (.invokestatic 78, 3) := by decide +kernel
theorem dX13_nameOf_24 : decode cX13_nameOf 24 = .ok (.i2l, 1) := by decide +kernel
theorem dX13_nameOf_25 : decode cX13_nameOf 25 = .ok (.lor, 1) := by decide +kernel
theorem dX13_nameOf_26 : decode cX13_nameOf 26 = .ok (.lstore_n 1, 1) := by decide +kernel
theorem dX13_nameOf_27 : decode cX13_nameOf 27 = .ok (.iinc 3 1, 3) := by decide +kernel
theorem dX13_nameOf_30 : decode cX13_nameOf 30 = .ok (.goto (-26), 3) := by decide +kernel
theorem dX13_nameOf_33 : decode cX13_nameOf 33 = .ok (.lload_n 1, 1) := by decide +kernel
theorem dX13_nameOf_34 : decode cX13_nameOf 34 = .ok (.lreturn, 1) := by decide +kernel
theorem dX13_tokenize_0 : decode cX13_tokenize 0 = .ok (.iconst 0, 1) := by decide +kernel
theorem dX13_tokenize_1 : decode cX13_tokenize 1 = .ok (.istore_n 1, 1) := by decide +kernel
theorem dX13_tokenize_2 : decode cX13_tokenize 2 = .ok (.iconst 0, 1) := by decide +kernel
theorem dX13_tokenize_3 : decode cX13_tokenize 3 = .ok (.istore_n 2, 1) := by decide +kernel
theorem dX13_tokenize_4 : decode cX13_tokenize 4 = .ok (.iconst 1, 1) := by decide +kernel
theorem dX13_tokenize_5 : decode cX13_tokenize 5 = .ok (.istore_n 3, 1) := by decide +kernel
theorem dX13_tokenize_6 : decode cX13_tokenize 6 = .ok (.iload_n 3, 1) := by decide +kernel
theorem dX13_tokenize_7 : decode cX13_tokenize 7 = .ok (.ifCond .eq 165, 3) := by decide +kernel
theorem dX13_tokenize_10 : decode cX13_tokenize 10 = .ok (.iload_n 1, 1) := by decide +kernel
theorem dX13_tokenize_11 : decode cX13_tokenize 11 = .ok (.aload_n 0, 1) := by decide +kernel
theorem dX13_tokenize_12 : decode cX13_tokenize 12 = .ok (.getfield 81, 3) := by decide +kernel
theorem dX13_tokenize_15 : decode cX13_tokenize 15 = .ok (.aload_n 0, 1) := by decide +kernel
theorem dX13_tokenize_16 : decode cX13_tokenize 16 = .ok (.getfield 84, 3) := by decide +kernel
theorem dX13_tokenize_19 : decode cX13_tokenize 19 = .ok (.iaload, 1) := by decide +kernel
theorem dX13_tokenize_20 : decode cX13_tokenize 20 = .ok (.if_icmp .ge 29, 3) := by decide +kernel
theorem dX13_tokenize_49 : decode cX13_tokenize 49 = .ok (.aload_n 0, 1) := by decide +kernel
theorem dX13_tokenize_50 : decode cX13_tokenize 50 = .ok (.getfield 84, 3) := by decide +kernel
theorem dX13_tokenize_53 : decode cX13_tokenize 53 = .ok (.sipush 702, 3) := by decide +kernel
theorem dX13_tokenize_56 : decode cX13_tokenize 56 = .ok (.imul, 1) := by decide +kernel
theorem dX13_tokenize_57 : decode cX13_tokenize 57 = .ok (.iload_n 2, 1) := by decide +kernel
theorem dX13_tokenize_58 : decode cX13_tokenize 58 = .ok (.iadd, 1) := by decide +kernel
theorem dX13_tokenize_59 : decode cX13_tokenize 59 = .ok (.istore 4, 2) := by decide +kernel
theorem dX13_tokenize_61 : decode cX13_tokenize 61 = .ok (.aload_n 0, 1) := by decide +kernel
theorem dX13_tokenize_62 : decode cX13_tokenize 62 = .ok (.getfield 94, 3) := by decide +kernel
theorem dX13_tokenize_65 : decode cX13_tokenize 65 = .ok (.iload 4, 2) := by decide +kernel
theorem dX13_tokenize_67 : decode cX13_tokenize 67 = .ok (.iload_n 1, 1) := by decide +kernel
theorem dX13_tokenize_68 : decode cX13_tokenize 68 = .ok (.iastore, 1) := by decide +kernel
theorem dX13_tokenize_69 : decode cX13_tokenize 69 = .ok (.aload_n 0, 1) := by decide +kernel
theorem dX13_tokenize_70 : decode cX13_tokenize 70 = .ok (.getfield 97, 3) := by decide +kernel
theorem dX13_tokenize_73 : decode cX13_tokenize 73 = .ok (.iload 4, 2) := by decide +kernel
theorem dX13_tokenize_75 : decode cX13_tokenize 75 = .ok (.lconst 0, 1) := by decide +kernel
theorem dX13_tokenize_76 : decode cX13_tokenize 76 = .ok (.lastore, 1) := by decide +kernel
theorem dX13_tokenize_77 : decode cX13_tokenize 77 = .ok (.aload_n 0, 1) := by decide +kernel
theorem dX13_tokenize_78 : decode cX13_tokenize 78 = .ok (.getfield 100, 3) := by decide +kernel
theorem dX13_tokenize_81 : decode cX13_tokenize 81 = .ok (.iload 4, 2) := by decide +kernel
theorem dX13_tokenize_83 : decode cX13_tokenize 83 = .ok (.iconst 0, 1) := by decide +kernel
theorem dX13_tokenize_84 : decode cX13_tokenize 84 = .ok (.iastore, 1) := by decide +kernel
theorem dX13_tokenize_85 : decode cX13_tokenize 85 = .ok (.aload_n 0, 1) := by decide +kernel
theorem dX13_tokenize_86 : decode cX13_tokenize 86 = .ok (.getfield 103, 3) := by decide +kernel
theorem dX13_tokenize_89 : decode cX13_tokenize 89 = .ok (.iload 4, 2) := by decide +kernel
theorem dX13_tokenize_91 : decode cX13_tokenize 91 = .ok (.iconst 0, 1) := by decide +kernel
theorem dX13_tokenize_92 : decode cX13_tokenize 92 = .ok (.iastore, 1) := by decide +kernel
theorem dX13_tokenize_93 : decode cX13_tokenize 93 = .ok (.iload_n 1, 1) := by decide +kernel
theorem dX13_tokenize_94 : decode cX13_tokenize 94 = .ok (.aload_n 0, 1) := by decide +kernel
theorem dX13_tokenize_95 : decode cX13_tokenize 95 = .ok (.getfield 81, 3) := by decide +kernel
theorem dX13_tokenize_98 : decode cX13_tokenize 98 = .ok (.aload_n 0, 1) := by decide +kernel
theorem dX13_tokenize_99 : decode cX13_tokenize 99 = .ok (.getfield 84, 3) := by decide +kernel
theorem dX13_tokenize_102 : decode cX13_tokenize 102 = .ok (.iaload, 1) := by decide +kernel
theorem dX13_tokenize_103 : decode cX13_tokenize 103 = .ok (.if_icmp .ge 13, 3) := by decide +kernel
theorem dX13_tokenize_116 : decode cX13_tokenize 116 = .ok (.iload_n 1, 1) := by decide +kernel
theorem dX13_tokenize_117 : decode cX13_tokenize 117 = .ok (.istore 5, 2) := by decide +kernel
theorem dX13_tokenize_119 : decode cX13_tokenize 119 = .ok (.aload_n 0, 1) := by decide +kernel
theorem dX13_tokenize_120 : decode cX13_tokenize 120 = .ok (.getfield 110, 3) := by decide +kernel
theorem dX13_tokenize_123 : decode cX13_tokenize 123 = .ok (.iload 4, 2) := by decide +kernel
theorem dX13_tokenize_125 : decode cX13_tokenize 125 = .ok (.iload 5, 2) := by decide +kernel
theorem dX13_tokenize_127 : decode cX13_tokenize 127 = .ok (.iastore, 1) := by decide +kernel
theorem dX13_tokenize_128 : decode cX13_tokenize 128 = .ok (.aload_n 0, 1) := by decide +kernel
theorem dX13_tokenize_129 : decode cX13_tokenize 129 = .ok (.getfield 103, 3) := by decide +kernel
theorem dX13_tokenize_132 : decode cX13_tokenize 132 = .ok (.iload 4, 2) := by decide +kernel
theorem dX13_tokenize_134 : decode cX13_tokenize 134 = .ok (.iaload, 1) := by decide +kernel
theorem dX13_tokenize_135 : decode cX13_tokenize 135 = .ok (.ifCond .eq 26, 3) := by decide +kernel
theorem dX13_tokenize_161 : decode cX13_tokenize 161 = .ok (.iconst 0, 1) := by decide +kernel
theorem dX13_tokenize_162 : decode cX13_tokenize 162 = .ok (.istore_n 3, 1) := by decide +kernel
theorem dX13_tokenize_163 : decode cX13_tokenize 163 = .ok (.iload 5, 2) := by decide +kernel
theorem dX13_tokenize_165 : decode cX13_tokenize 165 = .ok (.istore_n 1, 1) := by decide +kernel
theorem dX13_tokenize_166 : decode cX13_tokenize 166 = .ok (.iinc 2 1, 3) := by decide +kernel
theorem dX13_tokenize_169 : decode cX13_tokenize 169 = .ok (.goto (-163), 3) := by decide +kernel
theorem dX13_tokenize_172 : decode cX13_tokenize 172 = .ok (.aload_n 0, 1) := by decide +kernel
theorem dX13_tokenize_173 : decode cX13_tokenize 173 = .ok (.getfield 113, 3) := by decide +kernel
theorem dX13_tokenize_176 : decode cX13_tokenize 176 = .ok (.aload_n 0, 1) := by decide +kernel
theorem dX13_tokenize_177 : decode cX13_tokenize 177 = .ok (.getfield 84, 3) := by decide +kernel
theorem dX13_tokenize_180 : decode cX13_tokenize 180 = .ok (.iload_n 2, 1) := by decide +kernel
theorem dX13_tokenize_181 : decode cX13_tokenize 181 = .ok (.iastore, 1) := by decide +kernel
theorem dX13_tokenize_182 : decode cX13_tokenize 182 = .ok (.return_, 1) := by decide +kernel
theorem dX13_kindAt_0 : decode cX13_kindAt 0 = .ok (.aload_n 0, 1) := by decide +kernel
theorem dX13_kindAt_1 : decode cX13_kindAt 1 = .ok (.getfield 103, 3) := by decide +kernel
theorem dX13_kindAt_4 : decode cX13_kindAt 4 = .ok (.aload_n 0, 1) := by decide +kernel
theorem dX13_kindAt_5 : decode cX13_kindAt 5 = .ok (.getfield 84, 3) := by decide +kernel
theorem dX13_kindAt_8 : decode cX13_kindAt 8 = .ok (.sipush 702, 3) := by decide +kernel
theorem dX13_kindAt_11 : decode cX13_kindAt 11 = .ok (.imul, 1) := by decide +kernel
theorem dX13_kindAt_12 : decode cX13_kindAt 12 = .ok (.iload_n 1, 1) := by decide +kernel
theorem dX13_kindAt_13 : decode cX13_kindAt 13 = .ok (.iadd, 1) := by decide +kernel
theorem dX13_kindAt_14 : decode cX13_kindAt 14 = .ok (.iaload, 1) := by decide +kernel
theorem dX13_kindAt_15 : decode cX13_kindAt 15 = .ok (.ireturn, 1) := by decide +kernel
theorem dX13_parse_0 : decode cX13_parse 0 = .ok (.aload_n 0, 1) := by decide +kernel
theorem dX13_parse_1 : decode cX13_parse 1 = .ok (.iconst 0, 1) := by decide +kernel
theorem dX13_parse_2 : decode cX13_parse 2 = .ok (.putfield 135, 3) := by decide +kernel
theorem dX13_parse_5 : decode cX13_parse 5 = .ok (.aload_n 0, 1) := by decide +kernel
theorem dX13_parse_6 : decode cX13_parse 6 = .ok (.iconst 0, 1) := by decide +kernel
theorem dX13_parse_7 : decode cX13_parse 7 = .ok (.putfield 227, 3) := by decide +kernel
theorem dX13_parse_10 : decode cX13_parse 10 = .ok (.aload_n 0, 1) := by decide +kernel
theorem dX13_parse_11 : decode cX13_parse 11 = .ok (.getfield 230, 3) := by decide +kernel
theorem dX13_parse_14 : decode cX13_parse 14 = .ok (.aload_n 0, 1) := by decide +kernel
theorem dX13_parse_15 : decode cX13_parse 15 = .ok (.getfield 84, 3) := by decide +kernel
theorem dX13_parse_18 : decode cX13_parse 18 = .ok (.iconst 0, 1) := by decide +kernel
theorem dX13_parse_19 : decode cX13_parse 19 = .ok (.iastore, 1) := by decide +kernel
theorem dX13_parse_20 : decode cX13_parse 20 = .ok (.aload_n 0, 1) := by decide +kernel
theorem dX13_parse_21 : decode cX13_parse 21 = .ok (.getfield 170, 3) := by decide +kernel
theorem dX13_parse_24 : decode cX13_parse 24 = .ok (.aload_n 0, 1) := by decide +kernel
theorem dX13_parse_25 : decode cX13_parse 25 = .ok (.getfield 84, 3) := by decide +kernel
theorem dX13_parse_28 : decode cX13_parse 28 = .ok (.iconst 0, 1) := by decide +kernel
theorem dX13_parse_29 : decode cX13_parse 29 = .ok (.iastore, 1) := by decide +kernel
theorem dX13_parse_30 : decode cX13_parse 30 = .ok (.aload_n 0, 1) := by decide +kernel
theorem dX13_parse_31 : decode cX13_parse 31 = .ok (.getfield 129, 3) := by decide +kernel
theorem dX13_parse_34 : decode cX13_parse 34 = .ok (.ifCond .ne 21, 3) := by decide +kernel
theorem dX13_parse_37 : decode cX13_parse 37 = .ok (.aload_n 0, 1) := by decide +kernel
theorem dX13_parse_38 : decode cX13_parse 38 = .ok (.aload_n 0, 1) := by decide +kernel
theorem dX13_parse_39 : decode cX13_parse 39 = .ok (.getfield 135, 3) := by decide +kernel
theorem dX13_parse_42 : decode cX13_parse 42 = .ok (.invokevirtual 138, 3) := by decide +kernel
theorem dX13_parse_45 : decode cX13_parse 45 = .ok (.ifCond .eq 10, 3) := by decide +kernel
theorem dX13_parse_55 : decode cX13_parse 55 = .ok (.return_, 1) := by decide +kernel
theorem dX13_newMember_0 : decode cX13_newMember 0 = .ok (.aload_n 0, 1) := by decide +kernel
theorem dX13_newMember_1 : decode cX13_newMember 1 = .ok (.getfield 341, 3) := by decide +kernel
theorem dX13_newMember_4 : decode cX13_newMember 4 = .ok (.iload_n 1, 1) := by decide +kernel
theorem dX13_newMember_5 : decode cX13_newMember 5 = .ok (.iconst 0, 1) := by decide +kernel
theorem dX13_newMember_6 : decode cX13_newMember 6 = .ok (.bastore, 1) := by decide +kernel
theorem dX13_newMember_7 : decode cX13_newMember 7 = .ok (.aload_n 0, 1) := by decide +kernel
theorem dX13_newMember_8 : decode cX13_newMember 8 = .ok (.getfield 344, 3) := by decide +kernel
theorem dX13_newMember_11 : decode cX13_newMember 11 = .ok (.iload_n 1, 1) := by decide +kernel
theorem dX13_newMember_12 : decode cX13_newMember 12 = .ok (.iconst 0, 1) := by decide +kernel
theorem dX13_newMember_13 : decode cX13_newMember 13 = .ok (.bastore, 1) := by decide +kernel
theorem dX13_newMember_14 : decode cX13_newMember 14 = .ok (.aload_n 0, 1) := by decide +kernel
theorem dX13_newMember_15 : decode cX13_newMember 15 = .ok (.getfield 347, 3) := by decide +kernel
theorem dX13_newMember_18 : decode cX13_newMember 18 = .ok (.iload_n 1, 1) := by decide +kernel
theorem dX13_newMember_19 : decode cX13_newMember 19 = .ok (.iconst 0, 1) := by decide +kernel
theorem dX13_newMember_20 : decode cX13_newMember 20 = .ok (.bastore, 1) := by decide +kernel
theorem dX13_newMember_21 : decode cX13_newMember 21 = .ok (.aload_n 0, 1) := by decide +kernel
theorem dX13_newMember_22 : decode cX13_newMember 22 = .ok (.getfield 350, 3) := by decide +kernel
theorem dX13_newMember_25 : decode cX13_newMember 25 = .ok (.iload_n 1, 1) := by decide +kernel
theorem dX13_newMember_26 : decode cX13_newMember 26 = .ok (.iconst 0, 1) := by decide +kernel
theorem dX13_newMember_27 : decode cX13_newMember 27 = .ok (.bastore, 1) := by decide +kernel
theorem dX13_newMember_28 : decode cX13_newMember 28 = .ok (.aload_n 0, 1) := by decide +kernel
theorem dX13_newMember_29 : decode cX13_newMember 29 = .ok (.getfield 353, 3) := by decide +kernel
theorem dX13_newMember_32 : decode cX13_newMember 32 = .ok (.iload_n 1, 1) := by decide +kernel
theorem dX13_newMember_33 : decode cX13_newMember 33 = .ok (.iconst 0, 1) := by decide +kernel
theorem dX13_newMember_34 : decode cX13_newMember 34 = .ok (.bastore, 1) := by decide +kernel
theorem dX13_newMember_35 : decode cX13_newMember 35 = .ok (.aload_n 0, 1) := by decide +kernel
theorem dX13_newMember_36 : decode cX13_newMember 36 = .ok (.getfield 356, 3) := by decide +kernel
theorem dX13_newMember_39 : decode cX13_newMember 39 = .ok (.iload_n 1, 1) := by decide +kernel
theorem dX13_newMember_40 : decode cX13_newMember 40 = .ok (.lconst 0, 1) := by decide +kernel
theorem dX13_newMember_41 : decode cX13_newMember 41 = .ok (.lastore, 1) := by decide +kernel
theorem dX13_newMember_42 : decode cX13_newMember 42 = .ok (.aload_n 0, 1) := by decide +kernel
theorem dX13_newMember_43 : decode cX13_newMember 43 = .ok (.getfield 359, 3) := by decide +kernel
theorem dX13_newMember_46 : decode cX13_newMember 46 = .ok (.iload_n 1, 1) := by decide +kernel
theorem dX13_newMember_47 : decode cX13_newMember 47 = .ok (.lconst 1, 1) := by decide +kernel
theorem dX13_newMember_48 : decode cX13_newMember 48 = .ok (.lastore, 1) := by decide +kernel
theorem dX13_newMember_49 : decode cX13_newMember 49 = .ok (.aload_n 0, 1) := by decide +kernel
theorem dX13_newMember_50 : decode cX13_newMember 50 = .ok (.getfield 362, 3) := by decide +kernel
theorem dX13_newMember_53 : decode cX13_newMember 53 = .ok (.iload_n 1, 1) := by decide +kernel
theorem dX13_newMember_54 : decode cX13_newMember 54 = .ok (.iconst 0, 1) := by decide +kernel
theorem dX13_newMember_55 : decode cX13_newMember 55 = .ok (.iastore, 1) := by decide +kernel
theorem dX13_newMember_56 : decode cX13_newMember 56 = .ok (.aload_n 0, 1) := by decide +kernel
theorem dX13_newMember_57 : decode cX13_newMember 57 = .ok (.getfield 365, 3) := by decide +kernel
theorem dX13_newMember_60 : decode cX13_newMember 60 = .ok (.iload_n 1, 1) := by decide +kernel
theorem dX13_newMember_61 : decode cX13_newMember 61 = .ok (.bipush (-2), 2) := by decide +kernel
theorem dX13_newMember_63 : decode cX13_newMember 63 = .ok (.iastore, 1) := by decide +kernel
theorem dX13_newMember_64 : decode cX13_newMember 64 = .ok (.aload_n 0, 1) := by decide +kernel
theorem dX13_newMember_65 : decode cX13_newMember 65 = .ok (.getfield 368, 3) := by decide +kernel
theorem dX13_newMember_68 : decode cX13_newMember 68 = .ok (.iload_n 1, 1) := by decide +kernel
theorem dX13_newMember_69 : decode cX13_newMember 69 = .ok (.bipush (-2), 2) := by decide +kernel
theorem dX13_newMember_71 : decode cX13_newMember 71 = .ok (.iastore, 1) := by decide +kernel
theorem dX13_newMember_72 : decode cX13_newMember 72 = .ok (.aload_n 0, 1) := by decide +kernel
theorem dX13_newMember_73 : decode cX13_newMember 73 = .ok (.getfield 371, 3) := by decide +kernel
theorem dX13_newMember_76 : decode cX13_newMember 76 = .ok (.iload_n 1, 1) := by decide +kernel
theorem dX13_newMember_77 : decode cX13_newMember 77 = .ok (.iconst 0, 1) := by decide +kernel
theorem dX13_newMember_78 : decode cX13_newMember 78 = .ok (.iastore, 1) := by decide +kernel
theorem dX13_newMember_79 : decode cX13_newMember 79 = .ok (.aload_n 0, 1) := by decide +kernel
theorem dX13_newMember_80 : decode cX13_newMember 80 = .ok (.getfield 374, 3) := by decide +kernel
theorem dX13_newMember_83 : decode cX13_newMember 83 = .ok (.iload_n 1, 1) := by decide +kernel
theorem dX13_newMember_84 : decode cX13_newMember 84 = .ok (.iconst 0, 1) := by decide +kernel
theorem dX13_newMember_85 : decode cX13_newMember 85 = .ok (.iastore, 1) := by decide +kernel
theorem dX13_newMember_86 : decode cX13_newMember 86 = .ok (.aload_n 0, 1) := by decide +kernel
theorem dX13_newMember_87 : decode cX13_newMember 87 = .ok (.getfield 377, 3) := by decide +kernel
theorem dX13_newMember_90 : decode cX13_newMember 90 = .ok (.iload_n 1, 1) := by decide +kernel
theorem dX13_newMember_91 : decode cX13_newMember 91 = .ok (.iconst 0, 1) := by decide +kernel
theorem dX13_newMember_92 : decode cX13_newMember 92 = .ok (.bastore, 1) := by decide +kernel
theorem dX13_newMember_93 : decode cX13_newMember 93 = .ok (.aload_n 0, 1) := by decide +kernel
theorem dX13_newMember_94 : decode cX13_newMember 94 = .ok (.getfield 380, 3) := by decide +kernel
theorem dX13_newMember_97 : decode cX13_newMember 97 = .ok (.iload_n 1, 1) := by decide +kernel
theorem dX13_newMember_98 : decode cX13_newMember 98 = .ok (.iconst 0, 1) := by decide +kernel
theorem dX13_newMember_99 : decode cX13_newMember 99 = .ok (.iastore, 1) := by decide +kernel
theorem dX13_newMember_100 : decode cX13_newMember 100 = .ok (.aload_n 0, 1) := by decide +kernel
theorem dX13_newMember_101 : decode cX13_newMember 101 = .ok (.getfield 383, 3) := by decide +kernel
theorem dX13_newMember_104 : decode cX13_newMember 104 = .ok (.iload_n 1, 1) := by decide +kernel
theorem dX13_newMember_105 : decode cX13_newMember 105 = .ok (.lconst 0, 1) := by decide +kernel
theorem dX13_newMember_106 : decode cX13_newMember 106 = .ok (.lastore, 1) := by decide +kernel
theorem dX13_newMember_107 : decode cX13_newMember 107 = .ok (.aload_n 0, 1) := by decide +kernel
theorem dX13_newMember_108 : decode cX13_newMember 108 = .ok (.getfield 386, 3) := by decide +kernel
theorem dX13_newMember_111 : decode cX13_newMember 111 = .ok (.iload_n 1, 1) := by decide +kernel
theorem dX13_newMember_112 : decode cX13_newMember 112 = .ok (.bipush (-2), 2) := by decide +kernel
theorem dX13_newMember_114 : decode cX13_newMember 114 = .ok (.iastore, 1) := by decide +kernel
theorem dX13_newMember_115 : decode cX13_newMember 115 = .ok (.aload_n 0, 1) := by decide +kernel
theorem dX13_newMember_116 : decode cX13_newMember 116 = .ok (.getfield 389, 3) := by decide +kernel
theorem dX13_newMember_119 : decode cX13_newMember 119 = .ok (.iload_n 1, 1) := by decide +kernel
theorem dX13_newMember_120 : decode cX13_newMember 120 = .ok (.iconst 0, 1) := by decide +kernel
theorem dX13_newMember_121 : decode cX13_newMember 121 = .ok (.iastore, 1) := by decide +kernel
theorem dX13_newMember_122 : decode cX13_newMember 122 = .ok (.return_, 1) := by decide +kernel
theorem dX13_given_0 : decode cX13_given 0 = .ok (.aload_n 0, 1) := by decide +kernel
theorem dX13_given_1 : decode cX13_given 1 = .ok (.getfield 230, 3) := by decide +kernel
theorem dX13_given_4 : decode cX13_given 4 = .ok (.bipush 17, 2) := by decide +kernel
theorem dX13_given_6 : decode cX13_given 6 = .ok (.iconst 2, 1) := by decide +kernel
theorem dX13_given_7 : decode cX13_given 7 = .ok (.iastore, 1) := by decide +kernel
theorem dX13_given_8 : decode cX13_given 8 = .ok (.iconst 0, 1) := by decide +kernel
theorem dX13_given_9 : decode cX13_given 9 = .ok (.istore_n 1, 1) := by decide +kernel
theorem dX13_given_10 : decode cX13_given 10 = .ok (.iload_n 1, 1) := by decide +kernel
theorem dX13_given_11 : decode cX13_given 11 = .ok (.iconst 2, 1) := by decide +kernel
theorem dX13_given_12 : decode cX13_given 12 = .ok (.if_icmp .ge 153, 3) := by decide +kernel
theorem dX13_given_15 : decode cX13_given 15 = .ok (.sipush 204, 3) := by decide +kernel
theorem dX13_given_18 : decode cX13_given 18 = .ok (.iload_n 1, 1) := by decide +kernel
theorem dX13_given_19 : decode cX13_given 19 = .ok (.iadd, 1) := by decide +kernel
theorem dX13_given_20 : decode cX13_given 20 = .ok (.istore_n 2, 1) := by decide +kernel
theorem dX13_given_21 : decode cX13_given 21 = .ok (.aload_n 0, 1) := by decide +kernel
theorem dX13_given_22 : decode cX13_given 22 = .ok (.getfield 256, 3) := by decide +kernel
theorem dX13_given_25 : decode cX13_given 25 = .ok (.iload_n 2, 1) := by decide +kernel
theorem dX13_given_26 : decode cX13_given 26 = .ok (.iload_n 1, 1) := by decide +kernel
theorem dX13_given_27 : decode cX13_given 27 = .ok (.ifCond .ne 9, 3) := by decide +kernel
theorem dX13_given_30 : decode cX13_given 30 = .ok (.ldc2_w 522, 3) := by decide +kernel
theorem dX13_given_33 : decode cX13_given 33 = .ok (.goto 6, 3) := by decide +kernel
theorem dX13_given_36 : decode cX13_given 36 = .ok (.ldc2_w 524, 3) := by decide +kernel
theorem dX13_given_39 : decode cX13_given 39 = .ok (.lastore, 1) := by decide +kernel
theorem dX13_given_40 : decode cX13_given 40 = .ok (.aload_n 0, 1) := by decide +kernel
theorem dX13_given_41 : decode cX13_given 41 = .ok (.getfield 262, 3) := by decide +kernel
theorem dX13_given_44 : decode cX13_given 44 = .ok (.iload_n 2, 1) := by decide +kernel
theorem dX13_given_45 : decode cX13_given 45 = .ok (.iconst 1, 1) := by decide +kernel
theorem dX13_given_46 : decode cX13_given 46 = .ok (.bastore, 1) := by decide +kernel
theorem dX13_given_47 : decode cX13_given 47 = .ok (.aload_n 0, 1) := by decide +kernel
theorem dX13_given_48 : decode cX13_given 48 = .ok (.getfield 266, 3) := by decide +kernel
theorem dX13_given_51 : decode cX13_given 51 = .ok (.iload_n 2, 1) := by decide +kernel
theorem dX13_given_52 : decode cX13_given 52 = .ok (.iconst 0, 1) := by decide +kernel
theorem dX13_given_53 : decode cX13_given 53 = .ok (.iastore, 1) := by decide +kernel
theorem dX13_given_54 : decode cX13_given 54 = .ok (.aload_n 0, 1) := by decide +kernel
theorem dX13_given_55 : decode cX13_given 55 = .ok (.getfield 275, 3) := by decide +kernel
theorem dX13_given_58 : decode cX13_given 58 = .ok (.iload_n 2, 1) := by decide +kernel
theorem dX13_given_59 : decode cX13_given 59 = .ok (.iconst 0, 1) := by decide +kernel
theorem dX13_given_60 : decode cX13_given 60 = .ok (.iastore, 1) := by decide +kernel
theorem dX13_given_61 : decode cX13_given 61 = .ok (.iload_n 1, 1) := by decide +kernel
theorem dX13_given_62 : decode cX13_given 62 = .ok (.iconst 1, 1) := by decide +kernel
theorem dX13_given_63 : decode cX13_given 63 = .ok (.if_icmp .ne 55, 3) := by decide +kernel
theorem dX13_given_66 : decode cX13_given 66 = .ok (.iload_n 2, 1) := by decide +kernel
theorem dX13_given_67 : decode cX13_given 67 = .ok (.bipush 34, 2) := by decide +kernel
theorem dX13_given_69 : decode cX13_given 69 = .ok (.imul, 1) := by decide +kernel
theorem dX13_given_70 : decode cX13_given 70 = .ok (.istore_n 3, 1) := by decide +kernel
theorem dX13_given_71 : decode cX13_given 71 = .ok (.aload_n 0, 1) := by decide +kernel
theorem dX13_given_72 : decode cX13_given 72 = .ok (.iload_n 3, 1) := by decide +kernel
theorem dX13_given_73 : decode cX13_given 73 = .ok (.invokevirtual 396, 3) := by decide +kernel
theorem dX13_given_76 : decode cX13_given 76 = .ok (.aload_n 0, 1) := by decide +kernel
theorem dX13_given_77 : decode cX13_given 77 = .ok (.getfield 402, 3) := by decide +kernel
theorem dX13_given_80 : decode cX13_given 80 = .ok (.iload_n 3, 1) := by decide +kernel
theorem dX13_given_81 : decode cX13_given 81 = .ok (.iconst 0, 1) := by decide +kernel
theorem dX13_given_82 : decode cX13_given 82 = .ok (.iastore, 1) := by decide +kernel
theorem dX13_given_83 : decode cX13_given 83 = .ok (.aload_n 0, 1) := by decide +kernel
theorem dX13_given_84 : decode cX13_given 84 = .ok (.getfield 433, 3) := by decide +kernel
theorem dX13_given_87 : decode cX13_given 87 = .ok (.iload_n 3, 1) := by decide +kernel
theorem dX13_given_88 : decode cX13_given 88 = .ok (.iconst 3, 1) := by decide +kernel
theorem dX13_given_89 : decode cX13_given 89 = .ok (.iastore, 1) := by decide +kernel
theorem dX13_given_90 : decode cX13_given 90 = .ok (.aload_n 0, 1) := by decide +kernel
theorem dX13_given_91 : decode cX13_given 91 = .ok (.getfield 356, 3) := by decide +kernel
theorem dX13_given_94 : decode cX13_given 94 = .ok (.iload_n 3, 1) := by decide +kernel
theorem dX13_given_95 : decode cX13_given 95 = .ok (.ldc_w 526, 3) := by decide +kernel
theorem dX13_given_98 : decode cX13_given 98 = .ok (.invokestatic 145, 3) := by decide +kernel
theorem dX13_given_101 : decode cX13_given 101 = .ok (.lastore, 1) := by decide +kernel
theorem dX13_given_102 : decode cX13_given 102 = .ok (.aload_n 0, 1) := by decide +kernel
theorem dX13_given_103 : decode cX13_given 103 = .ok (.getfield 359, 3) := by decide +kernel
theorem dX13_given_106 : decode cX13_given 106 = .ok (.iload_n 3, 1) := by decide +kernel
theorem dX13_given_107 : decode cX13_given 107 = .ok (.ldc2_w 43, 3) := by decide +kernel
theorem dX13_given_110 : decode cX13_given 110 = .ok (.lastore, 1) := by decide +kernel
theorem dX13_given_111 : decode cX13_given 111 = .ok (.aload_n 0, 1) := by decide +kernel
theorem dX13_given_112 : decode cX13_given 112 = .ok (.getfield 275, 3) := by decide +kernel
theorem dX13_given_115 : decode cX13_given 115 = .ok (.iload_n 2, 1) := by decide +kernel
theorem dX13_given_116 : decode cX13_given 116 = .ok (.iconst 1, 1) := by decide +kernel
theorem dX13_given_117 : decode cX13_given 117 = .ok (.iastore, 1) := by decide +kernel
theorem dX13_given_118 : decode cX13_given 118 = .ok (.iload_n 2, 1) := by decide +kernel
theorem dX13_given_119 : decode cX13_given 119 = .ok (.bipush 34, 2) := by decide +kernel
theorem dX13_given_121 : decode cX13_given 121 = .ok (.imul, 1) := by decide +kernel
theorem dX13_given_122 : decode cX13_given 122 = .ok (.aload_n 0, 1) := by decide +kernel
theorem dX13_given_123 : decode cX13_given 123 = .ok (.getfield 275, 3) := by decide +kernel
theorem dX13_given_126 : decode cX13_given 126 = .ok (.iload_n 2, 1) := by decide +kernel
theorem dX13_given_127 : decode cX13_given 127 = .ok (.iaload, 1) := by decide +kernel
theorem dX13_given_128 : decode cX13_given 128 = .ok (.iadd, 1) := by decide +kernel
theorem dX13_given_129 : decode cX13_given 129 = .ok (.istore_n 3, 1) := by decide +kernel
theorem dX13_given_130 : decode cX13_given 130 = .ok (.aload_n 0, 1) := by decide +kernel
theorem dX13_given_131 : decode cX13_given 131 = .ok (.iload_n 3, 1) := by decide +kernel
theorem dX13_given_132 : decode cX13_given 132 = .ok (.invokevirtual 396, 3) := by decide +kernel
theorem dX13_given_135 : decode cX13_given 135 = .ok (.aload_n 0, 1) := by decide +kernel
theorem dX13_given_136 : decode cX13_given 136 = .ok (.getfield 402, 3) := by decide +kernel
theorem dX13_given_139 : decode cX13_given 139 = .ok (.iload_n 3, 1) := by decide +kernel
theorem dX13_given_140 : decode cX13_given 140 = .ok (.iconst 2, 1) := by decide +kernel
theorem dX13_given_141 : decode cX13_given 141 = .ok (.iastore, 1) := by decide +kernel
theorem dX13_given_142 : decode cX13_given 142 = .ok (.aload_n 0, 1) := by decide +kernel
theorem dX13_given_143 : decode cX13_given 143 = .ok (.getfield 433, 3) := by decide +kernel
theorem dX13_given_146 : decode cX13_given 146 = .ok (.iload_n 3, 1) := by decide +kernel
theorem dX13_given_147 : decode cX13_given 147 = .ok (.iconst 3, 1) := by decide +kernel
theorem dX13_given_148 : decode cX13_given 148 = .ok (.iastore, 1) := by decide +kernel
theorem dX13_given_149 : decode cX13_given 149 = .ok (.aload_n 0, 1) := by decide +kernel
theorem dX13_given_150 : decode cX13_given 150 = .ok (.getfield 275, 3) := by decide +kernel
theorem dX13_given_153 : decode cX13_given 153 = .ok (.iload_n 2, 1) := by decide +kernel
theorem dX13_given_154 : decode cX13_given 154 = .ok (.dup2, 1) := by decide +kernel
theorem dX13_given_155 : decode cX13_given 155 = .ok (.iaload, 1) := by decide +kernel
theorem dX13_given_156 : decode cX13_given 156 = .ok (.iconst 1, 1) := by decide +kernel
theorem dX13_given_157 : decode cX13_given 157 = .ok (.iadd, 1) := by decide +kernel
theorem dX13_given_158 : decode cX13_given 158 = .ok (.iastore, 1) := by decide +kernel
theorem dX13_given_159 : decode cX13_given 159 = .ok (.iinc 1 1, 3) := by decide +kernel
theorem dX13_given_162 : decode cX13_given 162 = .ok (.goto (-152), 3) := by decide +kernel
theorem dX13_given_165 : decode cX13_given 165 = .ok (.aload_n 0, 1) := by decide +kernel
theorem dX13_given_166 : decode cX13_given 166 = .ok (.sipush 7343, 3) := by decide +kernel
theorem dX13_given_169 : decode cX13_given 169 = .ok (.invokevirtual 396, 3) := by decide +kernel
theorem dX13_given_172 : decode cX13_given 172 = .ok (.aload_n 0, 1) := by decide +kernel
theorem dX13_given_173 : decode cX13_given 173 = .ok (.getfield 402, 3) := by decide +kernel
theorem dX13_given_176 : decode cX13_given 176 = .ok (.sipush 7343, 3) := by decide +kernel
theorem dX13_given_179 : decode cX13_given 179 = .ok (.iconst 1, 1) := by decide +kernel
theorem dX13_given_180 : decode cX13_given 180 = .ok (.iastore, 1) := by decide +kernel
theorem dX13_given_181 : decode cX13_given 181 = .ok (.return_, 1) := by decide +kernel
theorem dX13_heads_0 : decode cX13_heads 0 = .ok (.iconst 0, 1) := by decide +kernel
theorem dX13_heads_1 : decode cX13_heads 1 = .ok (.istore_n 1, 1) := by decide +kernel
theorem dX13_heads_2 : decode cX13_heads 2 = .ok (.iload_n 1, 1) := by decide +kernel
theorem dX13_heads_3 : decode cX13_heads 3 = .ok (.aload_n 0, 1) := by decide +kernel
theorem dX13_heads_4 : decode cX13_heads 4 = .ok (.getfield 230, 3) := by decide +kernel
theorem dX13_heads_7 : decode cX13_heads 7 = .ok (.aload_n 0, 1) := by decide +kernel
theorem dX13_heads_8 : decode cX13_heads 8 = .ok (.getfield 84, 3) := by decide +kernel
theorem dX13_heads_11 : decode cX13_heads 11 = .ok (.iaload, 1) := by decide +kernel
theorem dX13_heads_12 : decode cX13_heads 12 = .ok (.if_icmp .ge 29, 3) := by decide +kernel
theorem dX13_heads_41 : decode cX13_heads 41 = .ok (.iconst 0, 1) := by decide +kernel
theorem dX13_heads_42 : decode cX13_heads 42 = .ok (.istore_n 1, 1) := by decide +kernel
theorem dX13_heads_43 : decode cX13_heads 43 = .ok (.iload_n 1, 1) := by decide +kernel
theorem dX13_heads_44 : decode cX13_heads 44 = .ok (.aload_n 0, 1) := by decide +kernel
theorem dX13_heads_45 : decode cX13_heads 45 = .ok (.getfield 230, 3) := by decide +kernel
theorem dX13_heads_48 : decode cX13_heads 48 = .ok (.aload_n 0, 1) := by decide +kernel
theorem dX13_heads_49 : decode cX13_heads 49 = .ok (.getfield 84, 3) := by decide +kernel
theorem dX13_heads_52 : decode cX13_heads 52 = .ok (.iaload, 1) := by decide +kernel
theorem dX13_heads_53 : decode cX13_heads 53 = .ok (.if_icmp .ge 46, 3) := by decide +kernel
theorem dX13_heads_99 : decode cX13_heads 99 = .ok (.return_, 1) := by decide +kernel
theorem dX13_membersOf_0 : decode cX13_membersOf 0 = .ok (.iconst 0, 1) := by decide +kernel
theorem dX13_membersOf_1 : decode cX13_membersOf 1 = .ok (.istore_n 1, 1) := by decide +kernel
theorem dX13_membersOf_2 : decode cX13_membersOf 2 = .ok (.iload_n 1, 1) := by decide +kernel
theorem dX13_membersOf_3 : decode cX13_membersOf 3 = .ok (.aload_n 0, 1) := by decide +kernel
theorem dX13_membersOf_4 : decode cX13_membersOf 4 = .ok (.getfield 230, 3) := by decide +kernel
theorem dX13_membersOf_7 : decode cX13_membersOf 7 = .ok (.aload_n 0, 1) := by decide +kernel
theorem dX13_membersOf_8 : decode cX13_membersOf 8 = .ok (.getfield 84, 3) := by decide +kernel
theorem dX13_membersOf_11 : decode cX13_membersOf 11 = .ok (.iaload, 1) := by decide +kernel
theorem dX13_membersOf_12 : decode cX13_membersOf 12 = .ok (.if_icmp .ge 308, 3) := by decide +kernel
theorem dX13_membersOf_320 : decode cX13_membersOf 320 = .ok (.return_, 1) := by decide +kernel
theorem dX13_againstAbove_0 : decode cX13_againstAbove 0 = .ok (.iconst 0, 1) := by decide +kernel
theorem dX13_againstAbove_1 : decode cX13_againstAbove 1 = .ok (.istore_n 1, 1) := by decide +kernel
theorem dX13_againstAbove_2 : decode cX13_againstAbove 2 = .ok (.iload_n 1, 1) := by decide +kernel
theorem dX13_againstAbove_3 : decode cX13_againstAbove 3 = .ok (.aload_n 0, 1) := by decide +kernel
theorem dX13_againstAbove_4 : decode cX13_againstAbove 4 = .ok (.getfield 230, 3) := by decide +kernel
theorem dX13_againstAbove_7 : decode cX13_againstAbove 7 = .ok (.aload_n 0, 1) := by decide +kernel
theorem dX13_againstAbove_8 : decode cX13_againstAbove 8 = .ok (.getfield 84, 3) := by decide +kernel
theorem dX13_againstAbove_11 : decode cX13_againstAbove 11 = .ok (.iaload, 1) := by decide +kernel
theorem dX13_againstAbove_12 : decode cX13_againstAbove 12 = .ok (.if_icmp .ge 123, 3) := by decide +kernel
theorem dX13_againstAbove_135 : decode cX13_againstAbove 135 = .ok (.return_, 1) := by decide +kernel
theorem dX13_makersAndBridges_0 : decode cX13_makersAndBridges 0 = .ok (.iconst 0, 1) := by decide +kernel
theorem dX13_makersAndBridges_1 : decode cX13_makersAndBridges 1 = .ok (.istore_n 1, 1) := by decide +kernel
theorem dX13_makersAndBridges_2 : decode cX13_makersAndBridges 2 = .ok (.iload_n 1, 1) := by decide +kernel
theorem dX13_makersAndBridges_3 : decode cX13_makersAndBridges 3 = .ok (.aload_n 0, 1) := by decide +kernel
theorem dX13_makersAndBridges_4 : decode cX13_makersAndBridges 4 = .ok (.getfield 230, 3) := by decide +kernel
theorem dX13_makersAndBridges_7 : decode cX13_makersAndBridges 7 = .ok (.aload_n 0, 1) := by decide +kernel
theorem dX13_makersAndBridges_8 : decode cX13_makersAndBridges 8 = .ok (.getfield 84, 3) := by decide +kernel
theorem dX13_makersAndBridges_11 : decode cX13_makersAndBridges 11 = .ok (.iaload, 1) := by decide +kernel
theorem dX13_makersAndBridges_12 : decode cX13_makersAndBridges 12 = .ok (.if_icmp .ge 170, 3) := by decide +kernel
theorem dX13_makersAndBridges_182 : decode cX13_makersAndBridges 182 = .ok (.iconst 0, 1) := by decide +kernel
theorem dX13_makersAndBridges_183 : decode cX13_makersAndBridges 183 = .ok (.istore_n 1, 1) := by decide +kernel
theorem dX13_makersAndBridges_184 : decode cX13_makersAndBridges 184 = .ok (.iload_n 1, 1) := by decide +kernel
theorem dX13_makersAndBridges_185 : decode cX13_makersAndBridges 185 = .ok (.aload_n 0, 1) := by decide +kernel
theorem dX13_makersAndBridges_186 : decode cX13_makersAndBridges 186 = .ok (.getfield 230, 3) := by decide +kernel
theorem dX13_makersAndBridges_189 : decode cX13_makersAndBridges 189 = .ok (.aload_n 0, 1) := by decide +kernel
theorem dX13_makersAndBridges_190 : decode cX13_makersAndBridges 190 = .ok (.getfield 84, 3) := by decide +kernel
theorem dX13_makersAndBridges_193 : decode cX13_makersAndBridges 193 = .ok (.iaload, 1) := by decide +kernel
theorem dX13_makersAndBridges_194 : decode cX13_makersAndBridges 194 = .ok (.if_icmp .ge 29, 3) := by decide +kernel
theorem dX13_makersAndBridges_223 : decode cX13_makersAndBridges 223 = .ok (.return_, 1) := by decide +kernel
theorem dX13_lacking_0 : decode cX13_lacking 0 = .ok (.iconst 0, 1) := by decide +kernel
theorem dX13_lacking_1 : decode cX13_lacking 1 = .ok (.istore_n 1, 1) := by decide +kernel
theorem dX13_lacking_2 : decode cX13_lacking 2 = .ok (.iload_n 1, 1) := by decide +kernel
theorem dX13_lacking_3 : decode cX13_lacking 3 = .ok (.aload_n 0, 1) := by decide +kernel
theorem dX13_lacking_4 : decode cX13_lacking 4 = .ok (.getfield 230, 3) := by decide +kernel
theorem dX13_lacking_7 : decode cX13_lacking 7 = .ok (.aload_n 0, 1) := by decide +kernel
theorem dX13_lacking_8 : decode cX13_lacking 8 = .ok (.getfield 84, 3) := by decide +kernel
theorem dX13_lacking_11 : decode cX13_lacking 11 = .ok (.iaload, 1) := by decide +kernel
theorem dX13_lacking_12 : decode cX13_lacking 12 = .ok (.if_icmp .ge 123, 3) := by decide +kernel
theorem dX13_lacking_135 : decode cX13_lacking 135 = .ok (.return_, 1) := by decide +kernel
theorem dX13_constants_0 : decode cX13_constants 0 = .ok (.iconst 0, 1) := by decide +kernel
theorem dX13_constants_1 : decode cX13_constants 1 = .ok (.istore_n 1, 1) := by decide +kernel
theorem dX13_constants_2 : decode cX13_constants 2 = .ok (.iload_n 1, 1) := by decide +kernel
theorem dX13_constants_3 : decode cX13_constants 3 = .ok (.aload_n 0, 1) := by decide +kernel
theorem dX13_constants_4 : decode cX13_constants 4 = .ok (.getfield 230, 3) := by decide +kernel
theorem dX13_constants_7 : decode cX13_constants 7 = .ok (.aload_n 0, 1) := by decide +kernel
theorem dX13_constants_8 : decode cX13_constants 8 = .ok (.getfield 84, 3) := by decide +kernel
theorem dX13_constants_11 : decode cX13_constants 11 = .ok (.iaload, 1) := by decide +kernel
theorem dX13_constants_12 : decode cX13_constants 12 = .ok (.if_icmp .ge 164, 3) := by decide +kernel
theorem dX13_constants_176 : decode cX13_constants 176 = .ok (.return_, 1) := by decide +kernel
theorem dX13_bodies_0 : decode cX13_bodies 0 = .ok (.iconst 0, 1) := by decide +kernel
theorem dX13_bodies_1 : decode cX13_bodies 1 = .ok (.istore_n 1, 1) := by decide +kernel
theorem dX13_bodies_2 : decode cX13_bodies 2 = .ok (.iload_n 1, 1) := by decide +kernel
theorem dX13_bodies_3 : decode cX13_bodies 3 = .ok (.aload_n 0, 1) := by decide +kernel
theorem dX13_bodies_4 : decode cX13_bodies 4 = .ok (.getfield 230, 3) := by decide +kernel
theorem dX13_bodies_7 : decode cX13_bodies 7 = .ok (.aload_n 0, 1) := by decide +kernel
theorem dX13_bodies_8 : decode cX13_bodies 8 = .ok (.getfield 84, 3) := by decide +kernel
theorem dX13_bodies_11 : decode cX13_bodies 11 = .ok (.iaload, 1) := by decide +kernel
theorem dX13_bodies_12 : decode cX13_bodies 12 = .ok (.if_icmp .ge 76, 3) := by decide +kernel
theorem dX13_bodies_88 : decode cX13_bodies 88 = .ok (.return_, 1) := by decide +kernel
theorem dX13_usesOfAll_0 : decode cX13_usesOfAll 0 = .ok (.aload_n 0, 1) := by decide +kernel
theorem dX13_usesOfAll_1 : decode cX13_usesOfAll 1 = .ok (.getfield 863, 3) := by decide +kernel
theorem dX13_usesOfAll_4 : decode cX13_usesOfAll 4 = .ok (.aload_n 0, 1) := by decide +kernel
theorem dX13_usesOfAll_5 : decode cX13_usesOfAll 5 = .ok (.getfield 84, 3) := by decide +kernel
theorem dX13_usesOfAll_8 : decode cX13_usesOfAll 8 = .ok (.iconst 0, 1) := by decide +kernel
theorem dX13_usesOfAll_9 : decode cX13_usesOfAll 9 = .ok (.iastore, 1) := by decide +kernel
theorem dX13_usesOfAll_10 : decode cX13_usesOfAll 10 = .ok (.iconst 0, 1) := by decide +kernel
theorem dX13_usesOfAll_11 : decode cX13_usesOfAll 11 = .ok (.istore_n 1, 1) := by decide +kernel
theorem dX13_usesOfAll_12 : decode cX13_usesOfAll 12 = .ok (.iload_n 1, 1) := by decide +kernel
theorem dX13_usesOfAll_13 : decode cX13_usesOfAll 13 = .ok (.aload_n 0, 1) := by decide +kernel
theorem dX13_usesOfAll_14 : decode cX13_usesOfAll 14 = .ok (.getfield 230, 3) := by decide +kernel
theorem dX13_usesOfAll_17 : decode cX13_usesOfAll 17 = .ok (.aload_n 0, 1) := by decide +kernel
theorem dX13_usesOfAll_18 : decode cX13_usesOfAll 18 = .ok (.getfield 84, 3) := by decide +kernel
theorem dX13_usesOfAll_21 : decode cX13_usesOfAll 21 = .ok (.iaload, 1) := by decide +kernel
theorem dX13_usesOfAll_22 : decode cX13_usesOfAll 22 = .ok (.if_icmp .ge 22, 3) := by decide +kernel
theorem dX13_usesOfAll_44 : decode cX13_usesOfAll 44 = .ok (.return_, 1) := by decide +kernel
theorem dX13_make_0 : decode cX13_make 0 = .ok (.aload_n 0, 1) := by decide +kernel
theorem dX13_make_1 : decode cX13_make 1 = .ok (.iload_n 1, 1) := by decide +kernel
theorem dX13_make_2 : decode cX13_make 2 = .ok (.invokevirtual 944, 3) := by decide +kernel
theorem dX13_make_5 : decode cX13_make 5 = .ok (.ifCond .ne 5, 3) := by decide +kernel
theorem dX13_make_8 : decode cX13_make 8 = .ok (.iconst (-1), 1) := by decide +kernel
theorem dX13_make_9 : decode cX13_make 9 = .ok (.ireturn, 1) := by decide +kernel
theorem dX13_make_10 : decode cX13_make 10 = .ok (.aload_n 0, 1) := by decide +kernel
theorem dX13_make_11 : decode cX13_make 11 = .ok (.getfield 947, 3) := by decide +kernel
theorem dX13_make_14 : decode cX13_make 14 = .ok (.iload_n 1, 1) := by decide +kernel
theorem dX13_make_15 : decode cX13_make 15 = .ok (.iaload, 1) := by decide +kernel
theorem dX13_make_16 : decode cX13_make 16 = .ok (.bipush 8, 2) := by decide +kernel
theorem dX13_make_18 : decode cX13_make 18 = .ok (.if_icmp .eq 12, 3) := by decide +kernel
theorem dX13_make_21 : decode cX13_make 21 = .ok (.aload_n 0, 1) := by decide +kernel
theorem dX13_make_22 : decode cX13_make 22 = .ok (.getfield 950, 3) := by decide +kernel
theorem dX13_make_25 : decode cX13_make 25 = .ok (.bipush 16, 2) := by decide +kernel
theorem dX13_make_27 : decode cX13_make 27 = .ok (.if_icmp .ne 6, 3) := by decide +kernel
theorem dX13_make_33 : decode cX13_make 33 = .ok (.aload_n 0, 1) := by decide +kernel
theorem dX13_make_34 : decode cX13_make 34 = .ok (.aload_n 0, 1) := by decide +kernel
theorem dX13_make_35 : decode cX13_make 35 = .ok (.getfield 950, 3) := by decide +kernel
theorem dX13_make_38 : decode cX13_make 38 = .ok (.putfield 84, 3) := by decide +kernel
theorem dX13_make_41 : decode cX13_make 41 = .ok (.iconst 0, 1) := by decide +kernel
theorem dX13_make_42 : decode cX13_make 42 = .ok (.istore_n 2, 1) := by decide +kernel
theorem dX13_make_43 : decode cX13_make 43 = .ok (.iload_n 2, 1) := by decide +kernel
theorem dX13_make_44 : decode cX13_make 44 = .ok (.aload_n 0, 1) := by decide +kernel
theorem dX13_make_45 : decode cX13_make 45 = .ok (.getfield 57, 3) := by decide +kernel
theorem dX13_make_48 : decode cX13_make 48 = .ok (.if_icmp .ge 31, 3) := by decide +kernel
theorem dX13_make_79 : decode cX13_make 79 = .ok (.aload_n 0, 1) := by decide +kernel
theorem dX13_make_80 : decode cX13_make 80 = .ok (.getfield 81, 3) := by decide +kernel
theorem dX13_make_83 : decode cX13_make 83 = .ok (.aload_n 0, 1) := by decide +kernel
theorem dX13_make_84 : decode cX13_make 84 = .ok (.getfield 84, 3) := by decide +kernel
theorem dX13_make_87 : decode cX13_make 87 = .ok (.aload_n 0, 1) := by decide +kernel
theorem dX13_make_88 : decode cX13_make 88 = .ok (.getfield 57, 3) := by decide +kernel
theorem dX13_make_91 : decode cX13_make 91 = .ok (.iastore, 1) := by decide +kernel
theorem dX13_make_92 : decode cX13_make 92 = .ok (.aload_n 0, 1) := by decide +kernel
theorem dX13_make_93 : decode cX13_make 93 = .ok (.getfield 538, 3) := by decide +kernel
theorem dX13_make_96 : decode cX13_make 96 = .ok (.aload_n 0, 1) := by decide +kernel
theorem dX13_make_97 : decode cX13_make 97 = .ok (.getfield 84, 3) := by decide +kernel
theorem dX13_make_100 : decode cX13_make 100 = .ok (.iload_n 1, 1) := by decide +kernel
theorem dX13_make_101 : decode cX13_make 101 = .ok (.iastore, 1) := by decide +kernel
theorem dX13_make_102 : decode cX13_make 102 = .ok (.aload_n 0, 1) := by decide +kernel
theorem dX13_make_103 : decode cX13_make 103 = .ok (.iconst 0, 1) := by decide +kernel
theorem dX13_make_104 : decode cX13_make 104 = .ok (.putfield 57, 3) := by decide +kernel
theorem dX13_make_107 : decode cX13_make 107 = .ok (.aload_n 0, 1) := by decide +kernel
theorem dX13_make_108 : decode cX13_make 108 = .ok (.iconst 0, 1) := by decide +kernel
theorem dX13_make_109 : decode cX13_make 109 = .ok (.putfield 129, 3) := by decide +kernel
theorem dX13_make_112 : decode cX13_make 112 = .ok (.aload_n 0, 1) := by decide +kernel
theorem dX13_make_113 : decode cX13_make 113 = .ok (.bipush (-2), 2) := by decide +kernel
theorem dX13_make_115 : decode cX13_make 115 = .ok (.putfield 132, 3) := by decide +kernel
theorem dX13_make_118 : decode cX13_make 118 = .ok (.aload_n 0, 1) := by decide +kernel
theorem dX13_make_119 : decode cX13_make 119 = .ok (.invokevirtual 953, 3) := by decide +kernel
theorem dX13_make_122 : decode cX13_make 122 = .ok (.aload_n 0, 1) := by decide +kernel
theorem dX13_make_123 : decode cX13_make 123 = .ok (.invokevirtual 956, 3) := by decide +kernel
theorem dX13_make_126 : decode cX13_make 126 = .ok (.aload_n 0, 1) := by decide +kernel
theorem dX13_make_127 : decode cX13_make 127 = .ok (.getfield 129, 3) := by decide +kernel
theorem dX13_make_130 : decode cX13_make 130 = .ok (.ifCond .ne 7, 3) := by decide +kernel
theorem dX13_make_133 : decode cX13_make 133 = .ok (.aload_n 0, 1) := by decide +kernel
theorem dX13_make_134 : decode cX13_make 134 = .ok (.invokevirtual 959, 3) := by decide +kernel
theorem dX13_make_137 : decode cX13_make 137 = .ok (.aload_n 0, 1) := by decide +kernel
theorem dX13_make_138 : decode cX13_make 138 = .ok (.aload_n 0, 1) := by decide +kernel
theorem dX13_make_139 : decode cX13_make 139 = .ok (.getfield 129, 3) := by decide +kernel
theorem dX13_make_142 : decode cX13_make 142 = .ok (.ifCond .ne 8, 3) := by decide +kernel
theorem dX13_make_145 : decode cX13_make 145 = .ok (.bipush (-2), 2) := by decide +kernel
theorem dX13_make_147 : decode cX13_make 147 = .ok (.goto 7, 3) := by decide +kernel
theorem dX13_make_154 : decode cX13_make 154 = .ok (.putfield 962, 3) := by decide +kernel
theorem dX13_make_157 : decode cX13_make 157 = .ok (.aload_n 0, 1) := by decide +kernel
theorem dX13_make_158 : decode cX13_make 158 = .ok (.getfield 129, 3) := by decide +kernel
theorem dX13_make_161 : decode cX13_make 161 = .ok (.ifCond .eq 11, 3) := by decide +kernel
theorem dX13_make_172 : decode cX13_make 172 = .ok (.aload_n 0, 1) := by decide +kernel
theorem dX13_make_173 : decode cX13_make 173 = .ok (.getfield 965, 3) := by decide +kernel
theorem dX13_make_176 : decode cX13_make 176 = .ok (.bipush 8, 2) := by decide +kernel
theorem dX13_make_178 : decode cX13_make 178 = .ok (.iload_n 1, 1) := by decide +kernel
theorem dX13_make_179 : decode cX13_make 179 = .ok (.imul, 1) := by decide +kernel
theorem dX13_make_180 : decode cX13_make 180 = .ok (.aload_n 0, 1) := by decide +kernel
theorem dX13_make_181 : decode cX13_make 181 = .ok (.getfield 947, 3) := by decide +kernel
theorem dX13_make_184 : decode cX13_make 184 = .ok (.iload_n 1, 1) := by decide +kernel
theorem dX13_make_185 : decode cX13_make 185 = .ok (.iaload, 1) := by decide +kernel
theorem dX13_make_186 : decode cX13_make 186 = .ok (.iadd, 1) := by decide +kernel
theorem dX13_make_187 : decode cX13_make 187 = .ok (.aload_n 0, 1) := by decide +kernel
theorem dX13_make_188 : decode cX13_make 188 = .ok (.getfield 84, 3) := by decide +kernel
theorem dX13_make_191 : decode cX13_make 191 = .ok (.iastore, 1) := by decide +kernel
theorem dX13_make_192 : decode cX13_make 192 = .ok (.aload_n 0, 1) := by decide +kernel
theorem dX13_make_193 : decode cX13_make 193 = .ok (.getfield 947, 3) := by decide +kernel
theorem dX13_make_196 : decode cX13_make 196 = .ok (.iload_n 1, 1) := by decide +kernel
theorem dX13_make_197 : decode cX13_make 197 = .ok (.dup2, 1) := by decide +kernel
theorem dX13_make_198 : decode cX13_make 198 = .ok (.iaload, 1) := by decide +kernel
theorem dX13_make_199 : decode cX13_make 199 = .ok (.iconst 1, 1) := by decide +kernel
theorem dX13_make_200 : decode cX13_make 200 = .ok (.iadd, 1) := by decide +kernel
theorem dX13_make_201 : decode cX13_make 201 = .ok (.iastore, 1) := by decide +kernel
theorem dX13_make_202 : decode cX13_make 202 = .ok (.aload_n 0, 1) := by decide +kernel
theorem dX13_make_203 : decode cX13_make 203 = .ok (.dup, 1) := by decide +kernel
theorem dX13_make_204 : decode cX13_make 204 = .ok (.getfield 950, 3) := by decide +kernel
theorem dX13_make_207 : decode cX13_make 207 = .ok (.iconst 1, 1) := by decide +kernel
theorem dX13_make_208 : decode cX13_make 208 = .ok (.iadd, 1) := by decide +kernel
theorem dX13_make_209 : decode cX13_make 209 = .ok (.putfield 950, 3) := by decide +kernel
theorem dX13_make_212 : decode cX13_make 212 = .ok (.aload_n 0, 1) := by decide +kernel
theorem dX13_make_213 : decode cX13_make 213 = .ok (.getfield 947, 3) := by decide +kernel
theorem dX13_make_216 : decode cX13_make 216 = .ok (.iload_n 1, 1) := by decide +kernel
theorem dX13_make_217 : decode cX13_make 217 = .ok (.iaload, 1) := by decide +kernel
theorem dX13_make_218 : decode cX13_make 218 = .ok (.iconst 1, 1) := by decide +kernel
theorem dX13_make_219 : decode cX13_make 219 = .ok (.isub, 1) := by decide +kernel
theorem dX13_make_220 : decode cX13_make 220 = .ok (.ireturn, 1) := by decide +kernel
theorem dX13_judgeAll_0 : decode cX13_judgeAll 0 = .ok (.aload_n 0, 1) := by decide +kernel
theorem dX13_judgeAll_1 : decode cX13_judgeAll 1 = .ok (.aload_n 0, 1) := by decide +kernel
theorem dX13_judgeAll_2 : decode cX13_judgeAll 2 = .ok (.getfield 84, 3) := by decide +kernel
theorem dX13_judgeAll_5 : decode cX13_judgeAll 5 = .ok (.putfield 528, 3) := by decide +kernel
theorem dX13_judgeAll_8 : decode cX13_judgeAll 8 = .ok (.aload_n 0, 1) := by decide +kernel
theorem dX13_judgeAll_9 : decode cX13_judgeAll 9 = .ok (.invokevirtual 968, 3) := by decide +kernel
theorem dX13_judgeAll_12 : decode cX13_judgeAll 12 = .ok (.aload_n 0, 1) := by decide +kernel
theorem dX13_judgeAll_13 : decode cX13_judgeAll 13 = .ok (.getfield 129, 3) := by decide +kernel
theorem dX13_judgeAll_16 : decode cX13_judgeAll 16 = .ok (.ifCond .ne 7, 3) := by decide +kernel
theorem dX13_judgeAll_19 : decode cX13_judgeAll 19 = .ok (.aload_n 0, 1) := by decide +kernel
theorem dX13_judgeAll_20 : decode cX13_judgeAll 20 = .ok (.invokevirtual 971, 3) := by decide +kernel
theorem dX13_judgeAll_23 : decode cX13_judgeAll 23 = .ok (.aload_n 0, 1) := by decide +kernel
theorem dX13_judgeAll_24 : decode cX13_judgeAll 24 = .ok (.getfield 129, 3) := by decide +kernel
theorem dX13_judgeAll_27 : decode cX13_judgeAll 27 = .ok (.ifCond .ne 7, 3) := by decide +kernel
theorem dX13_judgeAll_30 : decode cX13_judgeAll 30 = .ok (.aload_n 0, 1) := by decide +kernel
theorem dX13_judgeAll_31 : decode cX13_judgeAll 31 = .ok (.invokevirtual 974, 3) := by decide +kernel
theorem dX13_judgeAll_34 : decode cX13_judgeAll 34 = .ok (.aload_n 0, 1) := by decide +kernel
theorem dX13_judgeAll_35 : decode cX13_judgeAll 35 = .ok (.getfield 129, 3) := by decide +kernel
theorem dX13_judgeAll_38 : decode cX13_judgeAll 38 = .ok (.ifCond .ne 7, 3) := by decide +kernel
theorem dX13_judgeAll_41 : decode cX13_judgeAll 41 = .ok (.aload_n 0, 1) := by decide +kernel
theorem dX13_judgeAll_42 : decode cX13_judgeAll 42 = .ok (.invokevirtual 977, 3) := by decide +kernel
theorem dX13_judgeAll_45 : decode cX13_judgeAll 45 = .ok (.aload_n 0, 1) := by decide +kernel
theorem dX13_judgeAll_46 : decode cX13_judgeAll 46 = .ok (.getfield 129, 3) := by decide +kernel
theorem dX13_judgeAll_49 : decode cX13_judgeAll 49 = .ok (.ifCond .ne 7, 3) := by decide +kernel
theorem dX13_judgeAll_52 : decode cX13_judgeAll 52 = .ok (.aload_n 0, 1) := by decide +kernel
theorem dX13_judgeAll_53 : decode cX13_judgeAll 53 = .ok (.invokevirtual 980, 3) := by decide +kernel
theorem dX13_judgeAll_56 : decode cX13_judgeAll 56 = .ok (.aload_n 0, 1) := by decide +kernel
theorem dX13_judgeAll_57 : decode cX13_judgeAll 57 = .ok (.getfield 129, 3) := by decide +kernel
theorem dX13_judgeAll_60 : decode cX13_judgeAll 60 = .ok (.ifCond .ne 11, 3) := by decide +kernel
theorem dX13_judgeAll_63 : decode cX13_judgeAll 63 = .ok (.aload_n 0, 1) := by decide +kernel
theorem dX13_judgeAll_64 : decode cX13_judgeAll 64 = .ok (.invokevirtual 983, 3) := by decide +kernel
theorem dX13_judgeAll_67 : decode cX13_judgeAll 67 = .ok (.aload_n 0, 1) := by decide +kernel
theorem dX13_judgeAll_68 : decode cX13_judgeAll 68 = .ok (.invokevirtual 986, 3) := by decide +kernel
theorem dX13_judgeAll_71 : decode cX13_judgeAll 71 = .ok (.aload_n 0, 1) := by decide +kernel
theorem dX13_judgeAll_72 : decode cX13_judgeAll 72 = .ok (.getfield 129, 3) := by decide +kernel
theorem dX13_judgeAll_75 : decode cX13_judgeAll 75 = .ok (.ifCond .ne 7, 3) := by decide +kernel
theorem dX13_judgeAll_78 : decode cX13_judgeAll 78 = .ok (.aload_n 0, 1) := by decide +kernel
theorem dX13_judgeAll_79 : decode cX13_judgeAll 79 = .ok (.invokevirtual 989, 3) := by decide +kernel
theorem dX13_judgeAll_82 : decode cX13_judgeAll 82 = .ok (.aload_n 0, 1) := by decide +kernel
theorem dX13_judgeAll_83 : decode cX13_judgeAll 83 = .ok (.bipush (-2), 2) := by decide +kernel
theorem dX13_judgeAll_85 : decode cX13_judgeAll 85 = .ok (.putfield 528, 3) := by decide +kernel
theorem dX13_judgeAll_88 : decode cX13_judgeAll 88 = .ok (.return_, 1) := by decide +kernel
theorem dX13_isLib_0 : decode cX13_isLib 0 = .ok (.iload_n 1, 1) := by decide +kernel
theorem dX13_isLib_1 : decode cX13_isLib 1 = .ok (.ifCond .lt 12, 3) := by decide +kernel
theorem dX13_isLib_4 : decode cX13_isLib 4 = .ok (.iload_n 1, 1) := by decide +kernel
theorem dX13_isLib_5 : decode cX13_isLib 5 = .ok (.iconst 5, 1) := by decide +kernel
theorem dX13_isLib_6 : decode cX13_isLib 6 = .ok (.if_icmp .ge 7, 3) := by decide +kernel
theorem dX13_isLib_9 : decode cX13_isLib 9 = .ok (.iconst 1, 1) := by decide +kernel
theorem dX13_isLib_10 : decode cX13_isLib 10 = .ok (.goto 4, 3) := by decide +kernel
theorem dX13_isLib_13 : decode cX13_isLib 13 = .ok (.iconst 0, 1) := by decide +kernel
theorem dX13_isLib_14 : decode cX13_isLib 14 = .ok (.ireturn, 1) := by decide +kernel
theorem dX13_slotAt_0 : decode cX13_slotAt 0 = .ok (.aload_n 0, 1) := by decide +kernel
theorem dX13_slotAt_1 : decode cX13_slotAt 1 = .ok (.iload_n 1, 1) := by decide +kernel
theorem dX13_slotAt_2 : decode cX13_slotAt 2 = .ok (.invokevirtual 944, 3) := by decide +kernel
theorem dX13_slotAt_5 : decode cX13_slotAt 5 = .ok (.ifCond .eq 31, 3) := by decide +kernel
theorem dX13_slotAt_8 : decode cX13_slotAt 8 = .ok (.iload_n 2, 1) := by decide +kernel
theorem dX13_slotAt_9 : decode cX13_slotAt 9 = .ok (.ifCond .lt 27, 3) := by decide +kernel
theorem dX13_slotAt_12 : decode cX13_slotAt 12 = .ok (.iload_n 2, 1) := by decide +kernel
theorem dX13_slotAt_13 : decode cX13_slotAt 13 = .ok (.aload_n 0, 1) := by decide +kernel
theorem dX13_slotAt_14 : decode cX13_slotAt 14 = .ok (.getfield 947, 3) := by decide +kernel
theorem dX13_slotAt_17 : decode cX13_slotAt 17 = .ok (.iload_n 1, 1) := by decide +kernel
theorem dX13_slotAt_18 : decode cX13_slotAt 18 = .ok (.iaload, 1) := by decide +kernel
theorem dX13_slotAt_19 : decode cX13_slotAt 19 = .ok (.if_icmp .ge 17, 3) := by decide +kernel
theorem dX13_slotAt_36 : decode cX13_slotAt 36 = .ok (.bipush (-2), 2) := by decide +kernel
theorem dX13_slotAt_38 : decode cX13_slotAt 38 = .ok (.ireturn, 1) := by decide +kernel
theorem dX13_place_0 : decode cX13_place 0 = .ok (.aload_n 0, 1) := by decide +kernel
theorem dX13_place_1 : decode cX13_place 1 = .ok (.getfield 962, 3) := by decide +kernel
theorem dX13_place_4 : decode cX13_place 4 = .ok (.ireturn, 1) := by decide +kernel
theorem dX13_builds_0 : decode cX13_builds 0 = .ok (.aload_n 0, 1) := by decide +kernel
theorem dX13_builds_1 : decode cX13_builds 1 = .ok (.iload_n 1, 1) := by decide +kernel
theorem dX13_builds_2 : decode cX13_builds 2 = .ok (.invokevirtual 944, 3) := by decide +kernel
theorem dX13_builds_5 : decode cX13_builds 5 = .ok (.ifCond .eq 12, 3) := by decide +kernel
theorem dX13_builds_8 : decode cX13_builds 8 = .ok (.aload_n 0, 1) := by decide +kernel
theorem dX13_builds_9 : decode cX13_builds 9 = .ok (.getfield 947, 3) := by decide +kernel
theorem dX13_builds_12 : decode cX13_builds 12 = .ok (.iload_n 1, 1) := by decide +kernel
theorem dX13_builds_13 : decode cX13_builds 13 = .ok (.iaload, 1) := by decide +kernel
theorem dX13_builds_14 : decode cX13_builds 14 = .ok (.goto 4, 3) := by decide +kernel
theorem dX13_builds_17 : decode cX13_builds 17 = .ok (.iconst (-1), 1) := by decide +kernel
theorem dX13_builds_18 : decode cX13_builds 18 = .ok (.ireturn, 1) := by decide +kernel
theorem dX13_text_0 : decode cX13_text 0 = .ok (.aload_n 0, 1) := by decide +kernel
theorem dX13_text_1 : decode cX13_text 1 = .ok (.iload_n 1, 1) := by decide +kernel
theorem dX13_text_2 : decode cX13_text 2 = .ok (.iload_n 2, 1) := by decide +kernel
theorem dX13_text_3 : decode cX13_text 3 = .ok (.invokevirtual 992, 3) := by decide +kernel
theorem dX13_text_6 : decode cX13_text 6 = .ok (.istore_n 3, 1) := by decide +kernel
theorem dX13_text_7 : decode cX13_text 7 = .ok (.iload_n 3, 1) := by decide +kernel
theorem dX13_text_8 : decode cX13_text 8 = .ok (.bipush (-2), 2) := by decide +kernel
theorem dX13_text_10 : decode cX13_text 10 = .ok (.if_icmp .ne 5, 3) := by decide +kernel
theorem dX13_text_13 : decode cX13_text 13 = .ok (.iconst (-1), 1) := by decide +kernel
theorem dX13_text_14 : decode cX13_text 14 = .ok (.ireturn, 1) := by decide +kernel
theorem dX13_pick_0 : decode cX13_pick 0 = .ok (.aload_n 0, 1) := by decide +kernel
theorem dX13_pick_1 : decode cX13_pick 1 = .ok (.iload_n 1, 1) := by decide +kernel
theorem dX13_pick_2 : decode cX13_pick 2 = .ok (.invokevirtual 944, 3) := by decide +kernel
theorem dX13_pick_5 : decode cX13_pick 5 = .ok (.ifCond .eq 20, 3) := by decide +kernel
theorem dX13_pick_8 : decode cX13_pick 8 = .ok (.iload_n 2, 1) := by decide +kernel
theorem dX13_pick_9 : decode cX13_pick 9 = .ok (.bipush (-2), 2) := by decide +kernel
theorem dX13_pick_11 : decode cX13_pick 11 = .ok (.if_icmp .eq 16, 3) := by decide +kernel
theorem dX13_pick_14 : decode cX13_pick 14 = .ok (.aload_n 0, 1) := by decide +kernel
theorem dX13_pick_15 : decode cX13_pick 15 = .ok (.iload_n 1, 1) := by decide +kernel
theorem dX13_pick_16 : decode cX13_pick 16 = .ok (.iload_n 2, 1) := by decide +kernel
theorem dX13_pick_17 : decode cX13_pick 17 = .ok (.invokevirtual 992, 3) := by decide +kernel
theorem dX13_pick_20 : decode cX13_pick 20 = .ok (.bipush (-2), 2) := by decide +kernel
theorem dX13_pick_22 : decode cX13_pick 22 = .ok (.if_icmp .ne 5, 3) := by decide +kernel
theorem dX13_pick_25 : decode cX13_pick 25 = .ok (.iconst (-1), 1) := by decide +kernel
theorem dX13_pick_26 : decode cX13_pick 26 = .ok (.ireturn, 1) := by decide +kernel
theorem dX13_pick_27 : decode cX13_pick 27 = .ok (.aload_n 0, 1) := by decide +kernel
theorem dX13_pick_28 : decode cX13_pick 28 = .ok (.iload_n 1, 1) := by decide +kernel
theorem dX13_pick_29 : decode cX13_pick 29 = .ok (.invokevirtual 995, 3) := by decide +kernel
theorem dX13_pick_32 : decode cX13_pick 32 = .ok (.istore_n 3, 1) := by decide +kernel
theorem dX13_pick_33 : decode cX13_pick 33 = .ok (.aload_n 0, 1) := by decide +kernel
theorem dX13_pick_34 : decode cX13_pick 34 = .ok (.getfield 535, 3) := by decide +kernel
theorem dX13_pick_37 : decode cX13_pick 37 = .ok (.iload_n 1, 1) := by decide +kernel
theorem dX13_pick_38 : decode cX13_pick 38 = .ok (.iload_n 2, 1) := by decide +kernel
theorem dX13_pick_39 : decode cX13_pick 39 = .ok (.bipush (-2), 2) := by decide +kernel
theorem dX13_pick_41 : decode cX13_pick 41 = .ok (.if_icmp .ne 8, 3) := by decide +kernel
theorem dX13_pick_44 : decode cX13_pick 44 = .ok (.bipush (-2), 2) := by decide +kernel
theorem dX13_pick_46 : decode cX13_pick 46 = .ok (.goto 9, 3) := by decide +kernel
theorem dX13_pick_55 : decode cX13_pick 55 = .ok (.iastore, 1) := by decide +kernel
theorem dX13_pick_56 : decode cX13_pick 56 = .ok (.aload_n 0, 1) := by decide +kernel
theorem dX13_pick_57 : decode cX13_pick 57 = .ok (.invokevirtual 998, 3) := by decide +kernel
theorem dX13_pick_60 : decode cX13_pick 60 = .ok (.iload_n 3, 1) := by decide +kernel
theorem dX13_pick_61 : decode cX13_pick 61 = .ok (.ireturn, 1) := by decide +kernel
theorem dX13_picked_0 : decode cX13_picked 0 = .ok (.aload_n 0, 1) := by decide +kernel
theorem dX13_picked_1 : decode cX13_picked 1 = .ok (.iload_n 1, 1) := by decide +kernel
theorem dX13_picked_2 : decode cX13_picked 2 = .ok (.invokevirtual 944, 3) := by decide +kernel
theorem dX13_picked_5 : decode cX13_picked 5 = .ok (.ifCond .ne 7, 3) := by decide +kernel
theorem dX13_picked_8 : decode cX13_picked 8 = .ok (.iconst (-1), 1) := by decide +kernel
theorem dX13_picked_9 : decode cX13_picked 9 = .ok (.goto 29, 3) := by decide +kernel
theorem dX13_picked_12 : decode cX13_picked 12 = .ok (.aload_n 0, 1) := by decide +kernel
theorem dX13_picked_13 : decode cX13_picked 13 = .ok (.getfield 535, 3) := by decide +kernel
theorem dX13_picked_16 : decode cX13_picked 16 = .ok (.iload_n 1, 1) := by decide +kernel
theorem dX13_picked_17 : decode cX13_picked 17 = .ok (.iaload, 1) := by decide +kernel
theorem dX13_picked_18 : decode cX13_picked 18 = .ok (.bipush (-2), 2) := by decide +kernel
theorem dX13_picked_20 : decode cX13_picked 20 = .ok (.if_icmp .ne 8, 3) := by decide +kernel
theorem dX13_picked_23 : decode cX13_picked 23 = .ok (.bipush (-2), 2) := by decide +kernel
theorem dX13_picked_25 : decode cX13_picked 25 = .ok (.goto 13, 3) := by decide +kernel
theorem dX13_picked_38 : decode cX13_picked 38 = .ok (.ireturn, 1) := by decide +kernel
theorem dX13_classes_0 : decode cX13_classes 0 = .ok (.aload_n 0, 1) := by decide +kernel
theorem dX13_classes_1 : decode cX13_classes 1 = .ok (.iload_n 1, 1) := by decide +kernel
theorem dX13_classes_2 : decode cX13_classes 2 = .ok (.iload_n 2, 1) := by decide +kernel
theorem dX13_classes_3 : decode cX13_classes 3 = .ok (.invokevirtual 992, 3) := by decide +kernel
theorem dX13_classes_6 : decode cX13_classes 6 = .ok (.istore_n 3, 1) := by decide +kernel
theorem dX13_classes_7 : decode cX13_classes 7 = .ok (.iload_n 3, 1) := by decide +kernel
theorem dX13_classes_8 : decode cX13_classes 8 = .ok (.bipush (-2), 2) := by decide +kernel
theorem dX13_classes_10 : decode cX13_classes 10 = .ok (.if_icmp .ne 7, 3) := by decide +kernel
theorem dX13_classes_13 : decode cX13_classes 13 = .ok (.iconst (-1), 1) := by decide +kernel
theorem dX13_classes_14 : decode cX13_classes 14 = .ok (.goto 9, 3) := by decide +kernel
theorem dX13_classes_23 : decode cX13_classes 23 = .ok (.ireturn, 1) := by decide +kernel
theorem dX13_classAt_0 : decode cX13_classAt 0 = .ok (.aload_n 0, 1) := by decide +kernel
theorem dX13_classAt_1 : decode cX13_classAt 1 = .ok (.iload_n 1, 1) := by decide +kernel
theorem dX13_classAt_2 : decode cX13_classAt 2 = .ok (.iload_n 2, 1) := by decide +kernel
theorem dX13_classAt_3 : decode cX13_classAt 3 = .ok (.invokevirtual 992, 3) := by decide +kernel
theorem dX13_classAt_6 : decode cX13_classAt 6 = .ok (.istore 4, 2) := by decide +kernel
theorem dX13_classAt_8 : decode cX13_classAt 8 = .ok (.iload 4, 2) := by decide +kernel
theorem dX13_classAt_10 : decode cX13_classAt 10 = .ok (.bipush (-2), 2) := by decide +kernel
theorem dX13_classAt_12 : decode cX13_classAt 12 = .ok (.if_icmp .eq 18, 3) := by decide +kernel
theorem dX13_classAt_30 : decode cX13_classAt 30 = .ok (.bipush (-2), 2) := by decide +kernel
theorem dX13_classAt_32 : decode cX13_classAt 32 = .ok (.goto 10, 3) := by decide +kernel
theorem dX13_classAt_42 : decode cX13_classAt 42 = .ok (.ireturn, 1) := by decide +kernel
theorem dX13_members_0 : decode cX13_members 0 = .ok (.aload_n 0, 1) := by decide +kernel
theorem dX13_members_1 : decode cX13_members 1 = .ok (.iload_n 1, 1) := by decide +kernel
theorem dX13_members_2 : decode cX13_members 2 = .ok (.iload_n 2, 1) := by decide +kernel
theorem dX13_members_3 : decode cX13_members 3 = .ok (.iload_n 3, 1) := by decide +kernel
theorem dX13_members_4 : decode cX13_members 4 = .ok (.invokevirtual 1004, 3) := by decide +kernel
theorem dX13_members_7 : decode cX13_members 7 = .ok (.istore 4, 2) := by decide +kernel
theorem dX13_members_9 : decode cX13_members 9 = .ok (.iload 4, 2) := by decide +kernel
theorem dX13_members_11 : decode cX13_members 11 = .ok (.bipush (-2), 2) := by decide +kernel
theorem dX13_members_13 : decode cX13_members 13 = .ok (.if_icmp .ne 7, 3) := by decide +kernel
theorem dX13_members_16 : decode cX13_members 16 = .ok (.iconst (-1), 1) := by decide +kernel
theorem dX13_members_17 : decode cX13_members 17 = .ok (.goto 9, 3) := by decide +kernel
theorem dX13_members_26 : decode cX13_members 26 = .ok (.ireturn, 1) := by decide +kernel
theorem dX13_shape_0 : decode cX13_shape 0 = .ok (.aload_n 0, 1) := by decide +kernel
theorem dX13_shape_1 : decode cX13_shape 1 = .ok (.iload_n 1, 1) := by decide +kernel
theorem dX13_shape_2 : decode cX13_shape 2 = .ok (.iload_n 2, 1) := by decide +kernel
theorem dX13_shape_3 : decode cX13_shape 3 = .ok (.iload_n 3, 1) := by decide +kernel
theorem dX13_shape_4 : decode cX13_shape 4 = .ok (.invokevirtual 1004, 3) := by decide +kernel
theorem dX13_shape_7 : decode cX13_shape 7 = .ok (.istore 5, 2) := by decide +kernel
theorem dX13_shape_9 : decode cX13_shape 9 = .ok (.iload 5, 2) := by decide +kernel
theorem dX13_shape_11 : decode cX13_shape 11 = .ok (.bipush (-2), 2) := by decide +kernel
theorem dX13_shape_13 : decode cX13_shape 13 = .ok (.if_icmp .eq 8, 3) := by decide +kernel
theorem dX13_shape_21 : decode cX13_shape 21 = .ok (.bipush (-2), 2) := by decide +kernel
theorem dX13_shape_23 : decode cX13_shape 23 = .ok (.goto 11, 3) := by decide +kernel
theorem dX13_shape_34 : decode cX13_shape 34 = .ok (.istore 6, 2) := by decide +kernel
theorem dX13_shape_36 : decode cX13_shape 36 = .ok (.iload 5, 2) := by decide +kernel
theorem dX13_shape_38 : decode cX13_shape 38 = .ok (.bipush (-2), 2) := by decide +kernel
theorem dX13_shape_40 : decode cX13_shape 40 = .ok (.if_icmp .eq 17, 3) := by decide +kernel
theorem dX13_shape_57 : decode cX13_shape 57 = .ok (.iconst (-1), 1) := by decide +kernel
theorem dX13_shape_58 : decode cX13_shape 58 = .ok (.ireturn, 1) := by decide +kernel
theorem dX13_uses_0 : decode cX13_uses 0 = .ok (.aload_n 0, 1) := by decide +kernel
theorem dX13_uses_1 : decode cX13_uses 1 = .ok (.iload_n 1, 1) := by decide +kernel
theorem dX13_uses_2 : decode cX13_uses 2 = .ok (.iload_n 2, 1) := by decide +kernel
theorem dX13_uses_3 : decode cX13_uses 3 = .ok (.invokevirtual 992, 3) := by decide +kernel
theorem dX13_uses_6 : decode cX13_uses 6 = .ok (.istore_n 3, 1) := by decide +kernel
theorem dX13_uses_7 : decode cX13_uses 7 = .ok (.iload_n 3, 1) := by decide +kernel
theorem dX13_uses_8 : decode cX13_uses 8 = .ok (.bipush (-2), 2) := by decide +kernel
theorem dX13_uses_10 : decode cX13_uses 10 = .ok (.if_icmp .ne 7, 3) := by decide +kernel
theorem dX13_uses_13 : decode cX13_uses 13 = .ok (.iconst (-1), 1) := by decide +kernel
theorem dX13_uses_14 : decode cX13_uses 14 = .ok (.goto 9, 3) := by decide +kernel
theorem dX13_uses_23 : decode cX13_uses 23 = .ok (.ireturn, 1) := by decide +kernel
theorem dX13_useAt_0 : decode cX13_useAt 0 = .ok (.aload_n 0, 1) := by decide +kernel
theorem dX13_useAt_1 : decode cX13_useAt 1 = .ok (.iload_n 1, 1) := by decide +kernel
theorem dX13_useAt_2 : decode cX13_useAt 2 = .ok (.iload_n 2, 1) := by decide +kernel
theorem dX13_useAt_3 : decode cX13_useAt 3 = .ok (.invokevirtual 992, 3) := by decide +kernel
theorem dX13_useAt_6 : decode cX13_useAt 6 = .ok (.istore 4, 2) := by decide +kernel
theorem dX13_useAt_8 : decode cX13_useAt 8 = .ok (.iload 4, 2) := by decide +kernel
theorem dX13_useAt_10 : decode cX13_useAt 10 = .ok (.bipush (-2), 2) := by decide +kernel
theorem dX13_useAt_12 : decode cX13_useAt 12 = .ok (.if_icmp .eq 18, 3) := by decide +kernel
theorem dX13_useAt_30 : decode cX13_useAt 30 = .ok (.bipush (-2), 2) := by decide +kernel
theorem dX13_useAt_32 : decode cX13_useAt 32 = .ok (.goto 11, 3) := by decide +kernel
theorem dX13_useAt_43 : decode cX13_useAt 43 = .ok (.ireturn, 1) := by decide +kernel
theorem dX13_use_0 : decode cX13_use 0 = .ok (.aload_n 0, 1) := by decide +kernel
theorem dX13_use_1 : decode cX13_use 1 = .ok (.iload_n 1, 1) := by decide +kernel
theorem dX13_use_2 : decode cX13_use 2 = .ok (.iload_n 2, 1) := by decide +kernel
theorem dX13_use_3 : decode cX13_use 3 = .ok (.iload_n 3, 1) := by decide +kernel
theorem dX13_use_4 : decode cX13_use 4 = .ok (.invokevirtual 1062, 3) := by decide +kernel
theorem dX13_use_7 : decode cX13_use 7 = .ok (.istore 5, 2) := by decide +kernel
theorem dX13_use_9 : decode cX13_use 9 = .ok (.iload 5, 2) := by decide +kernel
theorem dX13_use_11 : decode cX13_use 11 = .ok (.bipush (-2), 2) := by decide +kernel
theorem dX13_use_13 : decode cX13_use 13 = .ok (.if_icmp .eq 14, 3) := by decide +kernel
theorem dX13_use_27 : decode cX13_use 27 = .ok (.iconst (-1), 1) := by decide +kernel
theorem dX13_use_28 : decode cX13_use 28 = .ok (.goto 28, 3) := by decide +kernel
theorem dX13_use_56 : decode cX13_use 56 = .ok (.ireturn, 1) := by decide +kernel
theorem dX13_tell_0 : decode cX13_tell 0 = .ok (.aload_n 0, 1) := by decide +kernel
theorem dX13_tell_1 : decode cX13_tell 1 = .ok (.iload_n 1, 1) := by decide +kernel
theorem dX13_tell_2 : decode cX13_tell 2 = .ok (.iload_n 2, 1) := by decide +kernel
theorem dX13_tell_3 : decode cX13_tell 3 = .ok (.iload_n 3, 1) := by decide +kernel
theorem dX13_tell_4 : decode cX13_tell 4 = .ok (.invokevirtual 1062, 3) := by decide +kernel
theorem dX13_tell_7 : decode cX13_tell 7 = .ok (.istore 4, 2) := by decide +kernel
theorem dX13_tell_9 : decode cX13_tell 9 = .ok (.iload 4, 2) := by decide +kernel
theorem dX13_tell_11 : decode cX13_tell 11 = .ok (.bipush (-2), 2) := by decide +kernel
theorem dX13_tell_13 : decode cX13_tell 13 = .ok (.if_icmp .ne 5, 3) := by decide +kernel
theorem dX13_tell_16 : decode cX13_tell 16 = .ok (.iconst (-1), 1) := by decide +kernel
theorem dX13_tell_17 : decode cX13_tell 17 = .ok (.ireturn, 1) := by decide +kernel
theorem dX13_numberWorld_0 : decode cX13_numberWorld 0 = .ok (.iconst 0, 1) := by decide +kernel
theorem dX13_numberWorld_1 : decode cX13_numberWorld 1 = .ok (.istore_n 1, 1) := by decide +kernel
theorem dX13_numberWorld_2 : decode cX13_numberWorld 2 = .ok (.iload_n 1, 1) := by decide +kernel
theorem dX13_numberWorld_3 : decode cX13_numberWorld 3 = .ok (.sipush 216, 3) := by decide +kernel
theorem dX13_numberWorld_6 : decode cX13_numberWorld 6 = .ok (.if_icmp .ge 17, 3) := by decide +kernel
theorem dX13_numberWorld_9 : decode cX13_numberWorld 9 = .ok (.aload_n 0, 1) := by decide +kernel
theorem dX13_numberWorld_10 : decode cX13_numberWorld 10 = .ok (.getfield 1068, 3) := by decide +kernel
theorem dX13_numberWorld_13 : decode cX13_numberWorld 13 = .ok (.iload_n 1, 1) := by decide +kernel
theorem dX13_numberWorld_14 : decode cX13_numberWorld 14 = .ok (.bipush (-2), 2) := by decide +kernel
theorem dX13_numberWorld_16 : decode cX13_numberWorld 16 = .ok (.iastore, 1) := by decide +kernel
theorem dX13_numberWorld_17 : decode cX13_numberWorld 17 = .ok (.iinc 1 1, 3) := by decide +kernel
theorem dX13_numberWorld_20 : decode cX13_numberWorld 20 = .ok (.goto (-18), 3) := by decide +kernel
theorem dX13_numberWorld_23 : decode cX13_numberWorld 23 = .ok (.aload_n 0, 1) := by decide +kernel
theorem dX13_numberWorld_24 : decode cX13_numberWorld 24 = .ok (.iconst 0, 1) := by decide +kernel
theorem dX13_numberWorld_25 : decode cX13_numberWorld 25 = .ok (.putfield 1071, 3) := by decide +kernel
theorem dX13_numberWorld_28 : decode cX13_numberWorld 28 = .ok (.aload_n 0, 1) := by decide +kernel
theorem dX13_numberWorld_29 : decode cX13_numberWorld 29 = .ok (.sipush 204, 3) := by decide +kernel
theorem dX13_numberWorld_32 : decode cX13_numberWorld 32 = .ok (.invokevirtual 1074, 3) := by decide +kernel
theorem dX13_numberWorld_35 : decode cX13_numberWorld 35 = .ok (.aload_n 0, 1) := by decide +kernel
theorem dX13_numberWorld_36 : decode cX13_numberWorld 36 = .ok (.sipush 205, 3) := by decide +kernel
theorem dX13_numberWorld_39 : decode cX13_numberWorld 39 = .ok (.invokevirtual 1074, 3) := by decide +kernel
theorem dX13_numberWorld_42 : decode cX13_numberWorld 42 = .ok (.iconst 0, 1) := by decide +kernel
theorem dX13_numberWorld_43 : decode cX13_numberWorld 43 = .ok (.istore_n 1, 1) := by decide +kernel
theorem dX13_numberWorld_44 : decode cX13_numberWorld 44 = .ok (.iload_n 1, 1) := by decide +kernel
theorem dX13_numberWorld_45 : decode cX13_numberWorld 45 = .ok (.iconst 5, 1) := by decide +kernel
theorem dX13_numberWorld_46 : decode cX13_numberWorld 46 = .ok (.if_icmp .ge 74, 3) := by decide +kernel
theorem dX13_numberWorld_49 : decode cX13_numberWorld 49 = .ok (.iconst 0, 1) := by decide +kernel
theorem dX13_numberWorld_50 : decode cX13_numberWorld 50 = .ok (.istore_n 2, 1) := by decide +kernel
theorem dX13_numberWorld_51 : decode cX13_numberWorld 51 = .ok (.aload_n 0, 1) := by decide +kernel
theorem dX13_numberWorld_52 : decode cX13_numberWorld 52 = .ok (.getfield 535, 3) := by decide +kernel
theorem dX13_numberWorld_55 : decode cX13_numberWorld 55 = .ok (.iload_n 1, 1) := by decide +kernel
theorem dX13_numberWorld_56 : decode cX13_numberWorld 56 = .ok (.iaload, 1) := by decide +kernel
theorem dX13_numberWorld_57 : decode cX13_numberWorld 57 = .ok (.bipush (-2), 2) := by decide +kernel
theorem dX13_numberWorld_59 : decode cX13_numberWorld 59 = .ok (.if_icmp .eq 55, 3) := by decide +kernel
theorem dX13_numberWorld_114 : decode cX13_numberWorld 114 = .ok (.iinc 1 1, 3) := by decide +kernel
theorem dX13_numberWorld_117 : decode cX13_numberWorld 117 = .ok (.goto (-73), 3) := by decide +kernel
theorem dX13_numberWorld_120 : decode cX13_numberWorld 120 = .ok (.return_, 1) := by decide +kernel
theorem dX13_intoWorld_0 : decode cX13_intoWorld 0 = .ok (.aload_n 0, 1) := by decide +kernel
theorem dX13_intoWorld_1 : decode cX13_intoWorld 1 = .ok (.getfield 1077, 3) := by decide +kernel
theorem dX13_intoWorld_4 : decode cX13_intoWorld 4 = .ok (.aload_n 0, 1) := by decide +kernel
theorem dX13_intoWorld_5 : decode cX13_intoWorld 5 = .ok (.getfield 1071, 3) := by decide +kernel
theorem dX13_intoWorld_8 : decode cX13_intoWorld 8 = .ok (.iload_n 1, 1) := by decide +kernel
theorem dX13_intoWorld_9 : decode cX13_intoWorld 9 = .ok (.iastore, 1) := by decide +kernel
theorem dX13_intoWorld_10 : decode cX13_intoWorld 10 = .ok (.aload_n 0, 1) := by decide +kernel
theorem dX13_intoWorld_11 : decode cX13_intoWorld 11 = .ok (.getfield 1068, 3) := by decide +kernel
theorem dX13_intoWorld_14 : decode cX13_intoWorld 14 = .ok (.iload_n 1, 1) := by decide +kernel
theorem dX13_intoWorld_15 : decode cX13_intoWorld 15 = .ok (.aload_n 0, 1) := by decide +kernel
theorem dX13_intoWorld_16 : decode cX13_intoWorld 16 = .ok (.getfield 1071, 3) := by decide +kernel
theorem dX13_intoWorld_19 : decode cX13_intoWorld 19 = .ok (.iastore, 1) := by decide +kernel
theorem dX13_intoWorld_20 : decode cX13_intoWorld 20 = .ok (.aload_n 0, 1) := by decide +kernel
theorem dX13_intoWorld_21 : decode cX13_intoWorld 21 = .ok (.dup, 1) := by decide +kernel
theorem dX13_intoWorld_22 : decode cX13_intoWorld 22 = .ok (.getfield 1071, 3) := by decide +kernel
theorem dX13_intoWorld_25 : decode cX13_intoWorld 25 = .ok (.iconst 1, 1) := by decide +kernel
theorem dX13_intoWorld_26 : decode cX13_intoWorld 26 = .ok (.iadd, 1) := by decide +kernel
theorem dX13_intoWorld_27 : decode cX13_intoWorld 27 = .ok (.putfield 1071, 3) := by decide +kernel
theorem dX13_intoWorld_30 : decode cX13_intoWorld 30 = .ok (.return_, 1) := by decide +kernel
theorem dX13_clearSet_0 : decode cX13_clearSet 0 = .ok (.iconst 0, 1) := by decide +kernel
theorem dX13_clearSet_1 : decode cX13_clearSet 1 = .ok (.istore_n 2, 1) := by decide +kernel
theorem dX13_clearSet_2 : decode cX13_clearSet 2 = .ok (.iload_n 2, 1) := by decide +kernel
theorem dX13_clearSet_3 : decode cX13_clearSet 3 = .ok (.bipush 64, 2) := by decide +kernel
theorem dX13_clearSet_5 : decode cX13_clearSet 5 = .ok (.if_icmp .ge 36, 3) := by decide +kernel
theorem dX13_clearSet_8 : decode cX13_clearSet 8 = .ok (.aload_n 0, 1) := by decide +kernel
theorem dX13_clearSet_9 : decode cX13_clearSet 9 = .ok (.getfield 1089, 3) := by decide +kernel
theorem dX13_clearSet_12 : decode cX13_clearSet 12 = .ok (.iload_n 1, 1) := by decide +kernel
theorem dX13_clearSet_13 : decode cX13_clearSet 13 = .ok (.iload_n 2, 1) := by decide +kernel
theorem dX13_clearSet_14 : decode cX13_clearSet 14 = .ok (.iadd, 1) := by decide +kernel
theorem dX13_clearSet_15 : decode cX13_clearSet 15 = .ok (.iload_n 2, 1) := by decide +kernel
theorem dX13_clearSet_16 : decode cX13_clearSet 16 = .ok (.iconst 2, 1) := by decide +kernel
theorem dX13_clearSet_17 : decode cX13_clearSet 17 = .ok (.if_icmp .ge 7, 3) := by decide +kernel
theorem dX13_clearSet_20 : decode cX13_clearSet 20 = .ok (.iconst 4, 1) := by decide +kernel
theorem dX13_clearSet_21 : decode cX13_clearSet 21 = .ok (.goto 4, 3) := by decide +kernel
theorem dX13_clearSet_24 : decode cX13_clearSet 24 = .ok (.iconst 0, 1) := by decide +kernel
theorem dX13_clearSet_25 : decode cX13_clearSet 25 = .ok (.iastore, 1) := by decide +kernel
theorem dX13_clearSet_26 : decode cX13_clearSet 26 = .ok (.aload_n 0, 1) := by decide +kernel
theorem dX13_clearSet_27 : decode cX13_clearSet 27 = .ok (.getfield 1092, 3) := by decide +kernel
theorem dX13_clearSet_30 : decode cX13_clearSet 30 = .ok (.iload_n 1, 1) := by decide +kernel
theorem dX13_clearSet_31 : decode cX13_clearSet 31 = .ok (.iload_n 2, 1) := by decide +kernel
theorem dX13_clearSet_32 : decode cX13_clearSet 32 = .ok (.iadd, 1) := by decide +kernel
theorem dX13_clearSet_33 : decode cX13_clearSet 33 = .ok (.iconst 0, 1) := by decide +kernel
theorem dX13_clearSet_34 : decode cX13_clearSet 34 = .ok (.iastore, 1) := by decide +kernel
theorem dX13_clearSet_35 : decode cX13_clearSet 35 = .ok (.iinc 2 1, 3) := by decide +kernel
theorem dX13_clearSet_38 : decode cX13_clearSet 38 = .ok (.goto (-36), 3) := by decide +kernel
theorem dX13_clearSet_41 : decode cX13_clearSet 41 = .ok (.return_, 1) := by decide +kernel
theorem dX13_meet_0 : decode cX13_meet 0 = .ok (.aload_n 0, 1) := by decide +kernel
theorem dX13_meet_1 : decode cX13_meet 1 = .ok (.iload_n 1, 1) := by decide +kernel
theorem dX13_meet_2 : decode cX13_meet 2 = .ok (.iload_n 2, 1) := by decide +kernel
theorem dX13_meet_3 : decode cX13_meet 3 = .ok (.iload_n 3, 1) := by decide +kernel
theorem dX13_meet_4 : decode cX13_meet 4 = .ok (.invokevirtual 1062, 3) := by decide +kernel
theorem dX13_meet_7 : decode cX13_meet 7 = .ok (.istore 4, 2) := by decide +kernel
theorem dX13_meet_9 : decode cX13_meet 9 = .ok (.iload 4, 2) := by decide +kernel
