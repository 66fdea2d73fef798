theorem dX9_isCall_7 : decode cX9_isCall 7 = .ok (.getfield 111, 3) := by decide +kernel
theorem dX9_isCall_10 : decode cX9_isCall 10 = .ok (.iconst 3, 1) := by decide +kernel
theorem dX9_isCall_11 : decode cX9_isCall 11 = .ok (.if_icmp .ne 88, 3) := by decide +kernel
theorem dX9_isCall_99 : decode cX9_isCall 99 = .ok (.iconst 0, 1) := by decide +kernel
theorem dX9_isCall_100 : decode cX9_isCall 100 = .ok (.ireturn, 1) := by decide +kernel
theorem dX9_keep_0 : decode cX9_keep 0 = .ok (.aload_n 0, 1) := by decide +kernel
theorem dX9_keep_1 : decode cX9_keep 1 = .ok (.getfield 105, 3) := by decide +kernel
theorem dX9_keep_4 : decode cX9_keep 4 = .ok (.iconst 0, 1) := by decide +kernel
theorem dX9_keep_5 : decode cX9_keep 5 = .ok (.aload_n 0, 1) := by decide +kernel
theorem dX9_keep_6 : decode cX9_keep 6 = .ok (.getfield 51, 3) := by decide +kernel
theorem dX9_keep_9 : decode cX9_keep 9 = .ok (.getfield 121, 3) := by decide +kernel
theorem dX9_keep_12 : decode cX9_keep 12 = .ok (.iconst 0, 1) := by decide +kernel
theorem dX9_keep_13 : decode cX9_keep 13 = .ok (.aload_n 0, 1) := by decide +kernel
theorem dX9_keep_14 : decode cX9_keep 14 = .ok (.getfield 109, 3) := by decide +kernel
theorem dX9_keep_17 : decode cX9_keep 17 = .ok (.aload_n 0, 1) := by decide +kernel
theorem dX9_keep_18 : decode cX9_keep 18 = .ok (.getfield 51, 3) := by decide +kernel
theorem dX9_keep_21 : decode cX9_keep 21 = .ok (.getfield 121, 3) := by decide +kernel
theorem dX9_keep_24 : decode cX9_keep 24 = .ok (.arraylength, 1) := by decide +kernel
theorem dX9_keep_25 : decode cX9_keep 25 = .ok (.invokestatic 122, 3) := by decide +kernel
theorem dX9_keep_28 : decode cX9_keep 28 = .ok (.invokestatic 128, 3) := by decide +kernel
theorem dX9_keep_31 : decode cX9_keep 31 = .ok (.aload_n 0, 1) := by decide +kernel
theorem dX9_keep_32 : decode cX9_keep 32 = .ok (.getfield 51, 3) := by decide +kernel
theorem dX9_keep_35 : decode cX9_keep 35 = .ok (.aload_n 0, 1) := by decide +kernel
theorem dX9_keep_36 : decode cX9_keep 36 = .ok (.getfield 109, 3) := by decide +kernel
theorem dX9_keep_39 : decode cX9_keep 39 = .ok (.putfield 134, 3) := by decide +kernel
theorem dX9_keep_42 : decode cX9_keep 42 = .ok (.aload_n 0, 1) := by decide +kernel
theorem dX9_keep_43 : decode cX9_keep 43 = .ok (.getfield 19, 3) := by decide +kernel
theorem dX9_keep_46 : decode cX9_keep 46 = .ok (.iconst 0, 1) := by decide +kernel
theorem dX9_keep_47 : decode cX9_keep 47 = .ok (.aload_n 0, 1) := by decide +kernel
theorem dX9_keep_48 : decode cX9_keep 48 = .ok (.getfield 51, 3) := by decide +kernel
theorem dX9_keep_51 : decode cX9_keep 51 = .ok (.getfield 135, 3) := by decide +kernel
theorem dX9_keep_54 : decode cX9_keep 54 = .ok (.iconst 0, 1) := by decide +kernel
theorem dX9_keep_55 : decode cX9_keep 55 = .ok (.aload_n 0, 1) := by decide +kernel
theorem dX9_keep_56 : decode cX9_keep 56 = .ok (.getfield 111, 3) := by decide +kernel
theorem dX9_keep_59 : decode cX9_keep 59 = .ok (.aload_n 0, 1) := by decide +kernel
theorem dX9_keep_60 : decode cX9_keep 60 = .ok (.getfield 51, 3) := by decide +kernel
theorem dX9_keep_63 : decode cX9_keep 63 = .ok (.getfield 135, 3) := by decide +kernel
theorem dX9_keep_66 : decode cX9_keep 66 = .ok (.arraylength, 1) := by decide +kernel
theorem dX9_keep_67 : decode cX9_keep 67 = .ok (.invokestatic 122, 3) := by decide +kernel
theorem dX9_keep_70 : decode cX9_keep 70 = .ok (.invokestatic 128, 3) := by decide +kernel
theorem dX9_keep_73 : decode cX9_keep 73 = .ok (.aload_n 0, 1) := by decide +kernel
theorem dX9_keep_74 : decode cX9_keep 74 = .ok (.getfield 22, 3) := by decide +kernel
theorem dX9_keep_77 : decode cX9_keep 77 = .ok (.iconst 0, 1) := by decide +kernel
theorem dX9_keep_78 : decode cX9_keep 78 = .ok (.aload_n 0, 1) := by decide +kernel
theorem dX9_keep_79 : decode cX9_keep 79 = .ok (.getfield 51, 3) := by decide +kernel
theorem dX9_keep_82 : decode cX9_keep 82 = .ok (.getfield 136, 3) := by decide +kernel
theorem dX9_keep_85 : decode cX9_keep 85 = .ok (.iconst 0, 1) := by decide +kernel
theorem dX9_keep_86 : decode cX9_keep 86 = .ok (.aload_n 0, 1) := by decide +kernel
theorem dX9_keep_87 : decode cX9_keep 87 = .ok (.getfield 111, 3) := by decide +kernel
theorem dX9_keep_90 : decode cX9_keep 90 = .ok (.aload_n 0, 1) := by decide +kernel
theorem dX9_keep_91 : decode cX9_keep 91 = .ok (.getfield 51, 3) := by decide +kernel
theorem dX9_keep_94 : decode cX9_keep 94 = .ok (.getfield 136, 3) := by decide +kernel
theorem dX9_keep_97 : decode cX9_keep 97 = .ok (.arraylength, 1) := by decide +kernel
theorem dX9_keep_98 : decode cX9_keep 98 = .ok (.invokestatic 122, 3) := by decide +kernel
theorem dX9_keep_101 : decode cX9_keep 101 = .ok (.invokestatic 128, 3) := by decide +kernel
theorem dX9_keep_104 : decode cX9_keep 104 = .ok (.return_, 1) := by decide +kernel
theorem dX9_scan_0 : decode cX9_scan 0 = .ok (.iload_n 1, 1) := by decide +kernel
theorem dX9_scan_1 : decode cX9_scan 1 = .ok (.istore_n 2, 1) := by decide +kernel
theorem dX9_scan_2 : decode cX9_scan 2 = .ok (.iload_n 2, 1) := by decide +kernel
theorem dX9_scan_3 : decode cX9_scan 3 = .ok (.aload_n 0, 1) := by decide +kernel
theorem dX9_scan_4 : decode cX9_scan 4 = .ok (.getfield 109, 3) := by decide +kernel
theorem dX9_scan_7 : decode cX9_scan 7 = .ok (.if_icmp .ge 31, 3) := by decide +kernel
theorem dX9_scan_38 : decode cX9_scan 38 = .ok (.iload_n 2, 1) := by decide +kernel
theorem dX9_scan_39 : decode cX9_scan 39 = .ok (.aload_n 0, 1) := by decide +kernel
theorem dX9_scan_40 : decode cX9_scan 40 = .ok (.getfield 109, 3) := by decide +kernel
theorem dX9_scan_43 : decode cX9_scan 43 = .ok (.if_icmp .lt 6, 3) := by decide +kernel
theorem dX9_scan_46 : decode cX9_scan 46 = .ok (.bipush (-2), 2) := by decide +kernel
theorem dX9_scan_48 : decode cX9_scan 48 = .ok (.ireturn, 1) := by decide +kernel
theorem dX9_sixBits_0 : decode cX9_sixBits 0 = .ok (.iload_n 0, 1) := by decide +kernel
theorem dX9_sixBits_1 : decode cX9_sixBits 1 = .ok (.bipush 97, 2) := by decide +kernel
theorem dX9_sixBits_3 : decode cX9_sixBits 3 = .ok (.if_icmp .lt 17, 3) := by decide +kernel
theorem dX9_sixBits_6 : decode cX9_sixBits 6 = .ok (.iload_n 0, 1) := by decide +kernel
theorem dX9_sixBits_7 : decode cX9_sixBits 7 = .ok (.bipush 122, 2) := by decide +kernel
theorem dX9_sixBits_9 : decode cX9_sixBits 9 = .ok (.if_icmp .gt 11, 3) := by decide +kernel
theorem dX9_sixBits_12 : decode cX9_sixBits 12 = .ok (.iload_n 0, 1) := by decide +kernel
theorem dX9_sixBits_13 : decode cX9_sixBits 13 = .ok (.bipush 97, 2) := by decide +kernel
theorem dX9_sixBits_15 : decode cX9_sixBits 15 = .ok (.isub, 1) := by decide +kernel
theorem dX9_sixBits_16 : decode cX9_sixBits 16 = .ok (.iconst 1, 1) := by decide +kernel
theorem dX9_sixBits_17 : decode cX9_sixBits 17 = .ok (.iadd, 1) := by decide +kernel
theorem dX9_sixBits_18 : decode cX9_sixBits 18 = .ok (.i2l, 1) := by decide +kernel
theorem dX9_sixBits_19 : decode cX9_sixBits 19 = .ok (.lreturn, 1) := by decide +kernel
theorem dX9_now_0 : decode cX9_now 0 = .ok (.aload_n 0, 1) := by decide +kernel
theorem dX9_now_1 : decode cX9_now 1 = .ok (.getfield 114, 3) := by decide +kernel
theorem dX9_now_4 : decode cX9_now 4 = .ok (.aload_n 0, 1) := by decide +kernel
theorem dX9_now_5 : decode cX9_now 5 = .ok (.getfield 111, 3) := by decide +kernel
theorem dX9_now_8 : decode cX9_now 8 = .ok (.if_icmp .gt 15, 3) := by decide +kernel
theorem dX9_now_11 : decode cX9_now 11 = .ok (.aload_n 0, 1) := by decide +kernel
theorem dX9_now_12 : decode cX9_now 12 = .ok (.getfield 15, 3) := by decide +kernel
theorem dX9_now_15 : decode cX9_now 15 = .ok (.aload_n 0, 1) := by decide +kernel
theorem dX9_now_16 : decode cX9_now 16 = .ok (.getfield 114, 3) := by decide +kernel
theorem dX9_now_19 : decode cX9_now 19 = .ok (.iaload, 1) := by decide +kernel
theorem dX9_now_20 : decode cX9_now 20 = .ok (.goto 4, 3) := by decide +kernel
theorem dX9_now_24 : decode cX9_now 24 = .ok (.ireturn, 1) := by decide +kernel
theorem dX10_init_0 : decode cX10_init 0 = .ok (.aload_n 0, 1) := by decide +kernel
theorem dX10_init_1 : decode cX10_init 1 = .ok (.invokespecial 3, 3) := by decide +kernel
theorem dX10_init_4 : decode cX10_init 4 = .ok (.aload_n 0, 1) := by decide +kernel
theorem dX10_init_5 : decode cX10_init 5 = .ok (.bipush 24, 2) := by decide +kernel
theorem dX10_init_7 : decode cX10_init 7 = .ok (.newarray .long, 2) := by decide +kernel
theorem dX10_init_9 : decode cX10_init 9 = .ok (.putfield 9, 3) := by decide +kernel
theorem dX10_init_12 : decode cX10_init 12 = .ok (.aload_n 0, 1) := by decide +kernel
theorem dX10_init_13 : decode cX10_init 13 = .ok (.iconst 3, 1) := by decide +kernel
theorem dX10_init_14 : decode cX10_init 14 = .ok (.newarray .int, 2) := by decide +kernel
theorem dX10_init_16 : decode cX10_init 16 = .ok (.putfield 15, 3) := by decide +kernel
theorem dX10_init_19 : decode cX10_init 19 = .ok (.aload_n 0, 1) := by decide +kernel
theorem dX10_init_20 : decode cX10_init 20 = .ok (.bipush 20, 2) := by decide +kernel
theorem dX10_init_22 : decode cX10_init 22 = .ok (.anewarray 19, 3) := by decide +kernel
theorem dX10_init_25 : decode cX10_init 25 = .ok (.putfield 21, 3) := by decide +kernel
theorem dX10_init_28 : decode cX10_init 28 = .ok (.aload_n 0, 1) := by decide +kernel
theorem dX10_init_29 : decode cX10_init 29 = .ok (.bipush 33, 2) := by decide +kernel
theorem dX10_init_31 : decode cX10_init 31 = .ok (.anewarray 19, 3) := by decide +kernel
theorem dX10_init_34 : decode cX10_init 34 = .ok (.putfield 25, 3) := by decide +kernel
theorem dX10_init_37 : decode cX10_init 37 = .ok (.return_, 1) := by decide +kernel
theorem dX10_clear_0 : decode cX10_clear 0 = .ok (.aload_n 0, 1) := by decide +kernel
theorem dX10_clear_1 : decode cX10_clear 1 = .ok (.aload_n 1, 1) := by decide +kernel
theorem dX10_clear_2 : decode cX10_clear 2 = .ok (.putfield 28, 3) := by decide +kernel
theorem dX10_clear_5 : decode cX10_clear 5 = .ok (.aload_n 0, 1) := by decide +kernel
theorem dX10_clear_6 : decode cX10_clear 6 = .ok (.ldc2_w 32, 3) := by decide +kernel
theorem dX10_clear_9 : decode cX10_clear 9 = .ok (.putfield 34, 3) := by decide +kernel
theorem dX10_clear_12 : decode cX10_clear 12 = .ok (.aload_n 0, 1) := by decide +kernel
theorem dX10_clear_13 : decode cX10_clear 13 = .ok (.iconst 0, 1) := by decide +kernel
theorem dX10_clear_14 : decode cX10_clear 14 = .ok (.putfield 38, 3) := by decide +kernel
theorem dX10_clear_17 : decode cX10_clear 17 = .ok (.aload_n 0, 1) := by decide +kernel
theorem dX10_clear_18 : decode cX10_clear 18 = .ok (.iconst 0, 1) := by decide +kernel
theorem dX10_clear_19 : decode cX10_clear 19 = .ok (.putfield 42, 3) := by decide +kernel
theorem dX10_clear_22 : decode cX10_clear 22 = .ok (.aload_n 0, 1) := by decide +kernel
theorem dX10_clear_23 : decode cX10_clear 23 = .ok (.iconst 0, 1) := by decide +kernel
theorem dX10_clear_24 : decode cX10_clear 24 = .ok (.putfield 46, 3) := by decide +kernel
theorem dX10_clear_27 : decode cX10_clear 27 = .ok (.aload_n 0, 1) := by decide +kernel
theorem dX10_clear_28 : decode cX10_clear 28 = .ok (.iconst 0, 1) := by decide +kernel
theorem dX10_clear_29 : decode cX10_clear 29 = .ok (.putfield 49, 3) := by decide +kernel
theorem dX10_clear_32 : decode cX10_clear 32 = .ok (.aload_n 0, 1) := by decide +kernel
theorem dX10_clear_33 : decode cX10_clear 33 = .ok (.iconst 0, 1) := by decide +kernel
theorem dX10_clear_34 : decode cX10_clear 34 = .ok (.putfield 52, 3) := by decide +kernel
theorem dX10_clear_37 : decode cX10_clear 37 = .ok (.aload_n 0, 1) := by decide +kernel
theorem dX10_clear_38 : decode cX10_clear 38 = .ok (.iconst 0, 1) := by decide +kernel
theorem dX10_clear_39 : decode cX10_clear 39 = .ok (.putfield 55, 3) := by decide +kernel
theorem dX10_clear_42 : decode cX10_clear 42 = .ok (.aload_n 0, 1) := by decide +kernel
theorem dX10_clear_43 : decode cX10_clear 43 = .ok (.ldc2_w 58, 3) := by decide +kernel
theorem dX10_clear_46 : decode cX10_clear 46 = .ok (.putfield 60, 3) := by decide +kernel
theorem dX10_clear_49 : decode cX10_clear 49 = .ok (.aload_n 0, 1) := by decide +kernel
theorem dX10_clear_50 : decode cX10_clear 50 = .ok (.ldc2_w 32, 3) := by decide +kernel
theorem dX10_clear_53 : decode cX10_clear 53 = .ok (.putfield 63, 3) := by decide +kernel
theorem dX10_clear_56 : decode cX10_clear 56 = .ok (.aload_n 0, 1) := by decide +kernel
theorem dX10_clear_57 : decode cX10_clear 57 = .ok (.getfield 15, 3) := by decide +kernel
theorem dX10_clear_60 : decode cX10_clear 60 = .ok (.iconst 0, 1) := by decide +kernel
theorem dX10_clear_61 : decode cX10_clear 61 = .ok (.invokestatic 66, 3) := by decide +kernel
theorem dX10_clear_64 : decode cX10_clear 64 = .ok (.aload_n 0, 1) := by decide +kernel
theorem dX10_clear_65 : decode cX10_clear 65 = .ok (.iconst 0, 1) := by decide +kernel
theorem dX10_clear_66 : decode cX10_clear 66 = .ok (.putfield 72, 3) := by decide +kernel
theorem dX10_clear_69 : decode cX10_clear 69 = .ok (.aload_n 0, 1) := by decide +kernel
theorem dX10_clear_70 : decode cX10_clear 70 = .ok (.iconst 0, 1) := by decide +kernel
theorem dX10_clear_71 : decode cX10_clear 71 = .ok (.putfield 75, 3) := by decide +kernel
theorem dX10_clear_74 : decode cX10_clear 74 = .ok (.aload_n 0, 1) := by decide +kernel
theorem dX10_clear_75 : decode cX10_clear 75 = .ok (.iconst 0, 1) := by decide +kernel
theorem dX10_clear_76 : decode cX10_clear 76 = .ok (.putfield 78, 3) := by decide +kernel
theorem dX10_clear_79 : decode cX10_clear 79 = .ok (.aload_n 0, 1) := by decide +kernel
theorem dX10_clear_80 : decode cX10_clear 80 = .ok (.iconst 0, 1) := by decide +kernel
theorem dX10_clear_81 : decode cX10_clear 81 = .ok (.putfield 81, 3) := by decide +kernel
theorem dX10_clear_84 : decode cX10_clear 84 = .ok (.aload_n 0, 1) := by decide +kernel
theorem dX10_clear_85 : decode cX10_clear 85 = .ok (.aconst_null, 1) := by decide +kernel
theorem dX10_clear_86 : decode cX10_clear 86 = .ok (.putfield 84, 3) := by decide +kernel
theorem dX10_clear_89 : decode cX10_clear 89 = .ok (.aload_n 0, 1) := by decide +kernel
theorem dX10_clear_90 : decode cX10_clear 90 = .ok (.iconst 0, 1) := by decide +kernel
theorem dX10_clear_91 : decode cX10_clear 91 = .ok (.putfield 88, 3) := by decide +kernel
theorem dX10_clear_94 : decode cX10_clear 94 = .ok (.aload_n 0, 1) := by decide +kernel
theorem dX10_clear_95 : decode cX10_clear 95 = .ok (.iconst 0, 1) := by decide +kernel
theorem dX10_clear_96 : decode cX10_clear 96 = .ok (.putfield 91, 3) := by decide +kernel
theorem dX10_clear_99 : decode cX10_clear 99 = .ok (.return_, 1) := by decide +kernel
theorem dX10_add_0 : decode cX10_add 0 = .ok (.aload_n 0, 1) := by decide +kernel
theorem dX10_add_1 : decode cX10_add 1 = .ok (.getfield 75, 3) := by decide +kernel
theorem dX10_add_4 : decode cX10_add 4 = .ok (.aload_n 0, 1) := by decide +kernel
theorem dX10_add_5 : decode cX10_add 5 = .ok (.getfield 25, 3) := by decide +kernel
theorem dX10_add_8 : decode cX10_add 8 = .ok (.arraylength, 1) := by decide +kernel
theorem dX10_add_9 : decode cX10_add 9 = .ok (.if_icmp .ge 23, 3) := by decide +kernel
theorem dX10_add_12 : decode cX10_add 12 = .ok (.aload_n 0, 1) := by decide +kernel
theorem dX10_add_13 : decode cX10_add 13 = .ok (.getfield 25, 3) := by decide +kernel
theorem dX10_add_16 : decode cX10_add 16 = .ok (.aload_n 0, 1) := by decide +kernel
theorem dX10_add_17 : decode cX10_add 17 = .ok (.getfield 75, 3) := by decide +kernel
theorem dX10_add_20 : decode cX10_add 20 = .ok (.aload_n 1, 1) := by decide +kernel
theorem dX10_add_21 : decode cX10_add 21 = .ok (.aastore, 1) := by decide +kernel
theorem dX10_add_22 : decode cX10_add 22 = .ok (.aload_n 0, 1) := by decide +kernel
theorem dX10_add_23 : decode cX10_add 23 = .ok (.dup, 1) := by decide +kernel
theorem dX10_add_24 : decode cX10_add 24 = .ok (.getfield 75, 3) := by decide +kernel
theorem dX10_add_27 : decode cX10_add 27 = .ok (.iconst 1, 1) := by decide +kernel
theorem dX10_add_28 : decode cX10_add 28 = .ok (.iadd, 1) := by decide +kernel
theorem dX10_add_29 : decode cX10_add 29 = .ok (.putfield 75, 3) := by decide +kernel
theorem dX10_add_32 : decode cX10_add 32 = .ok (.return_, 1) := by decide +kernel
theorem dX11_init_0 : decode cX11_init 0 = .ok (.aload_n 0, 1) := by decide +kernel
theorem dX11_init_1 : decode cX11_init 1 = .ok (.invokespecial 3, 3) := by decide +kernel
theorem dX11_init_4 : decode cX11_init 4 = .ok (.aload_n 0, 1) := by decide +kernel
theorem dX11_init_5 : decode cX11_init 5 = .ok (.bipush 64, 2) := by decide +kernel
theorem dX11_init_7 : decode cX11_init 7 = .ok (.anewarray 9, 3) := by decide +kernel
theorem dX11_init_10 : decode cX11_init 10 = .ok (.putfield 11, 3) := by decide +kernel
theorem dX11_init_13 : decode cX11_init 13 = .ok (.aload_n 0, 1) := by decide +kernel
theorem dX11_init_14 : decode cX11_init 14 = .ok (.bipush 64, 2) := by decide +kernel
theorem dX11_init_16 : decode cX11_init 16 = .ok (.newarray .int, 2) := by decide +kernel
theorem dX11_init_18 : decode cX11_init 18 = .ok (.putfield 17, 3) := by decide +kernel
theorem dX11_init_21 : decode cX11_init 21 = .ok (.aload_n 0, 1) := by decide +kernel
theorem dX11_init_22 : decode cX11_init 22 = .ok (.bipush 64, 2) := by decide +kernel
theorem dX11_init_24 : decode cX11_init 24 = .ok (.newarray .int, 2) := by decide +kernel
theorem dX11_init_26 : decode cX11_init 26 = .ok (.putfield 21, 3) := by decide +kernel
theorem dX11_init_29 : decode cX11_init 29 = .ok (.aload_n 0, 1) := by decide +kernel
theorem dX11_init_30 : decode cX11_init 30 = .ok (.sipush 256, 3) := by decide +kernel
theorem dX11_init_33 : decode cX11_init 33 = .ok (.newarray .int, 2) := by decide +kernel
theorem dX11_init_35 : decode cX11_init 35 = .ok (.putfield 24, 3) := by decide +kernel
theorem dX11_init_38 : decode cX11_init 38 = .ok (.aload_n 0, 1) := by decide +kernel
theorem dX11_init_39 : decode cX11_init 39 = .ok (.sipush 320, 3) := by decide +kernel
theorem dX11_init_42 : decode cX11_init 42 = .ok (.newarray .int, 2) := by decide +kernel
theorem dX11_init_44 : decode cX11_init 44 = .ok (.putfield 27, 3) := by decide +kernel
theorem dX11_init_47 : decode cX11_init 47 = .ok (.aload_n 0, 1) := by decide +kernel
theorem dX11_init_48 : decode cX11_init 48 = .ok (.bipush 64, 2) := by decide +kernel
theorem dX11_init_50 : decode cX11_init 50 = .ok (.newarray .int, 2) := by decide +kernel
theorem dX11_init_52 : decode cX11_init 52 = .ok (.putfield 30, 3) := by decide +kernel
theorem dX11_init_55 : decode cX11_init 55 = .ok (.aload_n 0, 1) := by decide +kernel
theorem dX11_init_56 : decode cX11_init 56 = .ok (.bipush 64, 2) := by decide +kernel
theorem dX11_init_58 : decode cX11_init 58 = .ok (.newarray .int, 2) := by decide +kernel
theorem dX11_init_60 : decode cX11_init 60 = .ok (.putfield 33, 3) := by decide +kernel
theorem dX11_init_63 : decode cX11_init 63 = .ok (.aload_n 0, 1) := by decide +kernel
theorem dX11_init_64 : decode cX11_init 64 = .ok (.bipush 64, 2) := by decide +kernel
theorem dX11_init_66 : decode cX11_init 66 = .ok (.newarray .long, 2) := by decide +kernel
theorem dX11_init_68 : decode cX11_init 68 = .ok (.putfield 36, 3) := by decide +kernel
theorem dX11_init_71 : decode cX11_init 71 = .ok (.aload_n 0, 1) := by decide +kernel
theorem dX11_init_72 : decode cX11_init 72 = .ok (.sipush 4096, 3) := by decide +kernel
theorem dX11_init_75 : decode cX11_init 75 = .ok (.newarray .int, 2) := by decide +kernel
theorem dX11_init_77 : decode cX11_init 77 = .ok (.putfield 40, 3) := by decide +kernel
theorem dX11_init_80 : decode cX11_init 80 = .ok (.aload_n 0, 1) := by decide +kernel
theorem dX11_init_81 : decode cX11_init 81 = .ok (.bipush 64, 2) := by decide +kernel
theorem dX11_init_83 : decode cX11_init 83 = .ok (.newarray .int, 2) := by decide +kernel
theorem dX11_init_85 : decode cX11_init 85 = .ok (.putfield 43, 3) := by decide +kernel
theorem dX11_init_88 : decode cX11_init 88 = .ok (.aload_n 0, 1) := by decide +kernel
theorem dX11_init_89 : decode cX11_init 89 = .ok (.bipush 66, 2) := by decide +kernel
theorem dX11_init_91 : decode cX11_init 91 = .ok (.newarray .int, 2) := by decide +kernel
theorem dX11_init_93 : decode cX11_init 93 = .ok (.putfield 46, 3) := by decide +kernel
theorem dX11_init_96 : decode cX11_init 96 = .ok (.aload_n 0, 1) := by decide +kernel
theorem dX11_init_97 : decode cX11_init 97 = .ok (.bipush 66, 2) := by decide +kernel
theorem dX11_init_99 : decode cX11_init 99 = .ok (.newarray .int, 2) := by decide +kernel
theorem dX11_init_101 : decode cX11_init 101 = .ok (.putfield 49, 3) := by decide +kernel
theorem dX11_init_104 : decode cX11_init 104 = .ok (.aload_n 0, 1) := by decide +kernel
theorem dX11_init_105 : decode cX11_init 105 = .ok (.bipush 64, 2) := by decide +kernel
theorem dX11_init_107 : decode cX11_init 107 = .ok (.newarray .int, 2) := by decide +kernel
theorem dX11_init_109 : decode cX11_init 109 = .ok (.putfield 52, 3) := by decide +kernel
theorem dX11_init_112 : decode cX11_init 112 = .ok (.aload_n 0, 1) := by decide +kernel
theorem dX11_init_113 : decode cX11_init 113 = .ok (.bipush 64, 2) := by decide +kernel
theorem dX11_init_115 : decode cX11_init 115 = .ok (.anewarray 55, 3) := by decide +kernel
theorem dX11_init_118 : decode cX11_init 118 = .ok (.putfield 57, 3) := by decide +kernel
theorem dX11_init_121 : decode cX11_init 121 = .ok (.aload_n 0, 1) := by decide +kernel
theorem dX11_init_122 : decode cX11_init 122 = .ok (.new 61, 3) := by decide +kernel
theorem dX11_init_125 : decode cX11_init 125 = .ok (.dup, 1) := by decide +kernel
theorem dX11_init_126 : decode cX11_init 126 = .ok (.iconst 2, 1) := by decide +kernel
theorem dX11_init_127 : decode cX11_init 127 = .ok (.iconst 3, 1) := by decide +kernel
theorem dX11_init_128 : decode cX11_init 128 = .ok (.iconst 0, 1) := by decide +kernel
theorem dX11_init_129 : decode cX11_init 129 = .ok (.iconst 0, 1) := by decide +kernel
theorem dX11_init_130 : decode cX11_init 130 = .ok (.iconst 0, 1) := by decide +kernel
theorem dX11_init_131 : decode cX11_init 131 = .ok (.iconst 0, 1) := by decide +kernel
theorem dX11_init_132 : decode cX11_init 132 = .ok (.invokespecial 63, 3) := by decide +kernel
theorem dX11_init_135 : decode cX11_init 135 = .ok (.putfield 66, 3) := by decide +kernel
theorem dX11_init_138 : decode cX11_init 138 = .ok (.aload_n 0, 1) := by decide +kernel
theorem dX11_init_139 : decode cX11_init 139 = .ok (.getfield 66, 3) := by decide +kernel
theorem dX11_init_142 : decode cX11_init 142 = .ok (.invokevirtual 70, 3) := by decide +kernel
theorem dX11_init_145 : decode cX11_init 145 = .ok (.astore_n 1, 1) := by decide +kernel
theorem dX11_init_146 : decode cX11_init 146 = .ok (.aload_n 0, 1) := by decide +kernel
theorem dX11_init_147 : decode cX11_init 147 = .ok (.getfield 66, 3) := by decide +kernel
theorem dX11_init_150 : decode cX11_init 150 = .ok (.invokevirtual 70, 3) := by decide +kernel
theorem dX11_init_153 : decode cX11_init 153 = .ok (.astore_n 2, 1) := by decide +kernel
theorem dX11_init_154 : decode cX11_init 154 = .ok (.aload_n 1, 1) := by decide +kernel
theorem dX11_init_155 : decode cX11_init 155 = .ok (.ldc2_w 74, 3) := by decide +kernel
theorem dX11_init_158 : decode cX11_init 158 = .ok (.putfield 76, 3) := by decide +kernel
theorem dX11_init_161 : decode cX11_init 161 = .ok (.aload_n 1, 1) := by decide +kernel
theorem dX11_init_162 : decode cX11_init 162 = .ok (.iconst 1, 1) := by decide +kernel
theorem dX11_init_163 : decode cX11_init 163 = .ok (.putfield 80, 3) := by decide +kernel
theorem dX11_init_166 : decode cX11_init 166 = .ok (.aload_n 1, 1) := by decide +kernel
theorem dX11_init_167 : decode cX11_init 167 = .ok (.ldc2_w 84, 3) := by decide +kernel
theorem dX11_init_170 : decode cX11_init 170 = .ok (.putfield 86, 3) := by decide +kernel
theorem dX11_init_173 : decode cX11_init 173 = .ok (.aload_n 1, 1) := by decide +kernel
theorem dX11_init_174 : decode cX11_init 174 = .ok (.aload_n 0, 1) := by decide +kernel
theorem dX11_init_175 : decode cX11_init 175 = .ok (.getfield 66, 3) := by decide +kernel
theorem dX11_init_178 : decode cX11_init 178 = .ok (.invokevirtual 88, 3) := by decide +kernel
theorem dX11_init_181 : decode cX11_init 181 = .ok (.invokestatic 92, 3) := by decide +kernel
theorem dX11_init_184 : decode cX11_init 184 = .ok (.invokevirtual 96, 3) := by decide +kernel
theorem dX11_init_187 : decode cX11_init 187 = .ok (.aload_n 2, 1) := by decide +kernel
theorem dX11_init_188 : decode cX11_init 188 = .ok (.ldc2_w 100, 3) := by decide +kernel
theorem dX11_init_191 : decode cX11_init 191 = .ok (.putfield 76, 3) := by decide +kernel
theorem dX11_init_194 : decode cX11_init 194 = .ok (.aload_n 2, 1) := by decide +kernel
theorem dX11_init_195 : decode cX11_init 195 = .ok (.iconst 1, 1) := by decide +kernel
theorem dX11_init_196 : decode cX11_init 196 = .ok (.putfield 80, 3) := by decide +kernel
theorem dX11_init_199 : decode cX11_init 199 = .ok (.aload_n 2, 1) := by decide +kernel
theorem dX11_init_200 : decode cX11_init 200 = .ok (.iconst 1, 1) := by decide +kernel
theorem dX11_init_201 : decode cX11_init 201 = .ok (.putfield 102, 3) := by decide +kernel
theorem dX11_init_204 : decode cX11_init 204 = .ok (.aload_n 2, 1) := by decide +kernel
theorem dX11_init_205 : decode cX11_init 205 = .ok (.iconst 1, 1) := by decide +kernel
theorem dX11_init_206 : decode cX11_init 206 = .ok (.putfield 105, 3) := by decide +kernel
theorem dX11_init_209 : decode cX11_init 209 = .ok (.aload_n 0, 1) := by decide +kernel
theorem dX11_init_210 : decode cX11_init 210 = .ok (.getfield 66, 3) := by decide +kernel
theorem dX11_init_213 : decode cX11_init 213 = .ok (.invokevirtual 88, 3) := by decide +kernel
theorem dX11_init_216 : decode cX11_init 216 = .ok (.astore_n 3, 1) := by decide +kernel
theorem dX11_init_217 : decode cX11_init 217 = .ok (.aload_n 3, 1) := by decide +kernel
theorem dX11_init_218 : decode cX11_init 218 = .ok (.iconst 3, 1) := by decide +kernel
theorem dX11_init_219 : decode cX11_init 219 = .ok (.putfield 109, 3) := by decide +kernel
theorem dX11_init_222 : decode cX11_init 222 = .ok (.aload_n 3, 1) := by decide +kernel
theorem dX11_init_223 : decode cX11_init 223 = .ok (.ldc2_w 112, 3) := by decide +kernel
theorem dX11_init_226 : decode cX11_init 226 = .ok (.putfield 114, 3) := by decide +kernel
theorem dX11_init_229 : decode cX11_init 229 = .ok (.aload_n 3, 1) := by decide +kernel
theorem dX11_init_230 : decode cX11_init 230 = .ok (.ldc2_w 115, 3) := by decide +kernel
theorem dX11_init_233 : decode cX11_init 233 = .ok (.putfield 117, 3) := by decide +kernel
theorem dX11_init_236 : decode cX11_init 236 = .ok (.aload_n 2, 1) := by decide +kernel
theorem dX11_init_237 : decode cX11_init 237 = .ok (.aload_n 3, 1) := by decide +kernel
theorem dX11_init_238 : decode cX11_init 238 = .ok (.invokevirtual 96, 3) := by decide +kernel
theorem dX11_init_241 : decode cX11_init 241 = .ok (.aload_n 2, 1) := by decide +kernel
theorem dX11_init_242 : decode cX11_init 242 = .ok (.aload_n 0, 1) := by decide +kernel
theorem dX11_init_243 : decode cX11_init 243 = .ok (.getfield 66, 3) := by decide +kernel
theorem dX11_init_246 : decode cX11_init 246 = .ok (.invokevirtual 88, 3) := by decide +kernel
theorem dX11_init_249 : decode cX11_init 249 = .ok (.invokestatic 92, 3) := by decide +kernel
theorem dX11_init_252 : decode cX11_init 252 = .ok (.invokevirtual 96, 3) := by decide +kernel
theorem dX11_init_255 : decode cX11_init 255 = .ok (.return_, 1) := by decide +kernel
theorem dX11_openMaker_0 : decode cX11_openMaker 0 = .ok (.aload_n 0, 1) := by decide +kernel
theorem dX11_openMaker_1 : decode cX11_openMaker 1 = .ok (.iconst 2, 1) := by decide +kernel
theorem dX11_openMaker_2 : decode cX11_openMaker 2 = .ok (.putfield 120, 3) := by decide +kernel
theorem dX11_openMaker_5 : decode cX11_openMaker 5 = .ok (.aload_n 0, 1) := by decide +kernel
theorem dX11_openMaker_6 : decode cX11_openMaker 6 = .ok (.iconst 3, 1) := by decide +kernel
theorem dX11_openMaker_7 : decode cX11_openMaker 7 = .ok (.putfield 109, 3) := by decide +kernel
theorem dX11_openMaker_10 : decode cX11_openMaker 10 = .ok (.aload_n 0, 1) := by decide +kernel
theorem dX11_openMaker_11 : decode cX11_openMaker 11 = .ok (.areturn, 1) := by decide +kernel
theorem dX11_clear_0 : decode cX11_clear 0 = .ok (.aload_n 0, 1) := by decide +kernel
theorem dX11_clear_1 : decode cX11_clear 1 = .ok (.iconst 2, 1) := by decide +kernel
theorem dX11_clear_2 : decode cX11_clear 2 = .ok (.putfield 123, 3) := by decide +kernel
theorem dX11_clear_5 : decode cX11_clear 5 = .ok (.aload_n 0, 1) := by decide +kernel
theorem dX11_clear_6 : decode cX11_clear 6 = .ok (.getfield 11, 3) := by decide +kernel
theorem dX11_clear_9 : decode cX11_clear 9 = .ok (.iconst 0, 1) := by decide +kernel
theorem dX11_clear_10 : decode cX11_clear 10 = .ok (.aload_n 0, 1) := by decide +kernel
theorem dX11_clear_11 : decode cX11_clear 11 = .ok (.getfield 66, 3) := by decide +kernel
theorem dX11_clear_14 : decode cX11_clear 14 = .ok (.getfield 126, 3) := by decide +kernel
theorem dX11_clear_17 : decode cX11_clear 17 = .ok (.iconst 0, 1) := by decide +kernel
theorem dX11_clear_18 : decode cX11_clear 18 = .ok (.aaload, 1) := by decide +kernel
theorem dX11_clear_19 : decode cX11_clear 19 = .ok (.aastore, 1) := by decide +kernel
theorem dX11_clear_20 : decode cX11_clear 20 = .ok (.aload_n 0, 1) := by decide +kernel
theorem dX11_clear_21 : decode cX11_clear 21 = .ok (.getfield 11, 3) := by decide +kernel
theorem dX11_clear_24 : decode cX11_clear 24 = .ok (.iconst 1, 1) := by decide +kernel
theorem dX11_clear_25 : decode cX11_clear 25 = .ok (.aload_n 0, 1) := by decide +kernel
theorem dX11_clear_26 : decode cX11_clear 26 = .ok (.getfield 66, 3) := by decide +kernel
theorem dX11_clear_29 : decode cX11_clear 29 = .ok (.getfield 126, 3) := by decide +kernel
theorem dX11_clear_32 : decode cX11_clear 32 = .ok (.iconst 1, 1) := by decide +kernel
theorem dX11_clear_33 : decode cX11_clear 33 = .ok (.aaload, 1) := by decide +kernel
theorem dX11_clear_34 : decode cX11_clear 34 = .ok (.aastore, 1) := by decide +kernel
theorem dX11_clear_35 : decode cX11_clear 35 = .ok (.return_, 1) := by decide +kernel
theorem dX11_enter_0 : decode cX11_enter 0 = .ok (.iconst 0, 1) := by decide +kernel
theorem dX11_enter_1 : decode cX11_enter 1 = .ok (.istore_n 2, 1) := by decide +kernel
theorem dX11_enter_2 : decode cX11_enter 2 = .ok (.aload_n 1, 1) := by decide +kernel
theorem dX11_enter_3 : decode cX11_enter 3 = .ok (.ifnull 112, 3) := by decide +kernel
theorem dX11_enter_6 : decode cX11_enter 6 = .ok (.iload_n 2, 1) := by decide +kernel
theorem dX11_enter_7 : decode cX11_enter 7 = .ok (.aload_n 1, 1) := by decide +kernel
theorem dX11_enter_8 : decode cX11_enter 8 = .ok (.getfield 129, 3) := by decide +kernel
theorem dX11_enter_11 : decode cX11_enter 11 = .ok (.if_icmp .ge 104, 3) := by decide +kernel
theorem dX11_enter_115 : decode cX11_enter 115 = .ok (.return_, 1) := by decide +kernel
theorem dX11_find_0 : decode cX11_find 0 = .ok (.iconst 2, 1) := by decide +kernel
theorem dX11_find_1 : decode cX11_find 1 = .ok (.istore_n 3, 1) := by decide +kernel
theorem dX11_find_2 : decode cX11_find 2 = .ok (.iload_n 3, 1) := by decide +kernel
theorem dX11_find_3 : decode cX11_find 3 = .ok (.aload_n 0, 1) := by decide +kernel
theorem dX11_find_4 : decode cX11_find 4 = .ok (.getfield 123, 3) := by decide +kernel
theorem dX11_find_7 : decode cX11_find 7 = .ok (.if_icmp .ge 25, 3) := by decide +kernel
theorem dX11_find_32 : decode cX11_find 32 = .ok (.lload_n 1, 1) := by decide +kernel
theorem dX11_find_33 : decode cX11_find 33 = .ok (.ldc2_w 74, 3) := by decide +kernel
theorem dX11_find_36 : decode cX11_find 36 = .ok (.lcmp, 1) := by decide +kernel
theorem dX11_find_37 : decode cX11_find 37 = .ok (.ifCond .ne 7, 3) := by decide +kernel
theorem dX11_find_40 : decode cX11_find 40 = .ok (.iconst 0, 1) := by decide +kernel
theorem dX11_find_41 : decode cX11_find 41 = .ok (.goto 17, 3) := by decide +kernel
theorem dX11_find_58 : decode cX11_find 58 = .ok (.ireturn, 1) := by decide +kernel
theorem dX11_settle_0 : decode cX11_settle 0 = .ok (.iconst 0, 1) := by decide +kernel
theorem dX11_settle_1 : decode cX11_settle 1 = .ok (.istore_n 1, 1) := by decide +kernel
theorem dX11_settle_2 : decode cX11_settle 2 = .ok (.iload_n 1, 1) := by decide +kernel
theorem dX11_settle_3 : decode cX11_settle 3 = .ok (.aload_n 0, 1) := by decide +kernel
theorem dX11_settle_4 : decode cX11_settle 4 = .ok (.getfield 123, 3) := by decide +kernel
theorem dX11_settle_7 : decode cX11_settle 7 = .ok (.if_icmp .ge 295, 3) := by decide +kernel
theorem dX11_settle_10 : decode cX11_settle 10 = .ok (.aload_n 0, 1) := by decide +kernel
theorem dX11_settle_11 : decode cX11_settle 11 = .ok (.getfield 11, 3) := by decide +kernel
theorem dX11_settle_14 : decode cX11_settle 14 = .ok (.iload_n 1, 1) := by decide +kernel
theorem dX11_settle_15 : decode cX11_settle 15 = .ok (.aaload, 1) := by decide +kernel
theorem dX11_settle_16 : decode cX11_settle 16 = .ok (.astore_n 2, 1) := by decide +kernel
theorem dX11_settle_17 : decode cX11_settle 17 = .ok (.aload_n 0, 1) := by decide +kernel
theorem dX11_settle_18 : decode cX11_settle 18 = .ok (.getfield 17, 3) := by decide +kernel
theorem dX11_settle_21 : decode cX11_settle 21 = .ok (.iload_n 1, 1) := by decide +kernel
theorem dX11_settle_22 : decode cX11_settle 22 = .ok (.iload_n 1, 1) := by decide +kernel
theorem dX11_settle_23 : decode cX11_settle 23 = .ok (.ifCond .eq 10, 3) := by decide +kernel
theorem dX11_settle_26 : decode cX11_settle 26 = .ok (.aload_n 2, 1) := by decide +kernel
theorem dX11_settle_27 : decode cX11_settle 27 = .ok (.getfield 132, 3) := by decide +kernel
theorem dX11_settle_30 : decode cX11_settle 30 = .ok (.ifCond .eq 8, 3) := by decide +kernel
theorem dX11_settle_33 : decode cX11_settle 33 = .ok (.bipush (-2), 2) := by decide +kernel
theorem dX11_settle_35 : decode cX11_settle 35 = .ok (.goto 11, 3) := by decide +kernel
theorem dX11_settle_38 : decode cX11_settle 38 = .ok (.aload_n 0, 1) := by decide +kernel
theorem dX11_settle_39 : decode cX11_settle 39 = .ok (.aload_n 2, 1) := by decide +kernel
theorem dX11_settle_40 : decode cX11_settle 40 = .ok (.getfield 86, 3) := by decide +kernel
theorem dX11_settle_43 : decode cX11_settle 43 = .ok (.invokevirtual 134, 3) := by decide +kernel
theorem dX11_settle_46 : decode cX11_settle 46 = .ok (.iastore, 1) := by decide +kernel
theorem dX11_settle_47 : decode cX11_settle 47 = .ok (.aload_n 0, 1) := by decide +kernel
theorem dX11_settle_48 : decode cX11_settle 48 = .ok (.getfield 30, 3) := by decide +kernel
theorem dX11_settle_51 : decode cX11_settle 51 = .ok (.iload_n 1, 1) := by decide +kernel
theorem dX11_settle_52 : decode cX11_settle 52 = .ok (.aload_n 2, 1) := by decide +kernel
theorem dX11_settle_53 : decode cX11_settle 53 = .ok (.getfield 138, 3) := by decide +kernel
theorem dX11_settle_56 : decode cX11_settle 56 = .ok (.ldc2_w 84, 3) := by decide +kernel
theorem dX11_settle_59 : decode cX11_settle 59 = .ok (.lcmp, 1) := by decide +kernel
theorem dX11_settle_60 : decode cX11_settle 60 = .ok (.ifCond .ne 8, 3) := by decide +kernel
theorem dX11_settle_63 : decode cX11_settle 63 = .ok (.bipush (-2), 2) := by decide +kernel
theorem dX11_settle_65 : decode cX11_settle 65 = .ok (.goto 11, 3) := by decide +kernel
theorem dX11_settle_76 : decode cX11_settle 76 = .ok (.iastore, 1) := by decide +kernel
theorem dX11_settle_77 : decode cX11_settle 77 = .ok (.aload_n 0, 1) := by decide +kernel
theorem dX11_settle_78 : decode cX11_settle 78 = .ok (.getfield 30, 3) := by decide +kernel
theorem dX11_settle_81 : decode cX11_settle 81 = .ok (.iload_n 1, 1) := by decide +kernel
theorem dX11_settle_82 : decode cX11_settle 82 = .ok (.iaload, 1) := by decide +kernel
theorem dX11_settle_83 : decode cX11_settle 83 = .ok (.ifCond .lt 47, 3) := by decide +kernel
theorem dX11_settle_130 : decode cX11_settle 130 = .ok (.iconst 0, 1) := by decide +kernel
theorem dX11_settle_131 : decode cX11_settle 131 = .ok (.istore_n 3, 1) := by decide +kernel
theorem dX11_settle_132 : decode cX11_settle 132 = .ok (.aload_n 0, 1) := by decide +kernel
theorem dX11_settle_133 : decode cX11_settle 133 = .ok (.getfield 33, 3) := by decide +kernel
theorem dX11_settle_136 : decode cX11_settle 136 = .ok (.iload_n 1, 1) := by decide +kernel
theorem dX11_settle_137 : decode cX11_settle 137 = .ok (.iload_n 3, 1) := by decide +kernel
theorem dX11_settle_138 : decode cX11_settle 138 = .ok (.ifCond .eq 12, 3) := by decide +kernel
theorem dX11_settle_150 : decode cX11_settle 150 = .ok (.iload_n 1, 1) := by decide +kernel
theorem dX11_settle_151 : decode cX11_settle 151 = .ok (.iastore, 1) := by decide +kernel
theorem dX11_settle_152 : decode cX11_settle 152 = .ok (.aload_n 0, 1) := by decide +kernel
theorem dX11_settle_153 : decode cX11_settle 153 = .ok (.getfield 27, 3) := by decide +kernel
theorem dX11_settle_156 : decode cX11_settle 156 = .ok (.iload_n 1, 1) := by decide +kernel
theorem dX11_settle_157 : decode cX11_settle 157 = .ok (.iconst 5, 1) := by decide +kernel
theorem dX11_settle_158 : decode cX11_settle 158 = .ok (.imul, 1) := by decide +kernel
theorem dX11_settle_159 : decode cX11_settle 159 = .ok (.aload_n 2, 1) := by decide +kernel
theorem dX11_settle_160 : decode cX11_settle 160 = .ok (.getfield 132, 3) := by decide +kernel
theorem dX11_settle_163 : decode cX11_settle 163 = .ok (.ifCond .eq 7, 3) := by decide +kernel
theorem dX11_settle_170 : decode cX11_settle 170 = .ok (.aload_n 0, 1) := by decide +kernel
theorem dX11_settle_171 : decode cX11_settle 171 = .ok (.aload_n 2, 1) := by decide +kernel
theorem dX11_settle_172 : decode cX11_settle 172 = .ok (.aload_n 0, 1) := by decide +kernel
theorem dX11_settle_173 : decode cX11_settle 173 = .ok (.getfield 17, 3) := by decide +kernel
theorem dX11_settle_176 : decode cX11_settle 176 = .ok (.iload_n 1, 1) := by decide +kernel
theorem dX11_settle_177 : decode cX11_settle 177 = .ok (.iaload, 1) := by decide +kernel
theorem dX11_settle_178 : decode cX11_settle 178 = .ok (.iconst 1, 1) := by decide +kernel
theorem dX11_settle_179 : decode cX11_settle 179 = .ok (.invokevirtual 145, 3) := by decide +kernel
theorem dX11_settle_182 : decode cX11_settle 182 = .ok (.iastore, 1) := by decide +kernel
theorem dX11_settle_183 : decode cX11_settle 183 = .ok (.iconst 0, 1) := by decide +kernel
theorem dX11_settle_184 : decode cX11_settle 184 = .ok (.istore 4, 2) := by decide +kernel
theorem dX11_settle_186 : decode cX11_settle 186 = .ok (.iload 4, 2) := by decide +kernel
theorem dX11_settle_188 : decode cX11_settle 188 = .ok (.iconst 4, 1) := by decide +kernel
theorem dX11_settle_189 : decode cX11_settle 189 = .ok (.if_icmp .ge 92, 3) := by decide +kernel
theorem dX11_settle_192 : decode cX11_settle 192 = .ok (.aload_n 0, 1) := by decide +kernel
theorem dX11_settle_193 : decode cX11_settle 193 = .ok (.getfield 24, 3) := by decide +kernel
theorem dX11_settle_196 : decode cX11_settle 196 = .ok (.iload_n 1, 1) := by decide +kernel
theorem dX11_settle_197 : decode cX11_settle 197 = .ok (.iconst 4, 1) := by decide +kernel
theorem dX11_settle_198 : decode cX11_settle 198 = .ok (.imul, 1) := by decide +kernel
theorem dX11_settle_199 : decode cX11_settle 199 = .ok (.iload 4, 2) := by decide +kernel
theorem dX11_settle_201 : decode cX11_settle 201 = .ok (.iadd, 1) := by decide +kernel
theorem dX11_settle_202 : decode cX11_settle 202 = .ok (.iload 4, 2) := by decide +kernel
theorem dX11_settle_204 : decode cX11_settle 204 = .ok (.aload_n 2, 1) := by decide +kernel
theorem dX11_settle_205 : decode cX11_settle 205 = .ok (.getfield 149, 3) := by decide +kernel
theorem dX11_settle_208 : decode cX11_settle 208 = .ok (.iconst 0, 1) := by decide +kernel
theorem dX11_settle_209 : decode cX11_settle 209 = .ok (.iaload, 1) := by decide +kernel
theorem dX11_settle_210 : decode cX11_settle 210 = .ok (.if_icmp .ge 17, 3) := by decide +kernel
theorem dX11_settle_227 : decode cX11_settle 227 = .ok (.bipush (-2), 2) := by decide +kernel
theorem dX11_settle_229 : decode cX11_settle 229 = .ok (.iastore, 1) := by decide +kernel
theorem dX11_settle_230 : decode cX11_settle 230 = .ok (.aload_n 0, 1) := by decide +kernel
theorem dX11_settle_231 : decode cX11_settle 231 = .ok (.getfield 27, 3) := by decide +kernel
theorem dX11_settle_234 : decode cX11_settle 234 = .ok (.iload_n 1, 1) := by decide +kernel
theorem dX11_settle_235 : decode cX11_settle 235 = .ok (.iconst 5, 1) := by decide +kernel
theorem dX11_settle_236 : decode cX11_settle 236 = .ok (.imul, 1) := by decide +kernel
theorem dX11_settle_237 : decode cX11_settle 237 = .ok (.iconst 1, 1) := by decide +kernel
theorem dX11_settle_238 : decode cX11_settle 238 = .ok (.iadd, 1) := by decide +kernel
theorem dX11_settle_239 : decode cX11_settle 239 = .ok (.iload 4, 2) := by decide +kernel
theorem dX11_settle_241 : decode cX11_settle 241 = .ok (.iadd, 1) := by decide +kernel
theorem dX11_settle_242 : decode cX11_settle 242 = .ok (.iload 4, 2) := by decide +kernel
theorem dX11_settle_244 : decode cX11_settle 244 = .ok (.aload_n 2, 1) := by decide +kernel
theorem dX11_settle_245 : decode cX11_settle 245 = .ok (.getfield 149, 3) := by decide +kernel
theorem dX11_settle_248 : decode cX11_settle 248 = .ok (.iconst 0, 1) := by decide +kernel
theorem dX11_settle_249 : decode cX11_settle 249 = .ok (.iaload, 1) := by decide +kernel
theorem dX11_settle_250 : decode cX11_settle 250 = .ok (.if_icmp .ge 23, 3) := by decide +kernel
theorem dX11_settle_273 : decode cX11_settle 273 = .ok (.iconst 0, 1) := by decide +kernel
theorem dX11_settle_274 : decode cX11_settle 274 = .ok (.iastore, 1) := by decide +kernel
theorem dX11_settle_275 : decode cX11_settle 275 = .ok (.iinc 4 1, 3) := by decide +kernel
theorem dX11_settle_278 : decode cX11_settle 278 = .ok (.goto (-92), 3) := by decide +kernel
theorem dX11_settle_281 : decode cX11_settle 281 = .ok (.aload_n 0, 1) := by decide +kernel
theorem dX11_settle_282 : decode cX11_settle 282 = .ok (.getfield 36, 3) := by decide +kernel
theorem dX11_settle_285 : decode cX11_settle 285 = .ok (.iload_n 1, 1) := by decide +kernel
theorem dX11_settle_286 : decode cX11_settle 286 = .ok (.lconst 0, 1) := by decide +kernel
theorem dX11_settle_287 : decode cX11_settle 287 = .ok (.lastore, 1) := by decide +kernel
theorem dX11_settle_288 : decode cX11_settle 288 = .ok (.aload_n 0, 1) := by decide +kernel
theorem dX11_settle_289 : decode cX11_settle 289 = .ok (.getfield 43, 3) := by decide +kernel
theorem dX11_settle_292 : decode cX11_settle 292 = .ok (.iload_n 1, 1) := by decide +kernel
theorem dX11_settle_293 : decode cX11_settle 293 = .ok (.bipush (-2), 2) := by decide +kernel
theorem dX11_settle_295 : decode cX11_settle 295 = .ok (.iastore, 1) := by decide +kernel
theorem dX11_settle_296 : decode cX11_settle 296 = .ok (.iinc 1 1, 3) := by decide +kernel
theorem dX11_settle_299 : decode cX11_settle 299 = .ok (.goto (-297), 3) := by decide +kernel
theorem dX11_settle_302 : decode cX11_settle 302 = .ok (.aload_n 0, 1) := by decide +kernel
theorem dX11_settle_303 : decode cX11_settle 303 = .ok (.invokevirtual 156, 3) := by decide +kernel
theorem dX11_settle_306 : decode cX11_settle 306 = .ok (.return_, 1) := by decide +kernel
theorem dX11_bars_0 : decode cX11_bars 0 = .ok (.iload_n 2, 1) := by decide +kernel
theorem dX11_bars_1 : decode cX11_bars 1 = .ok (.ifCond .ge 5, 3) := by decide +kernel
theorem dX11_bars_4 : decode cX11_bars 4 = .ok (.iconst 1, 1) := by decide +kernel
theorem dX11_bars_5 : decode cX11_bars 5 = .ok (.ireturn, 1) := by decide +kernel
theorem dX11_bars_6 : decode cX11_bars 6 = .ok (.aload_n 0, 1) := by decide +kernel
theorem dX11_bars_7 : decode cX11_bars 7 = .ok (.getfield 11, 3) := by decide +kernel
theorem dX11_bars_10 : decode cX11_bars 10 = .ok (.iload_n 2, 1) := by decide +kernel
theorem dX11_bars_11 : decode cX11_bars 11 = .ok (.aaload, 1) := by decide +kernel
theorem dX11_bars_12 : decode cX11_bars 12 = .ok (.astore 4, 2) := by decide +kernel
theorem dX11_bars_14 : decode cX11_bars 14 = .ok (.aload 4, 2) := by decide +kernel
theorem dX11_bars_16 : decode cX11_bars 16 = .ok (.getfield 132, 3) := by decide +kernel
theorem dX11_bars_19 : decode cX11_bars 19 = .ok (.iload_n 3, 1) := by decide +kernel
theorem dX11_bars_20 : decode cX11_bars 20 = .ok (.if_icmp .ne 5, 3) := by decide +kernel
theorem dX11_bars_25 : decode cX11_bars 25 = .ok (.aload 4, 2) := by decide +kernel
theorem dX11_bars_27 : decode cX11_bars 27 = .ok (.getfield 80, 3) := by decide +kernel
theorem dX11_bars_30 : decode cX11_bars 30 = .ok (.ifCond .ne 24, 3) := by decide +kernel
theorem dX11_bars_54 : decode cX11_bars 54 = .ok (.iload_n 3, 1) := by decide +kernel
theorem dX11_bars_55 : decode cX11_bars 55 = .ok (.ifCond .eq 11, 3) := by decide +kernel
theorem dX11_bars_58 : decode cX11_bars 58 = .ok (.aload 4, 2) := by decide +kernel
theorem dX11_bars_60 : decode cX11_bars 60 = .ok (.getfield 159, 3) := by decide +kernel
theorem dX11_bars_63 : decode cX11_bars 63 = .ok (.ifCond .ne 26, 3) := by decide +kernel
theorem dX11_bars_66 : decode cX11_bars 66 = .ok (.aload 4, 2) := by decide +kernel
theorem dX11_bars_68 : decode cX11_bars 68 = .ok (.getfield 149, 3) := by decide +kernel
theorem dX11_bars_71 : decode cX11_bars 71 = .ok (.iconst 2, 1) := by decide +kernel
theorem dX11_bars_72 : decode cX11_bars 72 = .ok (.iaload, 1) := by decide +kernel
theorem dX11_bars_73 : decode cX11_bars 73 = .ok (.ifCond .le 20, 3) := by decide +kernel
theorem dX11_bars_93 : decode cX11_bars 93 = .ok (.iconst 0, 1) := by decide +kernel
theorem dX11_bars_94 : decode cX11_bars 94 = .ok (.ireturn, 1) := by decide +kernel
theorem dX11_close_0 : decode cX11_close 0 = .ok (.iconst 1, 1) := by decide +kernel
theorem dX11_close_1 : decode cX11_close 1 = .ok (.istore_n 1, 1) := by decide +kernel
theorem dX11_close_2 : decode cX11_close 2 = .ok (.iconst 0, 1) := by decide +kernel
theorem dX11_close_3 : decode cX11_close 3 = .ok (.istore_n 2, 1) := by decide +kernel
theorem dX11_close_4 : decode cX11_close 4 = .ok (.iload_n 2, 1) := by decide +kernel
theorem dX11_close_5 : decode cX11_close 5 = .ok (.bipush 64, 2) := by decide +kernel
theorem dX11_close_7 : decode cX11_close 7 = .ok (.if_icmp .gt 167, 3) := by decide +kernel
theorem dX11_close_10 : decode cX11_close 10 = .ok (.iload_n 1, 1) := by decide +kernel
theorem dX11_close_11 : decode cX11_close 11 = .ok (.ifCond .eq 163, 3) := by decide +kernel
theorem dX11_close_14 : decode cX11_close 14 = .ok (.iconst 0, 1) := by decide +kernel
theorem dX11_close_15 : decode cX11_close 15 = .ok (.istore_n 1, 1) := by decide +kernel
theorem dX11_close_16 : decode cX11_close 16 = .ok (.iconst 0, 1) := by decide +kernel
theorem dX11_close_17 : decode cX11_close 17 = .ok (.istore_n 3, 1) := by decide +kernel
theorem dX11_close_18 : decode cX11_close 18 = .ok (.iload_n 3, 1) := by decide +kernel
theorem dX11_close_19 : decode cX11_close 19 = .ok (.aload_n 0, 1) := by decide +kernel
theorem dX11_close_20 : decode cX11_close 20 = .ok (.getfield 123, 3) := by decide +kernel
theorem dX11_close_23 : decode cX11_close 23 = .ok (.if_icmp .ge 145, 3) := by decide +kernel
theorem dX11_close_26 : decode cX11_close 26 = .ok (.aload_n 0, 1) := by decide +kernel
theorem dX11_close_27 : decode cX11_close 27 = .ok (.getfield 36, 3) := by decide +kernel
theorem dX11_close_30 : decode cX11_close 30 = .ok (.iload_n 3, 1) := by decide +kernel
theorem dX11_close_31 : decode cX11_close 31 = .ok (.laload, 1) := by decide +kernel
theorem dX11_close_32 : decode cX11_close 32 = .ok (.lstore 4, 2) := by decide +kernel
theorem dX11_close_34 : decode cX11_close 34 = .ok (.aload_n 0, 1) := by decide +kernel
theorem dX11_close_35 : decode cX11_close 35 = .ok (.getfield 36, 3) := by decide +kernel
theorem dX11_close_38 : decode cX11_close 38 = .ok (.iload_n 3, 1) := by decide +kernel
theorem dX11_close_39 : decode cX11_close 39 = .ok (.dup2, 1) := by decide +kernel
theorem dX11_close_40 : decode cX11_close 40 = .ok (.laload, 1) := by decide +kernel
theorem dX11_close_41 : decode cX11_close 41 = .ok (.aload_n 0, 1) := by decide +kernel
theorem dX11_close_42 : decode cX11_close 42 = .ok (.getfield 17, 3) := by decide +kernel
theorem dX11_close_45 : decode cX11_close 45 = .ok (.iload_n 3, 1) := by decide +kernel
theorem dX11_close_46 : decode cX11_close 46 = .ok (.iaload, 1) := by decide +kernel
theorem dX11_close_47 : decode cX11_close 47 = .ok (.ifCond .ge 7, 3) := by decide +kernel
theorem dX11_close_50 : decode cX11_close 50 = .ok (.lconst 0, 1) := by decide +kernel
theorem dX11_close_51 : decode cX11_close 51 = .ok (.goto 23, 3) := by decide +kernel
theorem dX11_close_54 : decode cX11_close 54 = .ok (.lconst 1, 1) := by decide +kernel
theorem dX11_close_55 : decode cX11_close 55 = .ok (.aload_n 0, 1) := by decide +kernel
theorem dX11_close_56 : decode cX11_close 56 = .ok (.getfield 17, 3) := by decide +kernel
theorem dX11_close_59 : decode cX11_close 59 = .ok (.iload_n 3, 1) := by decide +kernel
theorem dX11_close_60 : decode cX11_close 60 = .ok (.iaload, 1) := by decide +kernel
theorem dX11_close_61 : decode cX11_close 61 = .ok (.lshl, 1) := by decide +kernel
theorem dX11_close_62 : decode cX11_close 62 = .ok (.aload_n 0, 1) := by decide +kernel
theorem dX11_close_63 : decode cX11_close 63 = .ok (.getfield 36, 3) := by decide +kernel
theorem dX11_close_66 : decode cX11_close 66 = .ok (.aload_n 0, 1) := by decide +kernel
theorem dX11_close_67 : decode cX11_close 67 = .ok (.getfield 17, 3) := by decide +kernel
theorem dX11_close_70 : decode cX11_close 70 = .ok (.iload_n 3, 1) := by decide +kernel
theorem dX11_close_71 : decode cX11_close 71 = .ok (.iaload, 1) := by decide +kernel
theorem dX11_close_72 : decode cX11_close 72 = .ok (.laload, 1) := by decide +kernel
theorem dX11_close_73 : decode cX11_close 73 = .ok (.lor, 1) := by decide +kernel
theorem dX11_close_74 : decode cX11_close 74 = .ok (.lor, 1) := by decide +kernel
theorem dX11_close_75 : decode cX11_close 75 = .ok (.lastore, 1) := by decide +kernel
theorem dX11_close_76 : decode cX11_close 76 = .ok (.iload_n 3, 1) := by decide +kernel
theorem dX11_close_77 : decode cX11_close 77 = .ok (.iconst 4, 1) := by decide +kernel
theorem dX11_close_78 : decode cX11_close 78 = .ok (.imul, 1) := by decide +kernel
theorem dX11_close_79 : decode cX11_close 79 = .ok (.istore 6, 2) := by decide +kernel
theorem dX11_close_81 : decode cX11_close 81 = .ok (.iload 6, 2) := by decide +kernel
theorem dX11_close_83 : decode cX11_close 83 = .ok (.iload_n 3, 1) := by decide +kernel
theorem dX11_close_84 : decode cX11_close 84 = .ok (.iconst 4, 1) := by decide +kernel
theorem dX11_close_85 : decode cX11_close 85 = .ok (.imul, 1) := by decide +kernel
theorem dX11_close_86 : decode cX11_close 86 = .ok (.iconst 4, 1) := by decide +kernel
theorem dX11_close_87 : decode cX11_close 87 = .ok (.iadd, 1) := by decide +kernel
theorem dX11_close_88 : decode cX11_close 88 = .ok (.if_icmp .ge 54, 3) := by decide +kernel
theorem dX11_close_91 : decode cX11_close 91 = .ok (.aload_n 0, 1) := by decide +kernel
theorem dX11_close_92 : decode cX11_close 92 = .ok (.getfield 36, 3) := by decide +kernel
theorem dX11_close_95 : decode cX11_close 95 = .ok (.iload_n 3, 1) := by decide +kernel
theorem dX11_close_96 : decode cX11_close 96 = .ok (.dup2, 1) := by decide +kernel
theorem dX11_close_97 : decode cX11_close 97 = .ok (.laload, 1) := by decide +kernel
theorem dX11_close_98 : decode cX11_close 98 = .ok (.aload_n 0, 1) := by decide +kernel
theorem dX11_close_99 : decode cX11_close 99 = .ok (.getfield 24, 3) := by decide +kernel
theorem dX11_close_102 : decode cX11_close 102 = .ok (.iload 6, 2) := by decide +kernel
theorem dX11_close_104 : decode cX11_close 104 = .ok (.iaload, 1) := by decide +kernel
theorem dX11_close_105 : decode cX11_close 105 = .ok (.ifCond .ge 7, 3) := by decide +kernel
theorem dX11_close_108 : decode cX11_close 108 = .ok (.lconst 0, 1) := by decide +kernel
theorem dX11_close_109 : decode cX11_close 109 = .ok (.goto 25, 3) := by decide +kernel
theorem dX11_close_134 : decode cX11_close 134 = .ok (.lor, 1) := by decide +kernel
theorem dX11_close_135 : decode cX11_close 135 = .ok (.lastore, 1) := by decide +kernel
theorem dX11_close_136 : decode cX11_close 136 = .ok (.iinc 6 1, 3) := by decide +kernel
theorem dX11_close_139 : decode cX11_close 139 = .ok (.goto (-58), 3) := by decide +kernel
theorem dX11_close_142 : decode cX11_close 142 = .ok (.iload_n 1, 1) := by decide +kernel
theorem dX11_close_143 : decode cX11_close 143 = .ok (.aload_n 0, 1) := by decide +kernel
theorem dX11_close_144 : decode cX11_close 144 = .ok (.getfield 36, 3) := by decide +kernel
theorem dX11_close_147 : decode cX11_close 147 = .ok (.iload_n 3, 1) := by decide +kernel
theorem dX11_close_148 : decode cX11_close 148 = .ok (.laload, 1) := by decide +kernel
theorem dX11_close_149 : decode cX11_close 149 = .ok (.lload 4, 2) := by decide +kernel
theorem dX11_close_151 : decode cX11_close 151 = .ok (.lcmp, 1) := by decide +kernel
theorem dX11_close_152 : decode cX11_close 152 = .ok (.ifCond .eq 7, 3) := by decide +kernel
theorem dX11_close_155 : decode cX11_close 155 = .ok (.iconst 1, 1) := by decide +kernel
theorem dX11_close_156 : decode cX11_close 156 = .ok (.goto 4, 3) := by decide +kernel
theorem dX11_close_159 : decode cX11_close 159 = .ok (.iconst 0, 1) := by decide +kernel
theorem dX11_close_160 : decode cX11_close 160 = .ok (.ior, 1) := by decide +kernel
theorem dX11_close_161 : decode cX11_close 161 = .ok (.istore_n 1, 1) := by decide +kernel
theorem dX11_close_162 : decode cX11_close 162 = .ok (.iinc 3 1, 3) := by decide +kernel
theorem dX11_close_165 : decode cX11_close 165 = .ok (.goto (-147), 3) := by decide +kernel
theorem dX11_close_168 : decode cX11_close 168 = .ok (.iinc 2 1, 3) := by decide +kernel
theorem dX11_close_171 : decode cX11_close 171 = .ok (.goto (-167), 3) := by decide +kernel
theorem dX11_close_174 : decode cX11_close 174 = .ok (.iconst 0, 1) := by decide +kernel
theorem dX11_close_175 : decode cX11_close 175 = .ok (.istore_n 2, 1) := by decide +kernel
theorem dX11_close_176 : decode cX11_close 176 = .ok (.iload_n 2, 1) := by decide +kernel
theorem dX11_close_177 : decode cX11_close 177 = .ok (.aload_n 0, 1) := by decide +kernel
theorem dX11_close_178 : decode cX11_close 178 = .ok (.getfield 123, 3) := by decide +kernel
theorem dX11_close_181 : decode cX11_close 181 = .ok (.if_icmp .ge 86, 3) := by decide +kernel
theorem dX11_close_184 : decode cX11_close 184 = .ok (.aload_n 0, 1) := by decide +kernel
theorem dX11_close_185 : decode cX11_close 185 = .ok (.getfield 21, 3) := by decide +kernel
theorem dX11_close_188 : decode cX11_close 188 = .ok (.iload_n 2, 1) := by decide +kernel
theorem dX11_close_189 : decode cX11_close 189 = .ok (.iconst 0, 1) := by decide +kernel
theorem dX11_close_190 : decode cX11_close 190 = .ok (.iastore, 1) := by decide +kernel
theorem dX11_close_191 : decode cX11_close 191 = .ok (.lconst 0, 1) := by decide +kernel
theorem dX11_close_192 : decode cX11_close 192 = .ok (.lstore_n 3, 1) := by decide +kernel
theorem dX11_close_193 : decode cX11_close 193 = .ok (.aload_n 0, 1) := by decide +kernel
theorem dX11_close_194 : decode cX11_close 194 = .ok (.getfield 17, 3) := by decide +kernel
theorem dX11_close_197 : decode cX11_close 197 = .ok (.iload_n 2, 1) := by decide +kernel
theorem dX11_close_198 : decode cX11_close 198 = .ok (.iaload, 1) := by decide +kernel
theorem dX11_close_199 : decode cX11_close 199 = .ok (.istore 5, 2) := by decide +kernel
theorem dX11_close_201 : decode cX11_close 201 = .ok (.iconst 0, 1) := by decide +kernel
theorem dX11_close_202 : decode cX11_close 202 = .ok (.istore 6, 2) := by decide +kernel
theorem dX11_close_204 : decode cX11_close 204 = .ok (.iload 6, 2) := by decide +kernel
theorem dX11_close_206 : decode cX11_close 206 = .ok (.aload_n 0, 1) := by decide +kernel
theorem dX11_close_207 : decode cX11_close 207 = .ok (.getfield 123, 3) := by decide +kernel
theorem dX11_close_210 : decode cX11_close 210 = .ok (.if_icmp .ge 51, 3) := by decide +kernel
theorem dX11_close_213 : decode cX11_close 213 = .ok (.iload 5, 2) := by decide +kernel
theorem dX11_close_215 : decode cX11_close 215 = .ok (.ifCond .lt 46, 3) := by decide +kernel
theorem dX11_close_218 : decode cX11_close 218 = .ok (.lload_n 3, 1) := by decide +kernel
theorem dX11_close_219 : decode cX11_close 219 = .ok (.iload 5, 2) := by decide +kernel
theorem dX11_close_221 : decode cX11_close 221 = .ok (.lushr, 1) := by decide +kernel
theorem dX11_close_222 : decode cX11_close 222 = .ok (.lconst 1, 1) := by decide +kernel
theorem dX11_close_223 : decode cX11_close 223 = .ok (.land, 1) := by decide +kernel
theorem dX11_close_224 : decode cX11_close 224 = .ok (.lconst 0, 1) := by decide +kernel
theorem dX11_close_225 : decode cX11_close 225 = .ok (.lcmp, 1) := by decide +kernel
theorem dX11_close_226 : decode cX11_close 226 = .ok (.ifCond .ne 35, 3) := by decide +kernel
theorem dX11_close_229 : decode cX11_close 229 = .ok (.lload_n 3, 1) := by decide +kernel
theorem dX11_close_230 : decode cX11_close 230 = .ok (.lconst 1, 1) := by decide +kernel
theorem dX11_close_231 : decode cX11_close 231 = .ok (.iload 5, 2) := by decide +kernel
theorem dX11_close_233 : decode cX11_close 233 = .ok (.lshl, 1) := by decide +kernel
theorem dX11_close_234 : decode cX11_close 234 = .ok (.lor, 1) := by decide +kernel
theorem dX11_close_235 : decode cX11_close 235 = .ok (.lstore_n 3, 1) := by decide +kernel
theorem dX11_close_236 : decode cX11_close 236 = .ok (.aload_n 0, 1) := by decide +kernel
theorem dX11_close_237 : decode cX11_close 237 = .ok (.getfield 21, 3) := by decide +kernel
theorem dX11_close_240 : decode cX11_close 240 = .ok (.iload_n 2, 1) := by decide +kernel
theorem dX11_close_241 : decode cX11_close 241 = .ok (.dup2, 1) := by decide +kernel
theorem dX11_close_242 : decode cX11_close 242 = .ok (.iaload, 1) := by decide +kernel
theorem dX11_close_243 : decode cX11_close 243 = .ok (.iconst 1, 1) := by decide +kernel
theorem dX11_close_244 : decode cX11_close 244 = .ok (.iadd, 1) := by decide +kernel
theorem dX11_close_245 : decode cX11_close 245 = .ok (.iastore, 1) := by decide +kernel
theorem dX11_close_246 : decode cX11_close 246 = .ok (.aload_n 0, 1) := by decide +kernel
theorem dX11_close_247 : decode cX11_close 247 = .ok (.getfield 17, 3) := by decide +kernel
theorem dX11_close_250 : decode cX11_close 250 = .ok (.iload 5, 2) := by decide +kernel
theorem dX11_close_252 : decode cX11_close 252 = .ok (.iaload, 1) := by decide +kernel
theorem dX11_close_253 : decode cX11_close 253 = .ok (.istore 5, 2) := by decide +kernel
theorem dX11_close_255 : decode cX11_close 255 = .ok (.iinc 6 1, 3) := by decide +kernel
theorem dX11_close_258 : decode cX11_close 258 = .ok (.goto (-54), 3) := by decide +kernel
theorem dX11_close_261 : decode cX11_close 261 = .ok (.iinc 2 1, 3) := by decide +kernel
theorem dX11_close_264 : decode cX11_close 264 = .ok (.goto (-88), 3) := by decide +kernel
theorem dX11_close_267 : decode cX11_close 267 = .ok (.return_, 1) := by decide +kernel
theorem dX12_init_0 : decode cX12_init 0 = .ok (.aload_n 0, 1) := by decide +kernel
theorem dX12_init_1 : decode cX12_init 1 = .ok (.invokespecial 3, 3) := by decide +kernel
theorem dX12_init_4 : decode cX12_init 4 = .ok (.aload_n 0, 1) := by decide +kernel
theorem dX12_init_5 : decode cX12_init 5 = .ok (.sipush 4000, 3) := by decide +kernel
theorem dX12_init_8 : decode cX12_init 8 = .ok (.newarray .byte, 2) := by decide +kernel
theorem dX12_init_10 : decode cX12_init 10 = .ok (.putfield 9, 3) := by decide +kernel
theorem dX12_init_13 : decode cX12_init 13 = .ok (.aload_n 0, 1) := by decide +kernel
theorem dX12_init_14 : decode cX12_init 14 = .ok (.sipush 600, 3) := by decide +kernel
theorem dX12_init_17 : decode cX12_init 17 = .ok (.newarray .byte, 2) := by decide +kernel
theorem dX12_init_19 : decode cX12_init 19 = .ok (.putfield 13, 3) := by decide +kernel
theorem dX12_init_22 : decode cX12_init 22 = .ok (.aload_n 0, 1) := by decide +kernel
theorem dX12_init_23 : decode cX12_init 23 = .ok (.bipush 17, 2) := by decide +kernel
theorem dX12_init_25 : decode cX12_init 25 = .ok (.anewarray 16, 3) := by decide +kernel
theorem dX12_init_28 : decode cX12_init 28 = .ok (.putfield 18, 3) := by decide +kernel
theorem dX12_init_31 : decode cX12_init 31 = .ok (.aload_n 0, 1) := by decide +kernel
theorem dX12_init_32 : decode cX12_init 32 = .ok (.iconst 5, 1) := by decide +kernel
theorem dX12_init_33 : decode cX12_init 33 = .ok (.newarray .int, 2) := by decide +kernel
theorem dX12_init_35 : decode cX12_init 35 = .ok (.putfield 22, 3) := by decide +kernel
theorem dX12_init_38 : decode cX12_init 38 = .ok (.aload_n 0, 1) := by decide +kernel
theorem dX12_init_39 : decode cX12_init 39 = .ok (.iconst 5, 1) := by decide +kernel
theorem dX12_init_40 : decode cX12_init 40 = .ok (.newarray .int, 2) := by decide +kernel
theorem dX12_init_42 : decode cX12_init 42 = .ok (.putfield 26, 3) := by decide +kernel
theorem dX12_init_45 : decode cX12_init 45 = .ok (.aload_n 0, 1) := by decide +kernel
theorem dX12_init_46 : decode cX12_init 46 = .ok (.iconst 5, 1) := by decide +kernel
theorem dX12_init_47 : decode cX12_init 47 = .ok (.newarray .int, 2) := by decide +kernel
theorem dX12_init_49 : decode cX12_init 49 = .ok (.putfield 29, 3) := by decide +kernel
theorem dX12_init_52 : decode cX12_init 52 = .ok (.aload_n 0, 1) := by decide +kernel
theorem dX12_init_53 : decode cX12_init 53 = .ok (.new 32, 3) := by decide +kernel
theorem dX12_init_56 : decode cX12_init 56 = .ok (.dup, 1) := by decide +kernel
theorem dX12_init_57 : decode cX12_init 57 = .ok (.invokespecial 34, 3) := by decide +kernel
theorem dX12_init_60 : decode cX12_init 60 = .ok (.putfield 35, 3) := by decide +kernel
theorem dX12_init_63 : decode cX12_init 63 = .ok (.aload_n 0, 1) := by decide +kernel
