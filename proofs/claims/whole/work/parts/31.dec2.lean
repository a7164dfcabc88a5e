theorem dX4_init_0 : decode cX4_init 0 = .ok (.aload_n 0, 1) := by decide +kernel
theorem dX4_init_1 : decode cX4_init 1 = .ok (.invokespecial 1, 3) := by decide +kernel
theorem dX4_init_4 : decode cX4_init 4 = .ok (.aload_n 0, 1) := by decide +kernel
theorem dX4_init_5 : decode cX4_init 5 = .ok (.bipush 6, 2) := by decide +kernel
theorem dX4_init_7 : decode cX4_init 7 = .ok (.newarray .float, 2) := by decide +kernel
theorem dX4_init_9 : decode cX4_init 9 = .ok (.putfield 7, 3) := by decide +kernel
theorem dX4_init_12 : decode cX4_init 12 = .ok (.aload_n 0, 1) := by decide +kernel
theorem dX4_init_13 : decode cX4_init 13 = .ok (.sipush 512, 3) := by decide +kernel
theorem dX4_init_16 : decode cX4_init 16 = .ok (.newarray .boolean, 2) := by decide +kernel
theorem dX4_init_18 : decode cX4_init 18 = .ok (.putfield 13, 3) := by decide +kernel
theorem dX4_init_21 : decode cX4_init 21 = .ok (.aload_n 0, 1) := by decide +kernel
theorem dX4_init_22 : decode cX4_init 22 = .ok (.sipush 512, 3) := by decide +kernel
theorem dX4_init_25 : decode cX4_init 25 = .ok (.newarray .boolean, 2) := by decide +kernel
theorem dX4_init_27 : decode cX4_init 27 = .ok (.putfield 17, 3) := by decide +kernel
theorem dX4_init_30 : decode cX4_init 30 = .ok (.aload_n 0, 1) := by decide +kernel
theorem dX4_init_31 : decode cX4_init 31 = .ok (.sipush 512, 3) := by decide +kernel
theorem dX4_init_34 : decode cX4_init 34 = .ok (.newarray .int, 2) := by decide +kernel
theorem dX4_init_36 : decode cX4_init 36 = .ok (.putfield 20, 3) := by decide +kernel
theorem dX4_init_39 : decode cX4_init 39 = .ok (.aload_n 0, 1) := by decide +kernel
theorem dX4_init_40 : decode cX4_init 40 = .ok (.sipush 512, 3) := by decide +kernel
theorem dX4_init_43 : decode cX4_init 43 = .ok (.newarray .int, 2) := by decide +kernel
theorem dX4_init_45 : decode cX4_init 45 = .ok (.putfield 24, 3) := by decide +kernel
theorem dX4_init_48 : decode cX4_init 48 = .ok (.aload_n 0, 1) := by decide +kernel
theorem dX4_init_49 : decode cX4_init 49 = .ok (.sipush 3072, 3) := by decide +kernel
theorem dX4_init_52 : decode cX4_init 52 = .ok (.newarray .float, 2) := by decide +kernel
theorem dX4_init_54 : decode cX4_init 54 = .ok (.putfield 27, 3) := by decide +kernel
theorem dX4_init_57 : decode cX4_init 57 = .ok (.aload_n 0, 1) := by decide +kernel
theorem dX4_init_58 : decode cX4_init 58 = .ok (.sipush 3072, 3) := by decide +kernel
theorem dX4_init_61 : decode cX4_init 61 = .ok (.newarray .float, 2) := by decide +kernel
theorem dX4_init_63 : decode cX4_init 63 = .ok (.putfield 30, 3) := by decide +kernel
theorem dX4_init_66 : decode cX4_init 66 = .ok (.aload_n 0, 1) := by decide +kernel
theorem dX4_init_67 : decode cX4_init 67 = .ok (.sipush 8192, 3) := by decide +kernel
theorem dX4_init_70 : decode cX4_init 70 = .ok (.newarray .int, 2) := by decide +kernel
theorem dX4_init_72 : decode cX4_init 72 = .ok (.putfield 33, 3) := by decide +kernel
theorem dX4_init_75 : decode cX4_init 75 = .ok (.aload_n 0, 1) := by decide +kernel
theorem dX4_init_76 : decode cX4_init 76 = .ok (.sipush 8192, 3) := by decide +kernel
theorem dX4_init_79 : decode cX4_init 79 = .ok (.newarray .int, 2) := by decide +kernel
theorem dX4_init_81 : decode cX4_init 81 = .ok (.putfield 36, 3) := by decide +kernel
theorem dX4_init_84 : decode cX4_init 84 = .ok (.aload_n 0, 1) := by decide +kernel
theorem dX4_init_85 : decode cX4_init 85 = .ok (.sipush 8192, 3) := by decide +kernel
theorem dX4_init_88 : decode cX4_init 88 = .ok (.newarray .int, 2) := by decide +kernel
theorem dX4_init_90 : decode cX4_init 90 = .ok (.putfield 39, 3) := by decide +kernel
theorem dX4_init_93 : decode cX4_init 93 = .ok (.aload_n 0, 1) := by decide +kernel
theorem dX4_init_94 : decode cX4_init 94 = .ok (.sipush 8192, 3) := by decide +kernel
theorem dX4_init_97 : decode cX4_init 97 = .ok (.newarray .int, 2) := by decide +kernel
theorem dX4_init_99 : decode cX4_init 99 = .ok (.putfield 42, 3) := by decide +kernel
theorem dX4_init_102 : decode cX4_init 102 = .ok (.aload_n 0, 1) := by decide +kernel
theorem dX4_init_103 : decode cX4_init 103 = .ok (.sipush 512, 3) := by decide +kernel
theorem dX4_init_106 : decode cX4_init 106 = .ok (.newarray .int, 2) := by decide +kernel
theorem dX4_init_108 : decode cX4_init 108 = .ok (.putfield 45, 3) := by decide +kernel
theorem dX4_init_111 : decode cX4_init 111 = .ok (.aload_n 0, 1) := by decide +kernel
theorem dX4_init_112 : decode cX4_init 112 = .ok (.sipush 512, 3) := by decide +kernel
theorem dX4_init_115 : decode cX4_init 115 = .ok (.newarray .float, 2) := by decide +kernel
theorem dX4_init_117 : decode cX4_init 117 = .ok (.putfield 48, 3) := by decide +kernel
theorem dX4_init_120 : decode cX4_init 120 = .ok (.aload_n 0, 1) := by decide +kernel
theorem dX4_init_121 : decode cX4_init 121 = .ok (.bipush 6, 2) := by decide +kernel
theorem dX4_init_123 : decode cX4_init 123 = .ok (.newarray .float, 2) := by decide +kernel
theorem dX4_init_125 : decode cX4_init 125 = .ok (.putfield 51, 3) := by decide +kernel
theorem dX4_init_128 : decode cX4_init 128 = .ok (.return_, 1) := by decide +kernel
theorem dX4_thrown_0 : decode cX4_thrown 0 = .ok (.aload_n 0, 1) := by decide +kernel
theorem dX4_thrown_1 : decode cX4_thrown 1 = .ok (.getfield 54, 3) := by decide +kernel
theorem dX4_thrown_4 : decode cX4_thrown 4 = .ok (.ireturn, 1) := by decide +kernel
theorem dX4_goes_0 : decode cX4_goes 0 = .ok (.aload_n 0, 1) := by decide +kernel
theorem dX4_goes_1 : decode cX4_goes 1 = .ok (.iload_n 1, 1) := by decide +kernel
theorem dX4_goes_2 : decode cX4_goes 2 = .ok (.ifCond .ne 7, 3) := by decide +kernel
theorem dX4_goes_5 : decode cX4_goes 5 = .ok (.iconst 1, 1) := by decide +kernel
theorem dX4_goes_6 : decode cX4_goes 6 = .ok (.goto 12, 3) := by decide +kernel
theorem dX4_goes_9 : decode cX4_goes 9 = .ok (.iload_n 2, 1) := by decide +kernel
theorem dX4_goes_10 : decode cX4_goes 10 = .ok (.ifCond .ne 7, 3) := by decide +kernel
theorem dX4_goes_13 : decode cX4_goes 13 = .ok (.iconst 2, 1) := by decide +kernel
theorem dX4_goes_14 : decode cX4_goes 14 = .ok (.goto 4, 3) := by decide +kernel
theorem dX4_goes_17 : decode cX4_goes 17 = .ok (.iconst 0, 1) := by decide +kernel
theorem dX4_goes_18 : decode cX4_goes 18 = .ok (.putfield 54, 3) := by decide +kernel
theorem dX4_goes_21 : decode cX4_goes 21 = .ok (.aload_n 0, 1) := by decide +kernel
theorem dX4_goes_22 : decode cX4_goes 22 = .ok (.getfield 54, 3) := by decide +kernel
theorem dX4_goes_25 : decode cX4_goes 25 = .ok (.ifCond .ne 7, 3) := by decide +kernel
theorem dX4_goes_28 : decode cX4_goes 28 = .ok (.iconst 1, 1) := by decide +kernel
theorem dX4_goes_29 : decode cX4_goes 29 = .ok (.goto 4, 3) := by decide +kernel
theorem dX4_goes_32 : decode cX4_goes 32 = .ok (.iconst 0, 1) := by decide +kernel
theorem dX4_goes_33 : decode cX4_goes 33 = .ok (.ireturn, 1) := by decide +kernel
theorem dX4_good_0 : decode cX4_good 0 = .ok (.fload_n 0, 1) := by decide +kernel
theorem dX4_good_1 : decode cX4_good 1 = .ok (.ldc 58, 2) := by decide +kernel
theorem dX4_good_3 : decode cX4_good 3 = .ok (.fcmp .g, 1) := by decide +kernel
theorem dX4_good_4 : decode cX4_good 4 = .ok (.ifCond .gt 14, 3) := by decide +kernel
theorem dX4_good_7 : decode cX4_good 7 = .ok (.fload_n 0, 1) := by decide +kernel
theorem dX4_good_8 : decode cX4_good 8 = .ok (.ldc 59, 2) := by decide +kernel
theorem dX4_good_10 : decode cX4_good 10 = .ok (.fcmp .l, 1) := by decide +kernel
theorem dX4_good_11 : decode cX4_good 11 = .ok (.ifCond .lt 7, 3) := by decide +kernel
theorem dX4_good_14 : decode cX4_good 14 = .ok (.iconst 1, 1) := by decide +kernel
theorem dX4_good_15 : decode cX4_good 15 = .ok (.goto 4, 3) := by decide +kernel
theorem dX4_good_18 : decode cX4_good 18 = .ok (.iconst 0, 1) := by decide +kernel
theorem dX4_good_19 : decode cX4_good 19 = .ok (.ireturn, 1) := by decide +kernel
theorem dX4_slow_0 : decode cX4_slow 0 = .ok (.fload_n 0, 1) := by decide +kernel
theorem dX4_slow_1 : decode cX4_slow 1 = .ok (.ldc 60, 2) := by decide +kernel
theorem dX4_slow_3 : decode cX4_slow 3 = .ok (.fcmp .g, 1) := by decide +kernel
theorem dX4_slow_4 : decode cX4_slow 4 = .ok (.ifCond .gt 42, 3) := by decide +kernel
theorem dX4_slow_7 : decode cX4_slow 7 = .ok (.fload_n 0, 1) := by decide +kernel
theorem dX4_slow_8 : decode cX4_slow 8 = .ok (.ldc 61, 2) := by decide +kernel
theorem dX4_slow_10 : decode cX4_slow 10 = .ok (.fcmp .l, 1) := by decide +kernel
theorem dX4_slow_11 : decode cX4_slow 11 = .ok (.ifCond .lt 35, 3) := by decide +kernel
theorem dX4_slow_14 : decode cX4_slow 14 = .ok (.fload_n 1, 1) := by decide +kernel
theorem dX4_slow_15 : decode cX4_slow 15 = .ok (.ldc 60, 2) := by decide +kernel
theorem dX4_slow_17 : decode cX4_slow 17 = .ok (.fcmp .g, 1) := by decide +kernel
theorem dX4_slow_18 : decode cX4_slow 18 = .ok (.ifCond .gt 28, 3) := by decide +kernel
theorem dX4_slow_21 : decode cX4_slow 21 = .ok (.fload_n 1, 1) := by decide +kernel
theorem dX4_slow_22 : decode cX4_slow 22 = .ok (.ldc 61, 2) := by decide +kernel
theorem dX4_slow_24 : decode cX4_slow 24 = .ok (.fcmp .l, 1) := by decide +kernel
theorem dX4_slow_25 : decode cX4_slow 25 = .ok (.ifCond .lt 21, 3) := by decide +kernel
theorem dX4_slow_28 : decode cX4_slow 28 = .ok (.fload_n 2, 1) := by decide +kernel
theorem dX4_slow_29 : decode cX4_slow 29 = .ok (.ldc 60, 2) := by decide +kernel
theorem dX4_slow_31 : decode cX4_slow 31 = .ok (.fcmp .g, 1) := by decide +kernel
theorem dX4_slow_32 : decode cX4_slow 32 = .ok (.ifCond .gt 14, 3) := by decide +kernel
theorem dX4_slow_35 : decode cX4_slow 35 = .ok (.fload_n 2, 1) := by decide +kernel
theorem dX4_slow_36 : decode cX4_slow 36 = .ok (.ldc 61, 2) := by decide +kernel
theorem dX4_slow_38 : decode cX4_slow 38 = .ok (.fcmp .l, 1) := by decide +kernel
theorem dX4_slow_39 : decode cX4_slow 39 = .ok (.ifCond .lt 7, 3) := by decide +kernel
theorem dX4_slow_42 : decode cX4_slow 42 = .ok (.iconst 1, 1) := by decide +kernel
theorem dX4_slow_43 : decode cX4_slow 43 = .ok (.goto 4, 3) := by decide +kernel
theorem dX4_slow_46 : decode cX4_slow 46 = .ok (.iconst 0, 1) := by decide +kernel
theorem dX4_slow_47 : decode cX4_slow 47 = .ok (.ireturn, 1) := by decide +kernel
theorem dX4_padIsBox_0 : decode cX4_padIsBox 0 = .ok (.aload_n 0, 1) := by decide +kernel
theorem dX4_padIsBox_1 : decode cX4_padIsBox 1 = .ok (.getfield 7, 3) := by decide +kernel
theorem dX4_padIsBox_4 : decode cX4_padIsBox 4 = .ok (.iconst 0, 1) := by decide +kernel
theorem dX4_padIsBox_5 : decode cX4_padIsBox 5 = .ok (.faload, 1) := by decide +kernel
theorem dX4_padIsBox_6 : decode cX4_padIsBox 6 = .ok (.aload_n 0, 1) := by decide +kernel
theorem dX4_padIsBox_7 : decode cX4_padIsBox 7 = .ok (.getfield 7, 3) := by decide +kernel
theorem dX4_padIsBox_10 : decode cX4_padIsBox 10 = .ok (.iconst 3, 1) := by decide +kernel
theorem dX4_padIsBox_11 : decode cX4_padIsBox 11 = .ok (.faload, 1) := by decide +kernel
theorem dX4_padIsBox_12 : decode cX4_padIsBox 12 = .ok (.fcmp .g, 1) := by decide +kernel
theorem dX4_padIsBox_13 : decode cX4_padIsBox 13 = .ok (.ifCond .gt 39, 3) := by decide +kernel
theorem dX4_padIsBox_16 : decode cX4_padIsBox 16 = .ok (.aload_n 0, 1) := by decide +kernel
theorem dX4_padIsBox_17 : decode cX4_padIsBox 17 = .ok (.getfield 7, 3) := by decide +kernel
theorem dX4_padIsBox_20 : decode cX4_padIsBox 20 = .ok (.iconst 1, 1) := by decide +kernel
theorem dX4_padIsBox_21 : decode cX4_padIsBox 21 = .ok (.faload, 1) := by decide +kernel
theorem dX4_padIsBox_22 : decode cX4_padIsBox 22 = .ok (.aload_n 0, 1) := by decide +kernel
theorem dX4_padIsBox_23 : decode cX4_padIsBox 23 = .ok (.getfield 7, 3) := by decide +kernel
theorem dX4_padIsBox_26 : decode cX4_padIsBox 26 = .ok (.iconst 4, 1) := by decide +kernel
theorem dX4_padIsBox_27 : decode cX4_padIsBox 27 = .ok (.faload, 1) := by decide +kernel
theorem dX4_padIsBox_28 : decode cX4_padIsBox 28 = .ok (.fcmp .g, 1) := by decide +kernel
theorem dX4_padIsBox_29 : decode cX4_padIsBox 29 = .ok (.ifCond .gt 23, 3) := by decide +kernel
theorem dX4_padIsBox_32 : decode cX4_padIsBox 32 = .ok (.aload_n 0, 1) := by decide +kernel
theorem dX4_padIsBox_33 : decode cX4_padIsBox 33 = .ok (.getfield 7, 3) := by decide +kernel
theorem dX4_padIsBox_36 : decode cX4_padIsBox 36 = .ok (.iconst 2, 1) := by decide +kernel
theorem dX4_padIsBox_37 : decode cX4_padIsBox 37 = .ok (.faload, 1) := by decide +kernel
theorem dX4_padIsBox_38 : decode cX4_padIsBox 38 = .ok (.aload_n 0, 1) := by decide +kernel
theorem dX4_padIsBox_39 : decode cX4_padIsBox 39 = .ok (.getfield 7, 3) := by decide +kernel
theorem dX4_padIsBox_42 : decode cX4_padIsBox 42 = .ok (.iconst 5, 1) := by decide +kernel
theorem dX4_padIsBox_43 : decode cX4_padIsBox 43 = .ok (.faload, 1) := by decide +kernel
theorem dX4_padIsBox_44 : decode cX4_padIsBox 44 = .ok (.fcmp .g, 1) := by decide +kernel
theorem dX4_padIsBox_45 : decode cX4_padIsBox 45 = .ok (.ifCond .gt 7, 3) := by decide +kernel
theorem dX4_padIsBox_48 : decode cX4_padIsBox 48 = .ok (.iconst 1, 1) := by decide +kernel
theorem dX4_padIsBox_49 : decode cX4_padIsBox 49 = .ok (.goto 4, 3) := by decide +kernel
theorem dX4_padIsBox_52 : decode cX4_padIsBox 52 = .ok (.iconst 0, 1) := by decide +kernel
theorem dX4_padIsBox_53 : decode cX4_padIsBox 53 = .ok (.ireturn, 1) := by decide +kernel
theorem dX4_padCorner_0 : decode cX4_padCorner 0 = .ok (.aload_n 0, 1) := by decide +kernel
theorem dX4_padCorner_1 : decode cX4_padCorner 1 = .ok (.fload_n 2, 1) := by decide +kernel
theorem dX4_padCorner_2 : decode cX4_padCorner 2 = .ok (.invokestatic 62, 3) := by decide +kernel
theorem dX4_padCorner_5 : decode cX4_padCorner 5 = .ok (.ifCond .eq 22, 3) := by decide +kernel
theorem dX4_padCorner_8 : decode cX4_padCorner 8 = .ok (.fload_n 3, 1) := by decide +kernel
theorem dX4_padCorner_9 : decode cX4_padCorner 9 = .ok (.invokestatic 62, 3) := by decide +kernel
theorem dX4_padCorner_12 : decode cX4_padCorner 12 = .ok (.ifCond .eq 15, 3) := by decide +kernel
theorem dX4_padCorner_15 : decode cX4_padCorner 15 = .ok (.fload 4, 2) := by decide +kernel
theorem dX4_padCorner_17 : decode cX4_padCorner 17 = .ok (.invokestatic 62, 3) := by decide +kernel
theorem dX4_padCorner_20 : decode cX4_padCorner 20 = .ok (.ifCond .eq 7, 3) := by decide +kernel
theorem dX4_padCorner_23 : decode cX4_padCorner 23 = .ok (.iconst 1, 1) := by decide +kernel
theorem dX4_padCorner_24 : decode cX4_padCorner 24 = .ok (.goto 4, 3) := by decide +kernel
theorem dX4_padCorner_27 : decode cX4_padCorner 27 = .ok (.iconst 0, 1) := by decide +kernel
theorem dX4_padCorner_28 : decode cX4_padCorner 28 = .ok (.iconst 1, 1) := by decide +kernel
theorem dX4_padCorner_29 : decode cX4_padCorner 29 = .ok (.invokevirtual 66, 3) := by decide +kernel
theorem dX4_padCorner_32 : decode cX4_padCorner 32 = .ok (.ifCond .eq 29, 3) := by decide +kernel
theorem dX4_padCorner_35 : decode cX4_padCorner 35 = .ok (.aload_n 0, 1) := by decide +kernel
theorem dX4_padCorner_36 : decode cX4_padCorner 36 = .ok (.getfield 7, 3) := by decide +kernel
theorem dX4_padCorner_39 : decode cX4_padCorner 39 = .ok (.iload_n 1, 1) := by decide +kernel
theorem dX4_padCorner_40 : decode cX4_padCorner 40 = .ok (.fload_n 2, 1) := by decide +kernel
theorem dX4_padCorner_41 : decode cX4_padCorner 41 = .ok (.fastore, 1) := by decide +kernel
theorem dX4_padCorner_42 : decode cX4_padCorner 42 = .ok (.aload_n 0, 1) := by decide +kernel
theorem dX4_padCorner_43 : decode cX4_padCorner 43 = .ok (.getfield 7, 3) := by decide +kernel
theorem dX4_padCorner_46 : decode cX4_padCorner 46 = .ok (.iload_n 1, 1) := by decide +kernel
theorem dX4_padCorner_47 : decode cX4_padCorner 47 = .ok (.iconst 1, 1) := by decide +kernel
theorem dX4_padCorner_48 : decode cX4_padCorner 48 = .ok (.iadd, 1) := by decide +kernel
theorem dX4_padCorner_49 : decode cX4_padCorner 49 = .ok (.fload_n 3, 1) := by decide +kernel
theorem dX4_padCorner_50 : decode cX4_padCorner 50 = .ok (.fastore, 1) := by decide +kernel
theorem dX4_padCorner_51 : decode cX4_padCorner 51 = .ok (.aload_n 0, 1) := by decide +kernel
theorem dX4_padCorner_52 : decode cX4_padCorner 52 = .ok (.getfield 7, 3) := by decide +kernel
theorem dX4_padCorner_55 : decode cX4_padCorner 55 = .ok (.iload_n 1, 1) := by decide +kernel
theorem dX4_padCorner_56 : decode cX4_padCorner 56 = .ok (.iconst 2, 1) := by decide +kernel
theorem dX4_padCorner_57 : decode cX4_padCorner 57 = .ok (.iadd, 1) := by decide +kernel
theorem dX4_padCorner_58 : decode cX4_padCorner 58 = .ok (.fload 4, 2) := by decide +kernel
theorem dX4_padCorner_60 : decode cX4_padCorner 60 = .ok (.fastore, 1) := by decide +kernel
theorem dX4_padCorner_61 : decode cX4_padCorner 61 = .ok (.return_, 1) := by decide +kernel
theorem dX4_low_0 : decode cX4_low 0 = .ok (.aload_n 0, 1) := by decide +kernel
theorem dX4_low_1 : decode cX4_low 1 = .ok (.iconst 0, 1) := by decide +kernel
theorem dX4_low_2 : decode cX4_low 2 = .ok (.fload_n 1, 1) := by decide +kernel
theorem dX4_low_3 : decode cX4_low 3 = .ok (.fload_n 2, 1) := by decide +kernel
theorem dX4_low_4 : decode cX4_low 4 = .ok (.fload_n 3, 1) := by decide +kernel
theorem dX4_low_5 : decode cX4_low 5 = .ok (.invokevirtual 70, 3) := by decide +kernel
theorem dX4_low_8 : decode cX4_low 8 = .ok (.return_, 1) := by decide +kernel
theorem dX4_high_0 : decode cX4_high 0 = .ok (.aload_n 0, 1) := by decide +kernel
theorem dX4_high_1 : decode cX4_high 1 = .ok (.iconst 3, 1) := by decide +kernel
theorem dX4_high_2 : decode cX4_high 2 = .ok (.fload_n 1, 1) := by decide +kernel
theorem dX4_high_3 : decode cX4_high 3 = .ok (.fload_n 2, 1) := by decide +kernel
theorem dX4_high_4 : decode cX4_high 4 = .ok (.fload_n 3, 1) := by decide +kernel
theorem dX4_high_5 : decode cX4_high 5 = .ok (.invokevirtual 70, 3) := by decide +kernel
theorem dX4_high_8 : decode cX4_high 8 = .ok (.return_, 1) := by decide +kernel
theorem dX4_known_0 : decode cX4_known 0 = .ok (.iload_n 1, 1) := by decide +kernel
theorem dX4_known_1 : decode cX4_known 1 = .ok (.ifCond .lt 23, 3) := by decide +kernel
theorem dX4_known_4 : decode cX4_known 4 = .ok (.iload_n 1, 1) := by decide +kernel
theorem dX4_known_5 : decode cX4_known 5 = .ok (.sipush 512, 3) := by decide +kernel
theorem dX4_known_8 : decode cX4_known 8 = .ok (.if_icmp .ge 16, 3) := by decide +kernel
theorem dX4_known_11 : decode cX4_known 11 = .ok (.aload_n 0, 1) := by decide +kernel
theorem dX4_known_12 : decode cX4_known 12 = .ok (.getfield 13, 3) := by decide +kernel
theorem dX4_known_15 : decode cX4_known 15 = .ok (.iload_n 1, 1) := by decide +kernel
theorem dX4_known_16 : decode cX4_known 16 = .ok (.baload, 1) := by decide +kernel
theorem dX4_known_17 : decode cX4_known 17 = .ok (.ifCond .eq 7, 3) := by decide +kernel
theorem dX4_known_20 : decode cX4_known 20 = .ok (.iconst 1, 1) := by decide +kernel
theorem dX4_known_21 : decode cX4_known 21 = .ok (.goto 4, 3) := by decide +kernel
theorem dX4_known_24 : decode cX4_known 24 = .ok (.iconst 0, 1) := by decide +kernel
theorem dX4_known_25 : decode cX4_known 25 = .ok (.ireturn, 1) := by decide +kernel
theorem dX4_settle_0 : decode cX4_settle 0 = .ok (.iconst 0, 1) := by decide +kernel
theorem dX4_settle_1 : decode cX4_settle 1 = .ok (.istore 5, 2) := by decide +kernel
theorem dX4_settle_3 : decode cX4_settle 3 = .ok (.iload 5, 2) := by decide +kernel
theorem dX4_settle_5 : decode cX4_settle 5 = .ok (.bipush 6, 2) := by decide +kernel
theorem dX4_settle_7 : decode cX4_settle 7 = .ok (.if_icmp .ge 28, 3) := by decide +kernel
theorem dX4_settle_10 : decode cX4_settle 10 = .ok (.aload_n 0, 1) := by decide +kernel
theorem dX4_settle_11 : decode cX4_settle 11 = .ok (.getfield 27, 3) := by decide +kernel
theorem dX4_settle_14 : decode cX4_settle 14 = .ok (.bipush 6, 2) := by decide +kernel
theorem dX4_settle_16 : decode cX4_settle 16 = .ok (.iload_n 1, 1) := by decide +kernel
theorem dX4_settle_17 : decode cX4_settle 17 = .ok (.imul, 1) := by decide +kernel
theorem dX4_settle_18 : decode cX4_settle 18 = .ok (.iload 5, 2) := by decide +kernel
theorem dX4_settle_20 : decode cX4_settle 20 = .ok (.iadd, 1) := by decide +kernel
theorem dX4_settle_21 : decode cX4_settle 21 = .ok (.aload_n 0, 1) := by decide +kernel
theorem dX4_settle_22 : decode cX4_settle 22 = .ok (.getfield 51, 3) := by decide +kernel
theorem dX4_settle_25 : decode cX4_settle 25 = .ok (.iload 5, 2) := by decide +kernel
theorem dX4_settle_27 : decode cX4_settle 27 = .ok (.faload, 1) := by decide +kernel
theorem dX4_settle_28 : decode cX4_settle 28 = .ok (.fastore, 1) := by decide +kernel
theorem dX4_settle_29 : decode cX4_settle 29 = .ok (.iinc 5 1, 3) := by decide +kernel
theorem dX4_settle_32 : decode cX4_settle 32 = .ok (.goto (-29), 3) := by decide +kernel
theorem dX4_settle_35 : decode cX4_settle 35 = .ok (.aload_n 0, 1) := by decide +kernel
theorem dX4_settle_36 : decode cX4_settle 36 = .ok (.iload_n 1, 1) := by decide +kernel
theorem dX4_settle_37 : decode cX4_settle 37 = .ok (.iconst 0, 1) := by decide +kernel
theorem dX4_settle_38 : decode cX4_settle 38 = .ok (.fload_n 2, 1) := by decide +kernel
theorem dX4_settle_39 : decode cX4_settle 39 = .ok (.invokevirtual 74, 3) := by decide +kernel
theorem dX4_settle_42 : decode cX4_settle 42 = .ok (.aload_n 0, 1) := by decide +kernel
theorem dX4_settle_43 : decode cX4_settle 43 = .ok (.iload_n 1, 1) := by decide +kernel
theorem dX4_settle_44 : decode cX4_settle 44 = .ok (.iconst 1, 1) := by decide +kernel
theorem dX4_settle_45 : decode cX4_settle 45 = .ok (.fload_n 3, 1) := by decide +kernel
theorem dX4_settle_46 : decode cX4_settle 46 = .ok (.invokevirtual 74, 3) := by decide +kernel
theorem dX4_settle_49 : decode cX4_settle 49 = .ok (.aload_n 0, 1) := by decide +kernel
theorem dX4_settle_50 : decode cX4_settle 50 = .ok (.iload_n 1, 1) := by decide +kernel
theorem dX4_settle_51 : decode cX4_settle 51 = .ok (.iconst 2, 1) := by decide +kernel
theorem dX4_settle_52 : decode cX4_settle 52 = .ok (.fload 4, 2) := by decide +kernel
theorem dX4_settle_54 : decode cX4_settle 54 = .ok (.invokevirtual 74, 3) := by decide +kernel
theorem dX4_settle_57 : decode cX4_settle 57 = .ok (.aload_n 0, 1) := by decide +kernel
theorem dX4_settle_58 : decode cX4_settle 58 = .ok (.getfield 17, 3) := by decide +kernel
theorem dX4_settle_61 : decode cX4_settle 61 = .ok (.iload_n 1, 1) := by decide +kernel
theorem dX4_settle_62 : decode cX4_settle 62 = .ok (.iconst 1, 1) := by decide +kernel
theorem dX4_settle_63 : decode cX4_settle 63 = .ok (.bastore, 1) := by decide +kernel
theorem dX4_settle_64 : decode cX4_settle 64 = .ok (.return_, 1) := by decide +kernel
theorem dX4_widen_0 : decode cX4_widen 0 = .ok (.aload_n 0, 1) := by decide +kernel
theorem dX4_widen_1 : decode cX4_widen 1 = .ok (.getfield 51, 3) := by decide +kernel
theorem dX4_widen_4 : decode cX4_widen 4 = .ok (.iload_n 2, 1) := by decide +kernel
theorem dX4_widen_5 : decode cX4_widen 5 = .ok (.faload, 1) := by decide +kernel
theorem dX4_widen_6 : decode cX4_widen 6 = .ok (.ldc 78, 2) := by decide +kernel
theorem dX4_widen_8 : decode cX4_widen 8 = .ok (.fsub, 1) := by decide +kernel
theorem dX4_widen_9 : decode cX4_widen 9 = .ok (.fstore 4, 2) := by decide +kernel
theorem dX4_widen_11 : decode cX4_widen 11 = .ok (.aload_n 0, 1) := by decide +kernel
theorem dX4_widen_12 : decode cX4_widen 12 = .ok (.getfield 51, 3) := by decide +kernel
theorem dX4_widen_15 : decode cX4_widen 15 = .ok (.iload_n 2, 1) := by decide +kernel
theorem dX4_widen_16 : decode cX4_widen 16 = .ok (.iconst 3, 1) := by decide +kernel
theorem dX4_widen_17 : decode cX4_widen 17 = .ok (.iadd, 1) := by decide +kernel
theorem dX4_widen_18 : decode cX4_widen 18 = .ok (.faload, 1) := by decide +kernel
theorem dX4_widen_19 : decode cX4_widen 19 = .ok (.ldc 78, 2) := by decide +kernel
theorem dX4_widen_21 : decode cX4_widen 21 = .ok (.fadd, 1) := by decide +kernel
theorem dX4_widen_22 : decode cX4_widen 22 = .ok (.fstore 5, 2) := by decide +kernel
theorem dX4_widen_24 : decode cX4_widen 24 = .ok (.aload_n 0, 1) := by decide +kernel
theorem dX4_widen_25 : decode cX4_widen 25 = .ok (.getfield 30, 3) := by decide +kernel
theorem dX4_widen_28 : decode cX4_widen 28 = .ok (.bipush 6, 2) := by decide +kernel
theorem dX4_widen_30 : decode cX4_widen 30 = .ok (.iload_n 1, 1) := by decide +kernel
theorem dX4_widen_31 : decode cX4_widen 31 = .ok (.imul, 1) := by decide +kernel
theorem dX4_widen_32 : decode cX4_widen 32 = .ok (.iload_n 2, 1) := by decide +kernel
theorem dX4_widen_33 : decode cX4_widen 33 = .ok (.iadd, 1) := by decide +kernel
theorem dX4_widen_34 : decode cX4_widen 34 = .ok (.fload_n 3, 1) := by decide +kernel
theorem dX4_widen_35 : decode cX4_widen 35 = .ok (.fconst 0, 1) := by decide +kernel
theorem dX4_widen_36 : decode cX4_widen 36 = .ok (.fcmp .g, 1) := by decide +kernel
theorem dX4_widen_37 : decode cX4_widen 37 = .ok (.ifCond .ge 12, 3) := by decide +kernel
theorem dX4_widen_40 : decode cX4_widen 40 = .ok (.fload 4, 2) := by decide +kernel
theorem dX4_widen_42 : decode cX4_widen 42 = .ok (.fload_n 3, 1) := by decide +kernel
theorem dX4_widen_43 : decode cX4_widen 43 = .ok (.fconst 2, 1) := by decide +kernel
theorem dX4_widen_44 : decode cX4_widen 44 = .ok (.fmul, 1) := by decide +kernel
theorem dX4_widen_45 : decode cX4_widen 45 = .ok (.fadd, 1) := by decide +kernel
theorem dX4_widen_46 : decode cX4_widen 46 = .ok (.goto 5, 3) := by decide +kernel
theorem dX4_widen_49 : decode cX4_widen 49 = .ok (.fload 4, 2) := by decide +kernel
theorem dX4_widen_51 : decode cX4_widen 51 = .ok (.fastore, 1) := by decide +kernel
theorem dX4_widen_52 : decode cX4_widen 52 = .ok (.aload_n 0, 1) := by decide +kernel
theorem dX4_widen_53 : decode cX4_widen 53 = .ok (.getfield 30, 3) := by decide +kernel
theorem dX4_widen_56 : decode cX4_widen 56 = .ok (.bipush 6, 2) := by decide +kernel
theorem dX4_widen_58 : decode cX4_widen 58 = .ok (.iload_n 1, 1) := by decide +kernel
theorem dX4_widen_59 : decode cX4_widen 59 = .ok (.imul, 1) := by decide +kernel
theorem dX4_widen_60 : decode cX4_widen 60 = .ok (.iconst 3, 1) := by decide +kernel
theorem dX4_widen_61 : decode cX4_widen 61 = .ok (.iadd, 1) := by decide +kernel
theorem dX4_widen_62 : decode cX4_widen 62 = .ok (.iload_n 2, 1) := by decide +kernel
theorem dX4_widen_63 : decode cX4_widen 63 = .ok (.iadd, 1) := by decide +kernel
theorem dX4_widen_64 : decode cX4_widen 64 = .ok (.fload_n 3, 1) := by decide +kernel
theorem dX4_widen_65 : decode cX4_widen 65 = .ok (.fconst 0, 1) := by decide +kernel
theorem dX4_widen_66 : decode cX4_widen 66 = .ok (.fcmp .g, 1) := by decide +kernel
theorem dX4_widen_67 : decode cX4_widen 67 = .ok (.ifCond .ge 8, 3) := by decide +kernel
theorem dX4_widen_70 : decode cX4_widen 70 = .ok (.fload 5, 2) := by decide +kernel
theorem dX4_widen_72 : decode cX4_widen 72 = .ok (.goto 9, 3) := by decide +kernel
theorem dX4_widen_75 : decode cX4_widen 75 = .ok (.fload 5, 2) := by decide +kernel
theorem dX4_widen_77 : decode cX4_widen 77 = .ok (.fload_n 3, 1) := by decide +kernel
theorem dX4_widen_78 : decode cX4_widen 78 = .ok (.fconst 2, 1) := by decide +kernel
theorem dX4_widen_79 : decode cX4_widen 79 = .ok (.fmul, 1) := by decide +kernel
theorem dX4_widen_80 : decode cX4_widen 80 = .ok (.fadd, 1) := by decide +kernel
theorem dX4_widen_81 : decode cX4_widen 81 = .ok (.fastore, 1) := by decide +kernel
theorem dX4_widen_82 : decode cX4_widen 82 = .ok (.return_, 1) := by decide +kernel
theorem dX4_least_0 : decode cX4_least 0 = .ok (.iconst 0, 1) := by decide +kernel
theorem dX4_least_1 : decode cX4_least 1 = .ok (.istore_n 1, 1) := by decide +kernel
theorem dX4_least_2 : decode cX4_least 2 = .ok (.iload_n 1, 1) := by decide +kernel
theorem dX4_least_3 : decode cX4_least 3 = .ok (.sipush 512, 3) := by decide +kernel
theorem dX4_least_6 : decode cX4_least 6 = .ok (.if_icmp .ge 18, 3) := by decide +kernel
theorem dX4_least_9 : decode cX4_least 9 = .ok (.aload_n 0, 1) := by decide +kernel
theorem dX4_least_10 : decode cX4_least 10 = .ok (.getfield 13, 3) := by decide +kernel
theorem dX4_least_13 : decode cX4_least 13 = .ok (.iload_n 1, 1) := by decide +kernel
theorem dX4_least_14 : decode cX4_least 14 = .ok (.baload, 1) := by decide +kernel
theorem dX4_least_15 : decode cX4_least 15 = .ok (.ifCond .eq 9, 3) := by decide +kernel
theorem dX4_least_18 : decode cX4_least 18 = .ok (.iinc 1 1, 3) := by decide +kernel
theorem dX4_least_21 : decode cX4_least 21 = .ok (.goto (-19), 3) := by decide +kernel
theorem dX4_least_24 : decode cX4_least 24 = .ok (.iload_n 1, 1) := by decide +kernel
theorem dX4_least_25 : decode cX4_least 25 = .ok (.ireturn, 1) := by decide +kernel
theorem dX4_put_0 : decode cX4_put 0 = .ok (.aload_n 0, 1) := by decide +kernel
theorem dX4_put_1 : decode cX4_put 1 = .ok (.invokevirtual 79, 3) := by decide +kernel
theorem dX4_put_4 : decode cX4_put 4 = .ok (.istore_n 3, 1) := by decide +kernel
theorem dX4_put_5 : decode cX4_put 5 = .ok (.aload_n 0, 1) := by decide +kernel
theorem dX4_put_6 : decode cX4_put 6 = .ok (.getfield 13, 3) := by decide +kernel
theorem dX4_put_9 : decode cX4_put 9 = .ok (.iload_n 3, 1) := by decide +kernel
theorem dX4_put_10 : decode cX4_put 10 = .ok (.iconst 1, 1) := by decide +kernel
theorem dX4_put_11 : decode cX4_put 11 = .ok (.bastore, 1) := by decide +kernel
theorem dX4_put_12 : decode cX4_put 12 = .ok (.aload_n 0, 1) := by decide +kernel
theorem dX4_put_13 : decode cX4_put 13 = .ok (.getfield 20, 3) := by decide +kernel
theorem dX4_put_16 : decode cX4_put 16 = .ok (.iload_n 3, 1) := by decide +kernel
theorem dX4_put_17 : decode cX4_put 17 = .ok (.iload_n 1, 1) := by decide +kernel
theorem dX4_put_18 : decode cX4_put 18 = .ok (.iastore, 1) := by decide +kernel
theorem dX4_put_19 : decode cX4_put 19 = .ok (.aload_n 0, 1) := by decide +kernel
theorem dX4_put_20 : decode cX4_put 20 = .ok (.getfield 24, 3) := by decide +kernel
theorem dX4_put_23 : decode cX4_put 23 = .ok (.iload_n 3, 1) := by decide +kernel
theorem dX4_put_24 : decode cX4_put 24 = .ok (.iload_n 2, 1) := by decide +kernel
theorem dX4_put_25 : decode cX4_put 25 = .ok (.iastore, 1) := by decide +kernel
theorem dX4_put_26 : decode cX4_put 26 = .ok (.aload_n 0, 1) := by decide +kernel
theorem dX4_put_27 : decode cX4_put 27 = .ok (.iload_n 3, 1) := by decide +kernel
theorem dX4_put_28 : decode cX4_put 28 = .ok (.fconst 0, 1) := by decide +kernel
theorem dX4_put_29 : decode cX4_put 29 = .ok (.fconst 0, 1) := by decide +kernel
theorem dX4_put_30 : decode cX4_put 30 = .ok (.fconst 0, 1) := by decide +kernel
theorem dX4_put_31 : decode cX4_put 31 = .ok (.invokevirtual 83, 3) := by decide +kernel
theorem dX4_put_34 : decode cX4_put 34 = .ok (.iload_n 3, 1) := by decide +kernel
theorem dX4_put_35 : decode cX4_put 35 = .ok (.ireturn, 1) := by decide +kernel
theorem dX4_takePad_0 : decode cX4_takePad 0 = .ok (.iconst 0, 1) := by decide +kernel
theorem dX4_takePad_1 : decode cX4_takePad 1 = .ok (.istore_n 1, 1) := by decide +kernel
theorem dX4_takePad_2 : decode cX4_takePad 2 = .ok (.iload_n 1, 1) := by decide +kernel
theorem dX4_takePad_3 : decode cX4_takePad 3 = .ok (.bipush 6, 2) := by decide +kernel
theorem dX4_takePad_5 : decode cX4_takePad 5 = .ok (.if_icmp .ge 21, 3) := by decide +kernel
theorem dX4_takePad_8 : decode cX4_takePad 8 = .ok (.aload_n 0, 1) := by decide +kernel
theorem dX4_takePad_9 : decode cX4_takePad 9 = .ok (.getfield 51, 3) := by decide +kernel
theorem dX4_takePad_12 : decode cX4_takePad 12 = .ok (.iload_n 1, 1) := by decide +kernel
theorem dX4_takePad_13 : decode cX4_takePad 13 = .ok (.aload_n 0, 1) := by decide +kernel
theorem dX4_takePad_14 : decode cX4_takePad 14 = .ok (.getfield 7, 3) := by decide +kernel
theorem dX4_takePad_17 : decode cX4_takePad 17 = .ok (.iload_n 1, 1) := by decide +kernel
theorem dX4_takePad_18 : decode cX4_takePad 18 = .ok (.faload, 1) := by decide +kernel
theorem dX4_takePad_19 : decode cX4_takePad 19 = .ok (.fastore, 1) := by decide +kernel
theorem dX4_takePad_20 : decode cX4_takePad 20 = .ok (.iinc 1 1, 3) := by decide +kernel
theorem dX4_takePad_23 : decode cX4_takePad 23 = .ok (.goto (-21), 3) := by decide +kernel
theorem dX4_takePad_26 : decode cX4_takePad 26 = .ok (.return_, 1) := by decide +kernel
theorem dX4_goesOn_0 : decode cX4_goesOn 0 = .ok (.iconst 1, 1) := by decide +kernel
theorem dX4_goesOn_1 : decode cX4_goesOn 1 = .ok (.istore 4, 2) := by decide +kernel
theorem dX4_goesOn_3 : decode cX4_goesOn 3 = .ok (.iconst 0, 1) := by decide +kernel
theorem dX4_goesOn_4 : decode cX4_goesOn 4 = .ok (.istore 5, 2) := by decide +kernel
theorem dX4_goesOn_6 : decode cX4_goesOn 6 = .ok (.iload 5, 2) := by decide +kernel
theorem dX4_goesOn_8 : decode cX4_goesOn 8 = .ok (.bipush 6, 2) := by decide +kernel
theorem dX4_goesOn_10 : decode cX4_goesOn 10 = .ok (.if_icmp .ge 77, 3) := by decide +kernel
theorem dX4_goesOn_13 : decode cX4_goesOn 13 = .ok (.iload 5, 2) := by decide +kernel
theorem dX4_goesOn_15 : decode cX4_goesOn 15 = .ok (.iconst 3, 1) := by decide +kernel
theorem dX4_goesOn_16 : decode cX4_goesOn 16 = .ok (.irem, 1) := by decide +kernel
theorem dX4_goesOn_17 : decode cX4_goesOn 17 = .ok (.ifCond .ne 7, 3) := by decide +kernel
theorem dX4_goesOn_20 : decode cX4_goesOn 20 = .ok (.fload_n 1, 1) := by decide +kernel
theorem dX4_goesOn_21 : decode cX4_goesOn 21 = .ok (.goto 16, 3) := by decide +kernel
theorem dX4_goesOn_24 : decode cX4_goesOn 24 = .ok (.iload 5, 2) := by decide +kernel
theorem dX4_goesOn_26 : decode cX4_goesOn 26 = .ok (.iconst 3, 1) := by decide +kernel
theorem dX4_goesOn_27 : decode cX4_goesOn 27 = .ok (.irem, 1) := by decide +kernel
theorem dX4_goesOn_28 : decode cX4_goesOn 28 = .ok (.iconst 1, 1) := by decide +kernel
theorem dX4_goesOn_29 : decode cX4_goesOn 29 = .ok (.if_icmp .ne 7, 3) := by decide +kernel
theorem dX4_goesOn_32 : decode cX4_goesOn 32 = .ok (.fload_n 2, 1) := by decide +kernel
theorem dX4_goesOn_33 : decode cX4_goesOn 33 = .ok (.goto 4, 3) := by decide +kernel
theorem dX4_goesOn_36 : decode cX4_goesOn 36 = .ok (.fload_n 3, 1) := by decide +kernel
theorem dX4_goesOn_37 : decode cX4_goesOn 37 = .ok (.fstore 6, 2) := by decide +kernel
theorem dX4_goesOn_39 : decode cX4_goesOn 39 = .ok (.aload_n 0, 1) := by decide +kernel
theorem dX4_goesOn_40 : decode cX4_goesOn 40 = .ok (.getfield 51, 3) := by decide +kernel
theorem dX4_goesOn_43 : decode cX4_goesOn 43 = .ok (.iload 5, 2) := by decide +kernel
theorem dX4_goesOn_45 : decode cX4_goesOn 45 = .ok (.aload_n 0, 1) := by decide +kernel
theorem dX4_goesOn_46 : decode cX4_goesOn 46 = .ok (.getfield 51, 3) := by decide +kernel
theorem dX4_goesOn_49 : decode cX4_goesOn 49 = .ok (.iload 5, 2) := by decide +kernel
theorem dX4_goesOn_51 : decode cX4_goesOn 51 = .ok (.faload, 1) := by decide +kernel
theorem dX4_goesOn_52 : decode cX4_goesOn 52 = .ok (.fload 6, 2) := by decide +kernel
theorem dX4_goesOn_54 : decode cX4_goesOn 54 = .ok (.fadd, 1) := by decide +kernel
theorem dX4_goesOn_55 : decode cX4_goesOn 55 = .ok (.fastore, 1) := by decide +kernel
theorem dX4_goesOn_56 : decode cX4_goesOn 56 = .ok (.iload 4, 2) := by decide +kernel
theorem dX4_goesOn_58 : decode cX4_goesOn 58 = .ok (.ifCond .eq 20, 3) := by decide +kernel
theorem dX4_goesOn_61 : decode cX4_goesOn 61 = .ok (.aload_n 0, 1) := by decide +kernel
theorem dX4_goesOn_62 : decode cX4_goesOn 62 = .ok (.getfield 51, 3) := by decide +kernel
theorem dX4_goesOn_65 : decode cX4_goesOn 65 = .ok (.iload 5, 2) := by decide +kernel
theorem dX4_goesOn_67 : decode cX4_goesOn 67 = .ok (.faload, 1) := by decide +kernel
theorem dX4_goesOn_68 : decode cX4_goesOn 68 = .ok (.invokestatic 62, 3) := by decide +kernel
theorem dX4_goesOn_71 : decode cX4_goesOn 71 = .ok (.ifCond .eq 7, 3) := by decide +kernel
theorem dX4_goesOn_74 : decode cX4_goesOn 74 = .ok (.iconst 1, 1) := by decide +kernel
theorem dX4_goesOn_75 : decode cX4_goesOn 75 = .ok (.goto 4, 3) := by decide +kernel
theorem dX4_goesOn_78 : decode cX4_goesOn 78 = .ok (.iconst 0, 1) := by decide +kernel
theorem dX4_goesOn_79 : decode cX4_goesOn 79 = .ok (.istore 4, 2) := by decide +kernel
theorem dX4_goesOn_81 : decode cX4_goesOn 81 = .ok (.iinc 5 1, 3) := by decide +kernel
theorem dX4_goesOn_84 : decode cX4_goesOn 84 = .ok (.goto (-78), 3) := by decide +kernel
theorem dX4_goesOn_87 : decode cX4_goesOn 87 = .ok (.iload 4, 2) := by decide +kernel
theorem dX4_goesOn_89 : decode cX4_goesOn 89 = .ok (.ireturn, 1) := by decide +kernel
theorem dX4_bodies_0 : decode cX4_bodies 0 = .ok (.iconst 0, 1) := by decide +kernel
theorem dX4_bodies_1 : decode cX4_bodies 1 = .ok (.istore_n 1, 1) := by decide +kernel
theorem dX4_bodies_2 : decode cX4_bodies 2 = .ok (.iconst 0, 1) := by decide +kernel
theorem dX4_bodies_3 : decode cX4_bodies 3 = .ok (.istore_n 2, 1) := by decide +kernel
theorem dX4_bodies_4 : decode cX4_bodies 4 = .ok (.iload_n 2, 1) := by decide +kernel
theorem dX4_bodies_5 : decode cX4_bodies 5 = .ok (.sipush 512, 3) := by decide +kernel
theorem dX4_bodies_8 : decode cX4_bodies 8 = .ok (.if_icmp .ge 26, 3) := by decide +kernel
theorem dX4_bodies_11 : decode cX4_bodies 11 = .ok (.aload_n 0, 1) := by decide +kernel
theorem dX4_bodies_12 : decode cX4_bodies 12 = .ok (.getfield 13, 3) := by decide +kernel
theorem dX4_bodies_15 : decode cX4_bodies 15 = .ok (.iload_n 2, 1) := by decide +kernel
theorem dX4_bodies_16 : decode cX4_bodies 16 = .ok (.baload, 1) := by decide +kernel
theorem dX4_bodies_17 : decode cX4_bodies 17 = .ok (.ifCond .eq 9, 3) := by decide +kernel
theorem dX4_bodies_20 : decode cX4_bodies 20 = .ok (.iload_n 1, 1) := by decide +kernel
theorem dX4_bodies_21 : decode cX4_bodies 21 = .ok (.iconst 1, 1) := by decide +kernel
theorem dX4_bodies_22 : decode cX4_bodies 22 = .ok (.iadd, 1) := by decide +kernel
theorem dX4_bodies_23 : decode cX4_bodies 23 = .ok (.goto 4, 3) := by decide +kernel
theorem dX4_bodies_26 : decode cX4_bodies 26 = .ok (.iload_n 1, 1) := by decide +kernel
theorem dX4_bodies_27 : decode cX4_bodies 27 = .ok (.istore_n 1, 1) := by decide +kernel
theorem dX4_bodies_28 : decode cX4_bodies 28 = .ok (.iinc 2 1, 3) := by decide +kernel
theorem dX4_bodies_31 : decode cX4_bodies 31 = .ok (.goto (-27), 3) := by decide +kernel
theorem dX4_bodies_34 : decode cX4_bodies 34 = .ok (.iload_n 1, 1) := by decide +kernel
theorem dX4_bodies_35 : decode cX4_bodies 35 = .ok (.ireturn, 1) := by decide +kernel
theorem dX4_add_0 : decode cX4_add 0 = .ok (.aload_n 0, 1) := by decide +kernel
theorem dX4_add_1 : decode cX4_add 1 = .ok (.aload_n 0, 1) := by decide +kernel
theorem dX4_add_2 : decode cX4_add 2 = .ok (.invokevirtual 86, 3) := by decide +kernel
theorem dX4_add_5 : decode cX4_add 5 = .ok (.aload_n 0, 1) := by decide +kernel
theorem dX4_add_6 : decode cX4_add 6 = .ok (.invokevirtual 90, 3) := by decide +kernel
theorem dX4_add_9 : decode cX4_add 9 = .ok (.sipush 512, 3) := by decide +kernel
theorem dX4_add_12 : decode cX4_add 12 = .ok (.if_icmp .ge 7, 3) := by decide +kernel
theorem dX4_add_15 : decode cX4_add 15 = .ok (.iconst 1, 1) := by decide +kernel
theorem dX4_add_16 : decode cX4_add 16 = .ok (.goto 4, 3) := by decide +kernel
theorem dX4_add_19 : decode cX4_add 19 = .ok (.iconst 0, 1) := by decide +kernel
theorem dX4_add_20 : decode cX4_add 20 = .ok (.invokevirtual 66, 3) := by decide +kernel
theorem dX4_add_23 : decode cX4_add 23 = .ok (.ifCond .ne 5, 3) := by decide +kernel
theorem dX4_add_26 : decode cX4_add 26 = .ok (.iconst 0, 1) := by decide +kernel
theorem dX4_add_27 : decode cX4_add 27 = .ok (.ireturn, 1) := by decide +kernel
theorem dX4_add_28 : decode cX4_add 28 = .ok (.aload_n 0, 1) := by decide +kernel
theorem dX4_add_29 : decode cX4_add 29 = .ok (.invokevirtual 93, 3) := by decide +kernel
theorem dX4_add_32 : decode cX4_add 32 = .ok (.aload_n 0, 1) := by decide +kernel
theorem dX4_add_33 : decode cX4_add 33 = .ok (.iload_n 1, 1) := by decide +kernel
theorem dX4_add_34 : decode cX4_add 34 = .ok (.iload_n 2, 1) := by decide +kernel
theorem dX4_add_35 : decode cX4_add 35 = .ok (.invokevirtual 96, 3) := by decide +kernel
theorem dX4_add_38 : decode cX4_add 38 = .ok (.ireturn, 1) := by decide +kernel
theorem dX4_addRow_0 : decode cX4_addRow 0 = .ok (.iload_n 1, 1) := by decide +kernel
theorem dX4_addRow_1 : decode cX4_addRow 1 = .ok (.iconst 1, 1) := by decide +kernel
theorem dX4_addRow_2 : decode cX4_addRow 2 = .ok (.if_icmp .lt 31, 3) := by decide +kernel
theorem dX4_addRow_5 : decode cX4_addRow 5 = .ok (.iload_n 1, 1) := by decide +kernel
theorem dX4_addRow_6 : decode cX4_addRow 6 = .ok (.sipush 512, 3) := by decide +kernel
theorem dX4_addRow_9 : decode cX4_addRow 9 = .ok (.if_icmp .gt 24, 3) := by decide +kernel
theorem dX4_addRow_12 : decode cX4_addRow 12 = .ok (.aload_n 0, 1) := by decide +kernel
theorem dX4_addRow_13 : decode cX4_addRow 13 = .ok (.invokevirtual 86, 3) := by decide +kernel
theorem dX4_addRow_16 : decode cX4_addRow 16 = .ok (.ifCond .eq 17, 3) := by decide +kernel
theorem dX4_addRow_19 : decode cX4_addRow 19 = .ok (.fload_n 2, 1) := by decide +kernel
theorem dX4_addRow_20 : decode cX4_addRow 20 = .ok (.fload_n 3, 1) := by decide +kernel
theorem dX4_addRow_21 : decode cX4_addRow 21 = .ok (.fload 4, 2) := by decide +kernel
theorem dX4_addRow_23 : decode cX4_addRow 23 = .ok (.invokestatic 100, 3) := by decide +kernel
theorem dX4_addRow_26 : decode cX4_addRow 26 = .ok (.ifCond .eq 7, 3) := by decide +kernel
theorem dX4_addRow_29 : decode cX4_addRow 29 = .ok (.iconst 1, 1) := by decide +kernel
theorem dX4_addRow_30 : decode cX4_addRow 30 = .ok (.goto 4, 3) := by decide +kernel
theorem dX4_addRow_33 : decode cX4_addRow 33 = .ok (.iconst 0, 1) := by decide +kernel
theorem dX4_addRow_34 : decode cX4_addRow 34 = .ok (.istore 7, 2) := by decide +kernel
theorem dX4_addRow_36 : decode cX4_addRow 36 = .ok (.aload_n 0, 1) := by decide +kernel
theorem dX4_addRow_37 : decode cX4_addRow 37 = .ok (.invokevirtual 93, 3) := by decide +kernel
theorem dX4_addRow_40 : decode cX4_addRow 40 = .ok (.iconst 1, 1) := by decide +kernel
theorem dX4_addRow_41 : decode cX4_addRow 41 = .ok (.istore 8, 2) := by decide +kernel
theorem dX4_addRow_43 : decode cX4_addRow 43 = .ok (.iload 8, 2) := by decide +kernel
theorem dX4_addRow_45 : decode cX4_addRow 45 = .ok (.iload_n 1, 1) := by decide +kernel
theorem dX4_addRow_46 : decode cX4_addRow 46 = .ok (.if_icmp .ge 24, 3) := by decide +kernel
theorem dX4_addRow_49 : decode cX4_addRow 49 = .ok (.iload 7, 2) := by decide +kernel
theorem dX4_addRow_51 : decode cX4_addRow 51 = .ok (.ifCond .eq 19, 3) := by decide +kernel
theorem dX4_addRow_54 : decode cX4_addRow 54 = .ok (.aload_n 0, 1) := by decide +kernel
theorem dX4_addRow_55 : decode cX4_addRow 55 = .ok (.fload_n 2, 1) := by decide +kernel
theorem dX4_addRow_56 : decode cX4_addRow 56 = .ok (.fload_n 3, 1) := by decide +kernel
theorem dX4_addRow_57 : decode cX4_addRow 57 = .ok (.fload 4, 2) := by decide +kernel
theorem dX4_addRow_59 : decode cX4_addRow 59 = .ok (.invokevirtual 104, 3) := by decide +kernel
theorem dX4_addRow_62 : decode cX4_addRow 62 = .ok (.istore 7, 2) := by decide +kernel
theorem dX4_addRow_64 : decode cX4_addRow 64 = .ok (.iinc 8 1, 3) := by decide +kernel
theorem dX4_addRow_67 : decode cX4_addRow 67 = .ok (.goto (-24), 3) := by decide +kernel
theorem dX4_addRow_70 : decode cX4_addRow 70 = .ok (.aload_n 0, 1) := by decide +kernel
theorem dX4_addRow_71 : decode cX4_addRow 71 = .ok (.iload 7, 2) := by decide +kernel
theorem dX4_addRow_73 : decode cX4_addRow 73 = .ok (.aload_n 0, 1) := by decide +kernel
theorem dX4_addRow_74 : decode cX4_addRow 74 = .ok (.invokevirtual 90, 3) := by decide +kernel
theorem dX4_addRow_77 : decode cX4_addRow 77 = .ok (.iload_n 1, 1) := by decide +kernel
theorem dX4_addRow_78 : decode cX4_addRow 78 = .ok (.iadd, 1) := by decide +kernel
theorem dX4_addRow_79 : decode cX4_addRow 79 = .ok (.sipush 512, 3) := by decide +kernel
theorem dX4_addRow_82 : decode cX4_addRow 82 = .ok (.if_icmp .gt 7, 3) := by decide +kernel
theorem dX4_addRow_85 : decode cX4_addRow 85 = .ok (.iconst 1, 1) := by decide +kernel
theorem dX4_addRow_86 : decode cX4_addRow 86 = .ok (.goto 4, 3) := by decide +kernel
theorem dX4_addRow_89 : decode cX4_addRow 89 = .ok (.iconst 0, 1) := by decide +kernel
theorem dX4_addRow_90 : decode cX4_addRow 90 = .ok (.invokevirtual 66, 3) := by decide +kernel
theorem dX4_addRow_93 : decode cX4_addRow 93 = .ok (.ifCond .ne 5, 3) := by decide +kernel
theorem dX4_addRow_96 : decode cX4_addRow 96 = .ok (.iconst 0, 1) := by decide +kernel
theorem dX4_addRow_97 : decode cX4_addRow 97 = .ok (.ireturn, 1) := by decide +kernel
theorem dX4_addRow_98 : decode cX4_addRow 98 = .ok (.aload_n 0, 1) := by decide +kernel
theorem dX4_addRow_99 : decode cX4_addRow 99 = .ok (.invokevirtual 93, 3) := by decide +kernel
theorem dX4_addRow_102 : decode cX4_addRow 102 = .ok (.iconst (-1), 1) := by decide +kernel
theorem dX4_addRow_103 : decode cX4_addRow 103 = .ok (.istore 8, 2) := by decide +kernel
theorem dX4_addRow_105 : decode cX4_addRow 105 = .ok (.iconst 0, 1) := by decide +kernel
theorem dX4_addRow_106 : decode cX4_addRow 106 = .ok (.istore 9, 2) := by decide +kernel
theorem dX4_addRow_108 : decode cX4_addRow 108 = .ok (.iload 9, 2) := by decide +kernel
theorem dX4_addRow_110 : decode cX4_addRow 110 = .ok (.iload_n 1, 1) := by decide +kernel
theorem dX4_addRow_111 : decode cX4_addRow 111 = .ok (.if_icmp .ge 29, 3) := by decide +kernel
theorem dX4_addRow_114 : decode cX4_addRow 114 = .ok (.aload_n 0, 1) := by decide +kernel
theorem dX4_addRow_115 : decode cX4_addRow 115 = .ok (.iload 5, 2) := by decide +kernel
theorem dX4_addRow_117 : decode cX4_addRow 117 = .ok (.iload 6, 2) := by decide +kernel
theorem dX4_addRow_119 : decode cX4_addRow 119 = .ok (.invokevirtual 96, 3) := by decide +kernel
theorem dX4_addRow_122 : decode cX4_addRow 122 = .ok (.istore 8, 2) := by decide +kernel
theorem dX4_addRow_124 : decode cX4_addRow 124 = .ok (.aload_n 0, 1) := by decide +kernel
theorem dX4_addRow_125 : decode cX4_addRow 125 = .ok (.fload_n 2, 1) := by decide +kernel
theorem dX4_addRow_126 : decode cX4_addRow 126 = .ok (.fload_n 3, 1) := by decide +kernel
theorem dX4_addRow_127 : decode cX4_addRow 127 = .ok (.fload 4, 2) := by decide +kernel
theorem dX4_addRow_129 : decode cX4_addRow 129 = .ok (.invokevirtual 104, 3) := by decide +kernel
theorem dX4_addRow_132 : decode cX4_addRow 132 = .ok (.istore 10, 2) := by decide +kernel
theorem dX4_addRow_134 : decode cX4_addRow 134 = .ok (.iinc 9 1, 3) := by decide +kernel
theorem dX4_addRow_137 : decode cX4_addRow 137 = .ok (.goto (-29), 3) := by decide +kernel
theorem dX4_addRow_140 : decode cX4_addRow 140 = .ok (.iload 8, 2) := by decide +kernel
theorem dX4_addRow_142 : decode cX4_addRow 142 = .ok (.ireturn, 1) := by decide +kernel
theorem dX4_moves_0 : decode cX4_moves 0 = .ok (.iconst 1, 1) := by decide +kernel
theorem dX4_moves_1 : decode cX4_moves 1 = .ok (.istore 5, 2) := by decide +kernel
theorem dX4_moves_3 : decode cX4_moves 3 = .ok (.iconst 0, 1) := by decide +kernel
theorem dX4_moves_4 : decode cX4_moves 4 = .ok (.istore 6, 2) := by decide +kernel
theorem dX4_moves_6 : decode cX4_moves 6 = .ok (.iload 6, 2) := by decide +kernel
theorem dX4_moves_8 : decode cX4_moves 8 = .ok (.iconst 3, 1) := by decide +kernel
theorem dX4_moves_9 : decode cX4_moves 9 = .ok (.if_icmp .ge 71, 3) := by decide +kernel
theorem dX4_moves_12 : decode cX4_moves 12 = .ok (.iload 5, 2) := by decide +kernel
theorem dX4_moves_14 : decode cX4_moves 14 = .ok (.ifCond .eq 57, 3) := by decide +kernel
theorem dX4_moves_17 : decode cX4_moves 17 = .ok (.aload_n 0, 1) := by decide +kernel
theorem dX4_moves_18 : decode cX4_moves 18 = .ok (.getfield 51, 3) := by decide +kernel
theorem dX4_moves_21 : decode cX4_moves 21 = .ok (.iload 6, 2) := by decide +kernel
theorem dX4_moves_23 : decode cX4_moves 23 = .ok (.faload, 1) := by decide +kernel
theorem dX4_moves_24 : decode cX4_moves 24 = .ok (.aload_n 0, 1) := by decide +kernel
theorem dX4_moves_25 : decode cX4_moves 25 = .ok (.getfield 30, 3) := by decide +kernel
theorem dX4_moves_28 : decode cX4_moves 28 = .ok (.bipush 6, 2) := by decide +kernel
theorem dX4_moves_30 : decode cX4_moves 30 = .ok (.iload_n 1, 1) := by decide +kernel
theorem dX4_moves_31 : decode cX4_moves 31 = .ok (.imul, 1) := by decide +kernel
theorem dX4_moves_32 : decode cX4_moves 32 = .ok (.iload 6, 2) := by decide +kernel
theorem dX4_moves_34 : decode cX4_moves 34 = .ok (.iadd, 1) := by decide +kernel
theorem dX4_moves_35 : decode cX4_moves 35 = .ok (.faload, 1) := by decide +kernel
theorem dX4_moves_36 : decode cX4_moves 36 = .ok (.fcmp .l, 1) := by decide +kernel
theorem dX4_moves_37 : decode cX4_moves 37 = .ok (.ifCond .lt 34, 3) := by decide +kernel
theorem dX4_moves_40 : decode cX4_moves 40 = .ok (.aload_n 0, 1) := by decide +kernel
theorem dX4_moves_41 : decode cX4_moves 41 = .ok (.getfield 51, 3) := by decide +kernel
theorem dX4_moves_44 : decode cX4_moves 44 = .ok (.iload 6, 2) := by decide +kernel
theorem dX4_moves_46 : decode cX4_moves 46 = .ok (.iconst 3, 1) := by decide +kernel
theorem dX4_moves_47 : decode cX4_moves 47 = .ok (.iadd, 1) := by decide +kernel
theorem dX4_moves_48 : decode cX4_moves 48 = .ok (.faload, 1) := by decide +kernel
theorem dX4_moves_49 : decode cX4_moves 49 = .ok (.aload_n 0, 1) := by decide +kernel
theorem dX4_moves_50 : decode cX4_moves 50 = .ok (.getfield 30, 3) := by decide +kernel
theorem dX4_moves_53 : decode cX4_moves 53 = .ok (.bipush 6, 2) := by decide +kernel
theorem dX4_moves_55 : decode cX4_moves 55 = .ok (.iload_n 1, 1) := by decide +kernel
theorem dX4_moves_56 : decode cX4_moves 56 = .ok (.imul, 1) := by decide +kernel
theorem dX4_moves_57 : decode cX4_moves 57 = .ok (.iconst 3, 1) := by decide +kernel
theorem dX4_moves_58 : decode cX4_moves 58 = .ok (.iadd, 1) := by decide +kernel
theorem dX4_moves_59 : decode cX4_moves 59 = .ok (.iload 6, 2) := by decide +kernel
theorem dX4_moves_61 : decode cX4_moves 61 = .ok (.iadd, 1) := by decide +kernel
theorem dX4_moves_62 : decode cX4_moves 62 = .ok (.faload, 1) := by decide +kernel
theorem dX4_moves_63 : decode cX4_moves 63 = .ok (.fcmp .g, 1) := by decide +kernel
theorem dX4_moves_64 : decode cX4_moves 64 = .ok (.ifCond .gt 7, 3) := by decide +kernel
theorem dX4_moves_67 : decode cX4_moves 67 = .ok (.iconst 1, 1) := by decide +kernel
theorem dX4_moves_68 : decode cX4_moves 68 = .ok (.goto 4, 3) := by decide +kernel
theorem dX4_moves_71 : decode cX4_moves 71 = .ok (.iconst 0, 1) := by decide +kernel
theorem dX4_moves_72 : decode cX4_moves 72 = .ok (.istore 5, 2) := by decide +kernel
theorem dX4_moves_74 : decode cX4_moves 74 = .ok (.iinc 6 1, 3) := by decide +kernel
theorem dX4_moves_77 : decode cX4_moves 77 = .ok (.goto (-71), 3) := by decide +kernel
theorem dX4_moves_80 : decode cX4_moves 80 = .ok (.iload 5, 2) := by decide +kernel
theorem dX4_moves_82 : decode cX4_moves 82 = .ok (.ifCond .ne 12, 3) := by decide +kernel
theorem dX4_moves_85 : decode cX4_moves 85 = .ok (.aload_n 0, 1) := by decide +kernel
theorem dX4_moves_86 : decode cX4_moves 86 = .ok (.iload_n 1, 1) := by decide +kernel
theorem dX4_moves_87 : decode cX4_moves 87 = .ok (.fload_n 2, 1) := by decide +kernel
theorem dX4_moves_88 : decode cX4_moves 88 = .ok (.fload_n 3, 1) := by decide +kernel
theorem dX4_moves_89 : decode cX4_moves 89 = .ok (.fload 4, 2) := by decide +kernel
theorem dX4_moves_91 : decode cX4_moves 91 = .ok (.invokevirtual 83, 3) := by decide +kernel
theorem dX4_moves_94 : decode cX4_moves 94 = .ok (.iconst 0, 1) := by decide +kernel
theorem dX4_moves_95 : decode cX4_moves 95 = .ok (.istore 6, 2) := by decide +kernel
theorem dX4_moves_97 : decode cX4_moves 97 = .ok (.iload 6, 2) := by decide +kernel
theorem dX4_moves_99 : decode cX4_moves 99 = .ok (.bipush 6, 2) := by decide +kernel
theorem dX4_moves_101 : decode cX4_moves 101 = .ok (.if_icmp .ge 28, 3) := by decide +kernel
theorem dX4_moves_104 : decode cX4_moves 104 = .ok (.aload_n 0, 1) := by decide +kernel
theorem dX4_moves_105 : decode cX4_moves 105 = .ok (.getfield 27, 3) := by decide +kernel
theorem dX4_moves_108 : decode cX4_moves 108 = .ok (.bipush 6, 2) := by decide +kernel
theorem dX4_moves_110 : decode cX4_moves 110 = .ok (.iload_n 1, 1) := by decide +kernel
theorem dX4_moves_111 : decode cX4_moves 111 = .ok (.imul, 1) := by decide +kernel
theorem dX4_moves_112 : decode cX4_moves 112 = .ok (.iload 6, 2) := by decide +kernel
theorem dX4_moves_114 : decode cX4_moves 114 = .ok (.iadd, 1) := by decide +kernel
theorem dX4_moves_115 : decode cX4_moves 115 = .ok (.aload_n 0, 1) := by decide +kernel
theorem dX4_moves_116 : decode cX4_moves 116 = .ok (.getfield 51, 3) := by decide +kernel
theorem dX4_moves_119 : decode cX4_moves 119 = .ok (.iload 6, 2) := by decide +kernel
theorem dX4_moves_121 : decode cX4_moves 121 = .ok (.faload, 1) := by decide +kernel
theorem dX4_moves_122 : decode cX4_moves 122 = .ok (.fastore, 1) := by decide +kernel
theorem dX4_moves_123 : decode cX4_moves 123 = .ok (.iinc 6 1, 3) := by decide +kernel
theorem dX4_moves_126 : decode cX4_moves 126 = .ok (.goto (-29), 3) := by decide +kernel
theorem dX4_moves_129 : decode cX4_moves 129 = .ok (.iload 5, 2) := by decide +kernel
theorem dX4_moves_131 : decode cX4_moves 131 = .ok (.ifCond .ne 7, 3) := by decide +kernel
theorem dX4_moves_134 : decode cX4_moves 134 = .ok (.iconst 1, 1) := by decide +kernel
theorem dX4_moves_135 : decode cX4_moves 135 = .ok (.goto 4, 3) := by decide +kernel
theorem dX4_moves_138 : decode cX4_moves 138 = .ok (.iconst 0, 1) := by decide +kernel
theorem dX4_moves_139 : decode cX4_moves 139 = .ok (.ireturn, 1) := by decide +kernel
theorem dX4_move_0 : decode cX4_move 0 = .ok (.aload_n 0, 1) := by decide +kernel
theorem dX4_move_1 : decode cX4_move 1 = .ok (.aload_n 0, 1) := by decide +kernel
theorem dX4_move_2 : decode cX4_move 2 = .ok (.iload_n 1, 1) := by decide +kernel
theorem dX4_move_3 : decode cX4_move 3 = .ok (.invokevirtual 107, 3) := by decide +kernel
theorem dX4_move_6 : decode cX4_move 6 = .ok (.aload_n 0, 1) := by decide +kernel
theorem dX4_move_7 : decode cX4_move 7 = .ok (.invokevirtual 86, 3) := by decide +kernel
theorem dX4_move_10 : decode cX4_move 10 = .ok (.ifCond .eq 17, 3) := by decide +kernel
theorem dX4_move_13 : decode cX4_move 13 = .ok (.fload_n 2, 1) := by decide +kernel
theorem dX4_move_14 : decode cX4_move 14 = .ok (.fload_n 3, 1) := by decide +kernel
theorem dX4_move_15 : decode cX4_move 15 = .ok (.fload 4, 2) := by decide +kernel
theorem dX4_move_17 : decode cX4_move 17 = .ok (.invokestatic 100, 3) := by decide +kernel
theorem dX4_move_20 : decode cX4_move 20 = .ok (.ifCond .eq 7, 3) := by decide +kernel
theorem dX4_move_23 : decode cX4_move 23 = .ok (.iconst 1, 1) := by decide +kernel
theorem dX4_move_24 : decode cX4_move 24 = .ok (.goto 4, 3) := by decide +kernel
theorem dX4_move_27 : decode cX4_move 27 = .ok (.iconst 0, 1) := by decide +kernel
theorem dX4_move_28 : decode cX4_move 28 = .ok (.invokevirtual 66, 3) := by decide +kernel
theorem dX4_move_31 : decode cX4_move 31 = .ok (.ifCond .ne 5, 3) := by decide +kernel
theorem dX4_move_34 : decode cX4_move 34 = .ok (.iconst 0, 1) := by decide +kernel
theorem dX4_move_35 : decode cX4_move 35 = .ok (.ireturn, 1) := by decide +kernel
theorem dX4_move_36 : decode cX4_move 36 = .ok (.aload_n 0, 1) := by decide +kernel
theorem dX4_move_37 : decode cX4_move 37 = .ok (.invokevirtual 93, 3) := by decide +kernel
theorem dX4_move_40 : decode cX4_move 40 = .ok (.aload_n 0, 1) := by decide +kernel
theorem dX4_move_41 : decode cX4_move 41 = .ok (.iload_n 1, 1) := by decide +kernel
theorem dX4_move_42 : decode cX4_move 42 = .ok (.fload_n 2, 1) := by decide +kernel
theorem dX4_move_43 : decode cX4_move 43 = .ok (.fload_n 3, 1) := by decide +kernel
theorem dX4_move_44 : decode cX4_move 44 = .ok (.fload 4, 2) := by decide +kernel
theorem dX4_move_46 : decode cX4_move 46 = .ok (.invokevirtual 111, 3) := by decide +kernel
theorem dX4_move_49 : decode cX4_move 49 = .ok (.ireturn, 1) := by decide +kernel
theorem dX4_shift_0 : decode cX4_shift 0 = .ok (.aload_n 0, 1) := by decide +kernel
theorem dX4_shift_1 : decode cX4_shift 1 = .ok (.iload_n 1, 1) := by decide +kernel
theorem dX4_shift_2 : decode cX4_shift 2 = .ok (.ifCond .lt 19, 3) := by decide +kernel
theorem dX4_shift_5 : decode cX4_shift 5 = .ok (.iload_n 2, 1) := by decide +kernel
theorem dX4_shift_6 : decode cX4_shift 6 = .ok (.sipush 512, 3) := by decide +kernel
theorem dX4_shift_9 : decode cX4_shift 9 = .ok (.if_icmp .ge 12, 3) := by decide +kernel
theorem dX4_shift_12 : decode cX4_shift 12 = .ok (.iload_n 1, 1) := by decide +kernel
theorem dX4_shift_13 : decode cX4_shift 13 = .ok (.iload_n 2, 1) := by decide +kernel
theorem dX4_shift_14 : decode cX4_shift 14 = .ok (.if_icmp .gt 7, 3) := by decide +kernel
theorem dX4_shift_17 : decode cX4_shift 17 = .ok (.iconst 1, 1) := by decide +kernel
theorem dX4_shift_18 : decode cX4_shift 18 = .ok (.goto 4, 3) := by decide +kernel
theorem dX4_shift_21 : decode cX4_shift 21 = .ok (.iconst 0, 1) := by decide +kernel
theorem dX4_shift_22 : decode cX4_shift 22 = .ok (.fload_n 3, 1) := by decide +kernel
theorem dX4_shift_23 : decode cX4_shift 23 = .ok (.fload 4, 2) := by decide +kernel
theorem dX4_shift_25 : decode cX4_shift 25 = .ok (.fload 5, 2) := by decide +kernel
theorem dX4_shift_27 : decode cX4_shift 27 = .ok (.invokestatic 100, 3) := by decide +kernel
theorem dX4_shift_30 : decode cX4_shift 30 = .ok (.invokevirtual 66, 3) := by decide +kernel
theorem dX4_shift_33 : decode cX4_shift 33 = .ok (.ifCond .ne 5, 3) := by decide +kernel
theorem dX4_shift_36 : decode cX4_shift 36 = .ok (.iconst 0, 1) := by decide +kernel
theorem dX4_shift_37 : decode cX4_shift 37 = .ok (.ireturn, 1) := by decide +kernel
theorem dX4_shift_38 : decode cX4_shift 38 = .ok (.iconst 0, 1) := by decide +kernel
theorem dX4_shift_39 : decode cX4_shift 39 = .ok (.istore 6, 2) := by decide +kernel
theorem dX4_shift_41 : decode cX4_shift 41 = .ok (.iload_n 1, 1) := by decide +kernel
theorem dX4_shift_42 : decode cX4_shift 42 = .ok (.istore 7, 2) := by decide +kernel
theorem dX4_shift_44 : decode cX4_shift 44 = .ok (.iload 7, 2) := by decide +kernel
theorem dX4_shift_46 : decode cX4_shift 46 = .ok (.iload_n 2, 1) := by decide +kernel
theorem dX4_shift_47 : decode cX4_shift 47 = .ok (.if_icmp .gt 104, 3) := by decide +kernel
theorem dX4_shift_50 : decode cX4_shift 50 = .ok (.iconst 0, 1) := by decide +kernel
theorem dX4_shift_51 : decode cX4_shift 51 = .ok (.istore 8, 2) := by decide +kernel
theorem dX4_shift_53 : decode cX4_shift 53 = .ok (.iload 8, 2) := by decide +kernel
theorem dX4_shift_55 : decode cX4_shift 55 = .ok (.bipush 6, 2) := by decide +kernel
theorem dX4_shift_57 : decode cX4_shift 57 = .ok (.if_icmp .ge 29, 3) := by decide +kernel
theorem dX4_shift_60 : decode cX4_shift 60 = .ok (.aload_n 0, 1) := by decide +kernel
theorem dX4_shift_61 : decode cX4_shift 61 = .ok (.getfield 51, 3) := by decide +kernel
theorem dX4_shift_64 : decode cX4_shift 64 = .ok (.iload 8, 2) := by decide +kernel
theorem dX4_shift_66 : decode cX4_shift 66 = .ok (.aload_n 0, 1) := by decide +kernel
theorem dX4_shift_67 : decode cX4_shift 67 = .ok (.getfield 27, 3) := by decide +kernel
theorem dX4_shift_70 : decode cX4_shift 70 = .ok (.bipush 6, 2) := by decide +kernel
theorem dX4_shift_72 : decode cX4_shift 72 = .ok (.iload 7, 2) := by decide +kernel
theorem dX4_shift_74 : decode cX4_shift 74 = .ok (.imul, 1) := by decide +kernel
theorem dX4_shift_75 : decode cX4_shift 75 = .ok (.iload 8, 2) := by decide +kernel
theorem dX4_shift_77 : decode cX4_shift 77 = .ok (.iadd, 1) := by decide +kernel
theorem dX4_shift_78 : decode cX4_shift 78 = .ok (.faload, 1) := by decide +kernel
theorem dX4_shift_79 : decode cX4_shift 79 = .ok (.fastore, 1) := by decide +kernel
theorem dX4_shift_80 : decode cX4_shift 80 = .ok (.iinc 8 1, 3) := by decide +kernel
theorem dX4_shift_83 : decode cX4_shift 83 = .ok (.goto (-30), 3) := by decide +kernel
theorem dX4_shift_86 : decode cX4_shift 86 = .ok (.aload_n 0, 1) := by decide +kernel
theorem dX4_shift_87 : decode cX4_shift 87 = .ok (.getfield 13, 3) := by decide +kernel
theorem dX4_shift_90 : decode cX4_shift 90 = .ok (.iload 7, 2) := by decide +kernel
theorem dX4_shift_92 : decode cX4_shift 92 = .ok (.baload, 1) := by decide +kernel
theorem dX4_shift_93 : decode cX4_shift 93 = .ok (.ifCond .eq 33, 3) := by decide +kernel
theorem dX4_shift_96 : decode cX4_shift 96 = .ok (.aload_n 0, 1) := by decide +kernel
theorem dX4_shift_97 : decode cX4_shift 97 = .ok (.fload_n 3, 1) := by decide +kernel
theorem dX4_shift_98 : decode cX4_shift 98 = .ok (.fload 4, 2) := by decide +kernel
theorem dX4_shift_100 : decode cX4_shift 100 = .ok (.fload 5, 2) := by decide +kernel
theorem dX4_shift_102 : decode cX4_shift 102 = .ok (.invokevirtual 104, 3) := by decide +kernel
theorem dX4_shift_105 : decode cX4_shift 105 = .ok (.ifCond .eq 21, 3) := by decide +kernel
theorem dX4_shift_108 : decode cX4_shift 108 = .ok (.aload_n 0, 1) := by decide +kernel
theorem dX4_shift_109 : decode cX4_shift 109 = .ok (.iload 7, 2) := by decide +kernel
theorem dX4_shift_111 : decode cX4_shift 111 = .ok (.fload_n 3, 1) := by decide +kernel
theorem dX4_shift_112 : decode cX4_shift 112 = .ok (.fload 4, 2) := by decide +kernel
theorem dX4_shift_114 : decode cX4_shift 114 = .ok (.fload 5, 2) := by decide +kernel
theorem dX4_shift_116 : decode cX4_shift 116 = .ok (.invokevirtual 111, 3) := by decide +kernel
theorem dX4_shift_119 : decode cX4_shift 119 = .ok (.ifCond .eq 7, 3) := by decide +kernel
theorem dX4_shift_122 : decode cX4_shift 122 = .ok (.iconst 1, 1) := by decide +kernel
theorem dX4_shift_123 : decode cX4_shift 123 = .ok (.goto 4, 3) := by decide +kernel
theorem dX4_shift_126 : decode cX4_shift 126 = .ok (.iconst 0, 1) := by decide +kernel
theorem dX4_shift_127 : decode cX4_shift 127 = .ok (.istore 8, 2) := by decide +kernel
theorem dX4_shift_129 : decode cX4_shift 129 = .ok (.iload 8, 2) := by decide +kernel
theorem dX4_shift_131 : decode cX4_shift 131 = .ok (.ifCond .eq 10, 3) := by decide +kernel
theorem dX4_shift_134 : decode cX4_shift 134 = .ok (.iload 6, 2) := by decide +kernel
theorem dX4_shift_136 : decode cX4_shift 136 = .ok (.iconst 1, 1) := by decide +kernel
theorem dX4_shift_137 : decode cX4_shift 137 = .ok (.iadd, 1) := by decide +kernel
theorem dX4_shift_138 : decode cX4_shift 138 = .ok (.goto 5, 3) := by decide +kernel
theorem dX4_shift_141 : decode cX4_shift 141 = .ok (.iload 6, 2) := by decide +kernel
theorem dX4_shift_143 : decode cX4_shift 143 = .ok (.istore 6, 2) := by decide +kernel
theorem dX4_shift_145 : decode cX4_shift 145 = .ok (.iinc 7 1, 3) := by decide +kernel
theorem dX4_shift_148 : decode cX4_shift 148 = .ok (.goto (-104), 3) := by decide +kernel
theorem dX4_shift_151 : decode cX4_shift 151 = .ok (.iload 6, 2) := by decide +kernel
theorem dX4_shift_153 : decode cX4_shift 153 = .ok (.ireturn, 1) := by decide +kernel
theorem dX4_filter_0 : decode cX4_filter 0 = .ok (.aload_n 0, 1) := by decide +kernel
theorem dX4_filter_1 : decode cX4_filter 1 = .ok (.aload_n 0, 1) := by decide +kernel
theorem dX4_filter_2 : decode cX4_filter 2 = .ok (.iload_n 1, 1) := by decide +kernel
theorem dX4_filter_3 : decode cX4_filter 3 = .ok (.invokevirtual 107, 3) := by decide +kernel
theorem dX4_filter_6 : decode cX4_filter 6 = .ok (.iconst 1, 1) := by decide +kernel
theorem dX4_filter_7 : decode cX4_filter 7 = .ok (.invokevirtual 66, 3) := by decide +kernel
theorem dX4_filter_10 : decode cX4_filter 10 = .ok (.ifCond .eq 24, 3) := by decide +kernel
theorem dX4_filter_13 : decode cX4_filter 13 = .ok (.aload_n 0, 1) := by decide +kernel
theorem dX4_filter_14 : decode cX4_filter 14 = .ok (.getfield 20, 3) := by decide +kernel
theorem dX4_filter_17 : decode cX4_filter 17 = .ok (.iload_n 1, 1) := by decide +kernel
theorem dX4_filter_18 : decode cX4_filter 18 = .ok (.iload_n 2, 1) := by decide +kernel
theorem dX4_filter_19 : decode cX4_filter 19 = .ok (.iastore, 1) := by decide +kernel
theorem dX4_filter_20 : decode cX4_filter 20 = .ok (.aload_n 0, 1) := by decide +kernel
theorem dX4_filter_21 : decode cX4_filter 21 = .ok (.getfield 24, 3) := by decide +kernel
theorem dX4_filter_24 : decode cX4_filter 24 = .ok (.iload_n 1, 1) := by decide +kernel
theorem dX4_filter_25 : decode cX4_filter 25 = .ok (.iload_n 3, 1) := by decide +kernel
theorem dX4_filter_26 : decode cX4_filter 26 = .ok (.iastore, 1) := by decide +kernel
theorem dX4_filter_27 : decode cX4_filter 27 = .ok (.aload_n 0, 1) := by decide +kernel
theorem dX4_filter_28 : decode cX4_filter 28 = .ok (.getfield 17, 3) := by decide +kernel
theorem dX4_filter_31 : decode cX4_filter 31 = .ok (.iload_n 1, 1) := by decide +kernel
theorem dX4_filter_32 : decode cX4_filter 32 = .ok (.iconst 1, 1) := by decide +kernel
theorem dX4_filter_33 : decode cX4_filter 33 = .ok (.bastore, 1) := by decide +kernel
theorem dX4_filter_34 : decode cX4_filter 34 = .ok (.return_, 1) := by decide +kernel
theorem dX4_bit_0 : decode cX4_bit 0 = .ok (.aload_n 0, 1) := by decide +kernel
theorem dX4_bit_1 : decode cX4_bit 1 = .ok (.bipush 16, 2) := by decide +kernel
theorem dX4_bit_3 : decode cX4_bit 3 = .ok (.iload_n 1, 1) := by decide +kernel
theorem dX4_bit_4 : decode cX4_bit 4 = .ok (.imul, 1) := by decide +kernel
theorem dX4_bit_5 : decode cX4_bit 5 = .ok (.iload_n 2, 1) := by decide +kernel
theorem dX4_bit_6 : decode cX4_bit 6 = .ok (.bipush 32, 2) := by decide +kernel
theorem dX4_bit_8 : decode cX4_bit 8 = .ok (.idiv, 1) := by decide +kernel
theorem dX4_bit_9 : decode cX4_bit 9 = .ok (.iadd, 1) := by decide +kernel
theorem dX4_bit_10 : decode cX4_bit 10 = .ok (.iaload, 1) := by decide +kernel
theorem dX4_bit_11 : decode cX4_bit 11 = .ok (.iload_n 2, 1) := by decide +kernel
theorem dX4_bit_12 : decode cX4_bit 12 = .ok (.bipush 32, 2) := by decide +kernel
theorem dX4_bit_14 : decode cX4_bit 14 = .ok (.irem, 1) := by decide +kernel
theorem dX4_bit_15 : decode cX4_bit 15 = .ok (.ishr, 1) := by decide +kernel
theorem dX4_bit_16 : decode cX4_bit 16 = .ok (.iconst 1, 1) := by decide +kernel
theorem dX4_bit_17 : decode cX4_bit 17 = .ok (.iand, 1) := by decide +kernel
theorem dX4_bit_18 : decode cX4_bit 18 = .ok (.iconst 1, 1) := by decide +kernel
theorem dX4_bit_19 : decode cX4_bit 19 = .ok (.if_icmp .ne 7, 3) := by decide +kernel
theorem dX4_bit_22 : decode cX4_bit 22 = .ok (.iconst 1, 1) := by decide +kernel
theorem dX4_bit_23 : decode cX4_bit 23 = .ok (.goto 4, 3) := by decide +kernel
theorem dX4_bit_26 : decode cX4_bit 26 = .ok (.iconst 0, 1) := by decide +kernel
theorem dX4_bit_27 : decode cX4_bit 27 = .ok (.ireturn, 1) := by decide +kernel
theorem dX4_isPair_0 : decode cX4_isPair 0 = .ok (.iload_n 1, 1) := by decide +kernel
theorem dX4_isPair_1 : decode cX4_isPair 1 = .ok (.iload_n 2, 1) := by decide +kernel
theorem dX4_isPair_2 : decode cX4_isPair 2 = .ok (.if_icmp .ge 15, 3) := by decide +kernel
theorem dX4_isPair_5 : decode cX4_isPair 5 = .ok (.aload_n 0, 1) := by decide +kernel
theorem dX4_isPair_6 : decode cX4_isPair 6 = .ok (.getfield 33, 3) := by decide +kernel
theorem dX4_isPair_9 : decode cX4_isPair 9 = .ok (.iload_n 1, 1) := by decide +kernel
theorem dX4_isPair_10 : decode cX4_isPair 10 = .ok (.iload_n 2, 1) := by decide +kernel
theorem dX4_isPair_11 : decode cX4_isPair 11 = .ok (.invokestatic 115, 3) := by decide +kernel
theorem dX4_isPair_14 : decode cX4_isPair 14 = .ok (.goto 12, 3) := by decide +kernel
theorem dX4_isPair_17 : decode cX4_isPair 17 = .ok (.aload_n 0, 1) := by decide +kernel
theorem dX4_isPair_18 : decode cX4_isPair 18 = .ok (.getfield 33, 3) := by decide +kernel
theorem dX4_isPair_21 : decode cX4_isPair 21 = .ok (.iload_n 2, 1) := by decide +kernel
theorem dX4_isPair_22 : decode cX4_isPair 22 = .ok (.iload_n 1, 1) := by decide +kernel
theorem dX4_isPair_23 : decode cX4_isPair 23 = .ok (.invokestatic 115, 3) := by decide +kernel
theorem dX4_isPair_26 : decode cX4_isPair 26 = .ok (.ireturn, 1) := by decide +kernel
theorem dX4_pairsOf_0 : decode cX4_pairsOf 0 = .ok (.iconst 0, 1) := by decide +kernel
theorem dX4_pairsOf_1 : decode cX4_pairsOf 1 = .ok (.istore_n 2, 1) := by decide +kernel
theorem dX4_pairsOf_2 : decode cX4_pairsOf 2 = .ok (.iconst 0, 1) := by decide +kernel
theorem dX4_pairsOf_3 : decode cX4_pairsOf 3 = .ok (.istore_n 3, 1) := by decide +kernel
theorem dX4_pairsOf_4 : decode cX4_pairsOf 4 = .ok (.iload_n 3, 1) := by decide +kernel
theorem dX4_pairsOf_5 : decode cX4_pairsOf 5 = .ok (.sipush 512, 3) := by decide +kernel
theorem dX4_pairsOf_8 : decode cX4_pairsOf 8 = .ok (.if_icmp .ge 31, 3) := by decide +kernel
theorem dX4_pairsOf_11 : decode cX4_pairsOf 11 = .ok (.iload_n 3, 1) := by decide +kernel
theorem dX4_pairsOf_12 : decode cX4_pairsOf 12 = .ok (.iload_n 1, 1) := by decide +kernel
theorem dX4_pairsOf_13 : decode cX4_pairsOf 13 = .ok (.if_icmp .eq 18, 3) := by decide +kernel
theorem dX4_pairsOf_16 : decode cX4_pairsOf 16 = .ok (.aload_n 0, 1) := by decide +kernel
theorem dX4_pairsOf_17 : decode cX4_pairsOf 17 = .ok (.iload_n 1, 1) := by decide +kernel
theorem dX4_pairsOf_18 : decode cX4_pairsOf 18 = .ok (.iload_n 3, 1) := by decide +kernel
theorem dX4_pairsOf_19 : decode cX4_pairsOf 19 = .ok (.invokevirtual 119, 3) := by decide +kernel
theorem dX4_pairsOf_22 : decode cX4_pairsOf 22 = .ok (.ifCond .eq 9, 3) := by decide +kernel
theorem dX4_pairsOf_25 : decode cX4_pairsOf 25 = .ok (.iload_n 2, 1) := by decide +kernel
theorem dX4_pairsOf_26 : decode cX4_pairsOf 26 = .ok (.iconst 1, 1) := by decide +kernel
theorem dX4_pairsOf_27 : decode cX4_pairsOf 27 = .ok (.iadd, 1) := by decide +kernel
theorem dX4_pairsOf_28 : decode cX4_pairsOf 28 = .ok (.goto 4, 3) := by decide +kernel
theorem dX4_pairsOf_31 : decode cX4_pairsOf 31 = .ok (.iload_n 2, 1) := by decide +kernel
theorem dX4_pairsOf_32 : decode cX4_pairsOf 32 = .ok (.istore_n 2, 1) := by decide +kernel
theorem dX4_pairsOf_33 : decode cX4_pairsOf 33 = .ok (.iinc 3 1, 3) := by decide +kernel
theorem dX4_pairsOf_36 : decode cX4_pairsOf 36 = .ok (.goto (-32), 3) := by decide +kernel
theorem dX4_pairsOf_39 : decode cX4_pairsOf 39 = .ok (.iload_n 2, 1) := by decide +kernel
theorem dX4_pairsOf_40 : decode cX4_pairsOf 40 = .ok (.ireturn, 1) := by decide +kernel
theorem dX4_remove_0 : decode cX4_remove 0 = .ok (.aload_n 0, 1) := by decide +kernel
theorem dX4_remove_1 : decode cX4_remove 1 = .ok (.aload_n 0, 1) := by decide +kernel
theorem dX4_remove_2 : decode cX4_remove 2 = .ok (.iload_n 1, 1) := by decide +kernel
theorem dX4_remove_3 : decode cX4_remove 3 = .ok (.invokevirtual 107, 3) := by decide +kernel
theorem dX4_remove_6 : decode cX4_remove 6 = .ok (.iconst 1, 1) := by decide +kernel
theorem dX4_remove_7 : decode cX4_remove 7 = .ok (.invokevirtual 66, 3) := by decide +kernel
theorem dX4_remove_10 : decode cX4_remove 10 = .ok (.ifCond .ne 5, 3) := by decide +kernel
theorem dX4_remove_13 : decode cX4_remove 13 = .ok (.iconst 0, 1) := by decide +kernel
theorem dX4_remove_14 : decode cX4_remove 14 = .ok (.ireturn, 1) := by decide +kernel
theorem dX4_remove_15 : decode cX4_remove 15 = .ok (.aload_n 0, 1) := by decide +kernel
theorem dX4_remove_16 : decode cX4_remove 16 = .ok (.iload_n 1, 1) := by decide +kernel
theorem dX4_remove_17 : decode cX4_remove 17 = .ok (.invokevirtual 123, 3) := by decide +kernel
theorem dX4_remove_20 : decode cX4_remove 20 = .ok (.istore_n 2, 1) := by decide +kernel
theorem dX4_remove_21 : decode cX4_remove 21 = .ok (.iconst 0, 1) := by decide +kernel
theorem dX4_remove_22 : decode cX4_remove 22 = .ok (.istore_n 3, 1) := by decide +kernel
theorem dX4_remove_23 : decode cX4_remove 23 = .ok (.iload_n 3, 1) := by decide +kernel
theorem dX4_remove_24 : decode cX4_remove 24 = .ok (.sipush 512, 3) := by decide +kernel
theorem dX4_remove_27 : decode cX4_remove 27 = .ok (.if_icmp .ge 75, 3) := by decide +kernel
theorem dX4_remove_30 : decode cX4_remove 30 = .ok (.iload_n 3, 1) := by decide +kernel
theorem dX4_remove_31 : decode cX4_remove 31 = .ok (.iload_n 1, 1) := by decide +kernel
theorem dX4_remove_32 : decode cX4_remove 32 = .ok (.if_icmp .ge 7, 3) := by decide +kernel
theorem dX4_remove_35 : decode cX4_remove 35 = .ok (.iload_n 3, 1) := by decide +kernel
theorem dX4_remove_36 : decode cX4_remove 36 = .ok (.goto 4, 3) := by decide +kernel
theorem dX4_remove_39 : decode cX4_remove 39 = .ok (.iload_n 1, 1) := by decide +kernel
theorem dX4_remove_40 : decode cX4_remove 40 = .ok (.istore 4, 2) := by decide +kernel
theorem dX4_remove_42 : decode cX4_remove 42 = .ok (.iload_n 3, 1) := by decide +kernel
theorem dX4_remove_43 : decode cX4_remove 43 = .ok (.iload_n 1, 1) := by decide +kernel
theorem dX4_remove_44 : decode cX4_remove 44 = .ok (.if_icmp .ge 7, 3) := by decide +kernel
theorem dX4_remove_47 : decode cX4_remove 47 = .ok (.iload_n 1, 1) := by decide +kernel
theorem dX4_remove_48 : decode cX4_remove 48 = .ok (.goto 4, 3) := by decide +kernel
theorem dX4_remove_51 : decode cX4_remove 51 = .ok (.iload_n 3, 1) := by decide +kernel
theorem dX4_remove_52 : decode cX4_remove 52 = .ok (.istore 5, 2) := by decide +kernel
theorem dX4_remove_54 : decode cX4_remove 54 = .ok (.aload_n 0, 1) := by decide +kernel
theorem dX4_remove_55 : decode cX4_remove 55 = .ok (.getfield 33, 3) := by decide +kernel
theorem dX4_remove_58 : decode cX4_remove 58 = .ok (.bipush 16, 2) := by decide +kernel
theorem dX4_remove_60 : decode cX4_remove 60 = .ok (.iload 4, 2) := by decide +kernel
theorem dX4_remove_62 : decode cX4_remove 62 = .ok (.imul, 1) := by decide +kernel
theorem dX4_remove_63 : decode cX4_remove 63 = .ok (.iload 5, 2) := by decide +kernel
theorem dX4_remove_65 : decode cX4_remove 65 = .ok (.bipush 32, 2) := by decide +kernel
theorem dX4_remove_67 : decode cX4_remove 67 = .ok (.idiv, 1) := by decide +kernel
theorem dX4_remove_68 : decode cX4_remove 68 = .ok (.iadd, 1) := by decide +kernel
theorem dX4_remove_69 : decode cX4_remove 69 = .ok (.aload_n 0, 1) := by decide +kernel
theorem dX4_remove_70 : decode cX4_remove 70 = .ok (.getfield 33, 3) := by decide +kernel
theorem dX4_remove_73 : decode cX4_remove 73 = .ok (.bipush 16, 2) := by decide +kernel
theorem dX4_remove_75 : decode cX4_remove 75 = .ok (.iload 4, 2) := by decide +kernel
theorem dX4_remove_77 : decode cX4_remove 77 = .ok (.imul, 1) := by decide +kernel
theorem dX4_remove_78 : decode cX4_remove 78 = .ok (.iload 5, 2) := by decide +kernel
theorem dX4_remove_80 : decode cX4_remove 80 = .ok (.bipush 32, 2) := by decide +kernel
theorem dX4_remove_82 : decode cX4_remove 82 = .ok (.idiv, 1) := by decide +kernel
theorem dX4_remove_83 : decode cX4_remove 83 = .ok (.iadd, 1) := by decide +kernel
theorem dX4_remove_84 : decode cX4_remove 84 = .ok (.iaload, 1) := by decide +kernel
theorem dX4_remove_85 : decode cX4_remove 85 = .ok (.iconst 1, 1) := by decide +kernel
theorem dX4_remove_86 : decode cX4_remove 86 = .ok (.iload 5, 2) := by decide +kernel
theorem dX4_remove_88 : decode cX4_remove 88 = .ok (.bipush 32, 2) := by decide +kernel
theorem dX4_remove_90 : decode cX4_remove 90 = .ok (.irem, 1) := by decide +kernel
theorem dX4_remove_91 : decode cX4_remove 91 = .ok (.ishl, 1) := by decide +kernel
theorem dX4_remove_92 : decode cX4_remove 92 = .ok (.iconst (-1), 1) := by decide +kernel
theorem dX4_remove_93 : decode cX4_remove 93 = .ok (.ixor, 1) := by decide +kernel
theorem dX4_remove_94 : decode cX4_remove 94 = .ok (.iand, 1) := by decide +kernel
theorem dX4_remove_95 : decode cX4_remove 95 = .ok (.iastore, 1) := by decide +kernel
theorem dX4_remove_96 : decode cX4_remove 96 = .ok (.iinc 3 1, 3) := by decide +kernel
theorem dX4_remove_99 : decode cX4_remove 99 = .ok (.goto (-76), 3) := by decide +kernel
theorem dX4_remove_102 : decode cX4_remove 102 = .ok (.aload_n 0, 1) := by decide +kernel
theorem dX4_remove_103 : decode cX4_remove 103 = .ok (.getfield 13, 3) := by decide +kernel
theorem dX4_remove_106 : decode cX4_remove 106 = .ok (.iload_n 1, 1) := by decide +kernel
theorem dX4_remove_107 : decode cX4_remove 107 = .ok (.iconst 0, 1) := by decide +kernel
theorem dX4_remove_108 : decode cX4_remove 108 = .ok (.bastore, 1) := by decide +kernel
theorem dX4_remove_109 : decode cX4_remove 109 = .ok (.aload_n 0, 1) := by decide +kernel
theorem dX4_remove_110 : decode cX4_remove 110 = .ok (.getfield 17, 3) := by decide +kernel
theorem dX4_remove_113 : decode cX4_remove 113 = .ok (.iload_n 1, 1) := by decide +kernel
theorem dX4_remove_114 : decode cX4_remove 114 = .ok (.iconst 0, 1) := by decide +kernel
theorem dX4_remove_115 : decode cX4_remove 115 = .ok (.bastore, 1) := by decide +kernel
theorem dX4_remove_116 : decode cX4_remove 116 = .ok (.iload_n 2, 1) := by decide +kernel
theorem dX4_remove_117 : decode cX4_remove 117 = .ok (.ireturn, 1) := by decide +kernel
theorem dX4_overlap_0 : decode cX4_overlap 0 = .ok (.iconst 1, 1) := by decide +kernel
theorem dX4_overlap_1 : decode cX4_overlap 1 = .ok (.istore_n 3, 1) := by decide +kernel
theorem dX4_overlap_2 : decode cX4_overlap 2 = .ok (.iconst 0, 1) := by decide +kernel
theorem dX4_overlap_3 : decode cX4_overlap 3 = .ok (.istore 4, 2) := by decide +kernel
theorem dX4_overlap_5 : decode cX4_overlap 5 = .ok (.iload 4, 2) := by decide +kernel
theorem dX4_overlap_7 : decode cX4_overlap 7 = .ok (.iconst 3, 1) := by decide +kernel
theorem dX4_overlap_8 : decode cX4_overlap 8 = .ok (.if_icmp .ge 79, 3) := by decide +kernel
theorem dX4_overlap_11 : decode cX4_overlap 11 = .ok (.iload_n 3, 1) := by decide +kernel
theorem dX4_overlap_12 : decode cX4_overlap 12 = .ok (.ifCond .eq 67, 3) := by decide +kernel
theorem dX4_overlap_15 : decode cX4_overlap 15 = .ok (.aload_n 0, 1) := by decide +kernel
theorem dX4_overlap_16 : decode cX4_overlap 16 = .ok (.getfield 30, 3) := by decide +kernel
theorem dX4_overlap_19 : decode cX4_overlap 19 = .ok (.bipush 6, 2) := by decide +kernel
theorem dX4_overlap_21 : decode cX4_overlap 21 = .ok (.iload_n 1, 1) := by decide +kernel
theorem dX4_overlap_22 : decode cX4_overlap 22 = .ok (.imul, 1) := by decide +kernel
theorem dX4_overlap_23 : decode cX4_overlap 23 = .ok (.iload 4, 2) := by decide +kernel
theorem dX4_overlap_25 : decode cX4_overlap 25 = .ok (.iadd, 1) := by decide +kernel
theorem dX4_overlap_26 : decode cX4_overlap 26 = .ok (.faload, 1) := by decide +kernel
theorem dX4_overlap_27 : decode cX4_overlap 27 = .ok (.aload_n 0, 1) := by decide +kernel
theorem dX4_overlap_28 : decode cX4_overlap 28 = .ok (.getfield 30, 3) := by decide +kernel
theorem dX4_overlap_31 : decode cX4_overlap 31 = .ok (.bipush 6, 2) := by decide +kernel
theorem dX4_overlap_33 : decode cX4_overlap 33 = .ok (.iload_n 2, 1) := by decide +kernel
theorem dX4_overlap_34 : decode cX4_overlap 34 = .ok (.imul, 1) := by decide +kernel
theorem dX4_overlap_35 : decode cX4_overlap 35 = .ok (.iconst 3, 1) := by decide +kernel
theorem dX4_overlap_36 : decode cX4_overlap 36 = .ok (.iadd, 1) := by decide +kernel
theorem dX4_overlap_37 : decode cX4_overlap 37 = .ok (.iload 4, 2) := by decide +kernel
theorem dX4_overlap_39 : decode cX4_overlap 39 = .ok (.iadd, 1) := by decide +kernel
theorem dX4_overlap_40 : decode cX4_overlap 40 = .ok (.faload, 1) := by decide +kernel
theorem dX4_overlap_41 : decode cX4_overlap 41 = .ok (.fcmp .g, 1) := by decide +kernel
theorem dX4_overlap_42 : decode cX4_overlap 42 = .ok (.ifCond .gt 37, 3) := by decide +kernel
theorem dX4_overlap_45 : decode cX4_overlap 45 = .ok (.aload_n 0, 1) := by decide +kernel
theorem dX4_overlap_46 : decode cX4_overlap 46 = .ok (.getfield 30, 3) := by decide +kernel
theorem dX4_overlap_49 : decode cX4_overlap 49 = .ok (.bipush 6, 2) := by decide +kernel
theorem dX4_overlap_51 : decode cX4_overlap 51 = .ok (.iload_n 2, 1) := by decide +kernel
theorem dX4_overlap_52 : decode cX4_overlap 52 = .ok (.imul, 1) := by decide +kernel
theorem dX4_overlap_53 : decode cX4_overlap 53 = .ok (.iload 4, 2) := by decide +kernel
theorem dX4_overlap_55 : decode cX4_overlap 55 = .ok (.iadd, 1) := by decide +kernel
theorem dX4_overlap_56 : decode cX4_overlap 56 = .ok (.faload, 1) := by decide +kernel
theorem dX4_overlap_57 : decode cX4_overlap 57 = .ok (.aload_n 0, 1) := by decide +kernel
theorem dX4_overlap_58 : decode cX4_overlap 58 = .ok (.getfield 30, 3) := by decide +kernel
theorem dX4_overlap_61 : decode cX4_overlap 61 = .ok (.bipush 6, 2) := by decide +kernel
theorem dX4_overlap_63 : decode cX4_overlap 63 = .ok (.iload_n 1, 1) := by decide +kernel
theorem dX4_overlap_64 : decode cX4_overlap 64 = .ok (.imul, 1) := by decide +kernel
theorem dX4_overlap_65 : decode cX4_overlap 65 = .ok (.iconst 3, 1) := by decide +kernel
theorem dX4_overlap_66 : decode cX4_overlap 66 = .ok (.iadd, 1) := by decide +kernel
theorem dX4_overlap_67 : decode cX4_overlap 67 = .ok (.iload 4, 2) := by decide +kernel
theorem dX4_overlap_69 : decode cX4_overlap 69 = .ok (.iadd, 1) := by decide +kernel
theorem dX4_overlap_70 : decode cX4_overlap 70 = .ok (.faload, 1) := by decide +kernel
theorem dX4_overlap_71 : decode cX4_overlap 71 = .ok (.fcmp .g, 1) := by decide +kernel
theorem dX4_overlap_72 : decode cX4_overlap 72 = .ok (.ifCond .gt 7, 3) := by decide +kernel
theorem dX4_overlap_75 : decode cX4_overlap 75 = .ok (.iconst 1, 1) := by decide +kernel
theorem dX4_overlap_76 : decode cX4_overlap 76 = .ok (.goto 4, 3) := by decide +kernel
theorem dX4_overlap_79 : decode cX4_overlap 79 = .ok (.iconst 0, 1) := by decide +kernel
theorem dX4_overlap_80 : decode cX4_overlap 80 = .ok (.istore_n 3, 1) := by decide +kernel
theorem dX4_overlap_81 : decode cX4_overlap 81 = .ok (.iinc 4 1, 3) := by decide +kernel
theorem dX4_overlap_84 : decode cX4_overlap 84 = .ok (.goto (-79), 3) := by decide +kernel
theorem dX4_overlap_87 : decode cX4_overlap 87 = .ok (.iload_n 3, 1) := by decide +kernel
theorem dX4_overlap_88 : decode cX4_overlap 88 = .ok (.ireturn, 1) := by decide +kernel
theorem dX4_through_0 : decode cX4_through 0 = .ok (.aload_n 0, 1) := by decide +kernel
theorem dX4_through_1 : decode cX4_through 1 = .ok (.getfield 20, 3) := by decide +kernel
theorem dX4_through_4 : decode cX4_through 4 = .ok (.iload_n 1, 1) := by decide +kernel
theorem dX4_through_5 : decode cX4_through 5 = .ok (.iaload, 1) := by decide +kernel
theorem dX4_through_6 : decode cX4_through 6 = .ok (.aload_n 0, 1) := by decide +kernel
theorem dX4_through_7 : decode cX4_through 7 = .ok (.getfield 24, 3) := by decide +kernel
theorem dX4_through_10 : decode cX4_through 10 = .ok (.iload_n 2, 1) := by decide +kernel
theorem dX4_through_11 : decode cX4_through 11 = .ok (.iaload, 1) := by decide +kernel
theorem dX4_through_12 : decode cX4_through 12 = .ok (.iand, 1) := by decide +kernel
theorem dX4_through_13 : decode cX4_through 13 = .ok (.ifCond .eq 23, 3) := by decide +kernel
theorem dX4_through_16 : decode cX4_through 16 = .ok (.aload_n 0, 1) := by decide +kernel
theorem dX4_through_17 : decode cX4_through 17 = .ok (.getfield 20, 3) := by decide +kernel
theorem dX4_through_20 : decode cX4_through 20 = .ok (.iload_n 2, 1) := by decide +kernel
theorem dX4_through_21 : decode cX4_through 21 = .ok (.iaload, 1) := by decide +kernel
theorem dX4_through_22 : decode cX4_through 22 = .ok (.aload_n 0, 1) := by decide +kernel
theorem dX4_through_23 : decode cX4_through 23 = .ok (.getfield 24, 3) := by decide +kernel
theorem dX4_through_26 : decode cX4_through 26 = .ok (.iload_n 1, 1) := by decide +kernel
theorem dX4_through_27 : decode cX4_through 27 = .ok (.iaload, 1) := by decide +kernel
theorem dX4_through_28 : decode cX4_through 28 = .ok (.iand, 1) := by decide +kernel
theorem dX4_through_29 : decode cX4_through 29 = .ok (.ifCond .eq 7, 3) := by decide +kernel
theorem dX4_through_32 : decode cX4_through 32 = .ok (.iconst 1, 1) := by decide +kernel
theorem dX4_through_33 : decode cX4_through 33 = .ok (.goto 4, 3) := by decide +kernel
theorem dX4_through_36 : decode cX4_through 36 = .ok (.iconst 0, 1) := by decide +kernel
theorem dX4_through_37 : decode cX4_through 37 = .ok (.ireturn, 1) := by decide +kernel
theorem dX4_bits_0 : decode cX4_bits 0 = .ok (.iconst 0, 1) := by decide +kernel
theorem dX4_bits_1 : decode cX4_bits 1 = .ok (.istore_n 1, 1) := by decide +kernel
theorem dX4_bits_2 : decode cX4_bits 2 = .ok (.iconst 0, 1) := by decide +kernel
theorem dX4_bits_3 : decode cX4_bits 3 = .ok (.istore_n 2, 1) := by decide +kernel
theorem dX4_bits_4 : decode cX4_bits 4 = .ok (.iload_n 2, 1) := by decide +kernel
theorem dX4_bits_5 : decode cX4_bits 5 = .ok (.sipush 8192, 3) := by decide +kernel
theorem dX4_bits_8 : decode cX4_bits 8 = .ok (.if_icmp .ge 39, 3) := by decide +kernel
theorem dX4_bits_11 : decode cX4_bits 11 = .ok (.iconst 0, 1) := by decide +kernel
theorem dX4_bits_12 : decode cX4_bits 12 = .ok (.istore_n 3, 1) := by decide +kernel
theorem dX4_bits_13 : decode cX4_bits 13 = .ok (.iload_n 3, 1) := by decide +kernel
theorem dX4_bits_14 : decode cX4_bits 14 = .ok (.bipush 32, 2) := by decide +kernel
theorem dX4_bits_16 : decode cX4_bits 16 = .ok (.if_icmp .ge 25, 3) := by decide +kernel
theorem dX4_bits_19 : decode cX4_bits 19 = .ok (.aload_n 0, 1) := by decide +kernel
theorem dX4_bits_20 : decode cX4_bits 20 = .ok (.iload_n 2, 1) := by decide +kernel
theorem dX4_bits_21 : decode cX4_bits 21 = .ok (.iaload, 1) := by decide +kernel
theorem dX4_bits_22 : decode cX4_bits 22 = .ok (.ifCond .eq 19, 3) := by decide +kernel
theorem dX4_bits_25 : decode cX4_bits 25 = .ok (.iload_n 1, 1) := by decide +kernel
theorem dX4_bits_26 : decode cX4_bits 26 = .ok (.aload_n 0, 1) := by decide +kernel
theorem dX4_bits_27 : decode cX4_bits 27 = .ok (.iload_n 2, 1) := by decide +kernel
theorem dX4_bits_28 : decode cX4_bits 28 = .ok (.iaload, 1) := by decide +kernel
theorem dX4_bits_29 : decode cX4_bits 29 = .ok (.iload_n 3, 1) := by decide +kernel
theorem dX4_bits_30 : decode cX4_bits 30 = .ok (.ishr, 1) := by decide +kernel
theorem dX4_bits_31 : decode cX4_bits 31 = .ok (.iconst 1, 1) := by decide +kernel
theorem dX4_bits_32 : decode cX4_bits 32 = .ok (.iand, 1) := by decide +kernel
theorem dX4_bits_33 : decode cX4_bits 33 = .ok (.iadd, 1) := by decide +kernel
theorem dX4_bits_34 : decode cX4_bits 34 = .ok (.istore_n 1, 1) := by decide +kernel
theorem dX4_bits_35 : decode cX4_bits 35 = .ok (.iinc 3 1, 3) := by decide +kernel
theorem dX4_bits_38 : decode cX4_bits 38 = .ok (.goto (-25), 3) := by decide +kernel
theorem dX4_bits_41 : decode cX4_bits 41 = .ok (.iinc 2 1, 3) := by decide +kernel
theorem dX4_bits_44 : decode cX4_bits 44 = .ok (.goto (-40), 3) := by decide +kernel
theorem dX4_bits_47 : decode cX4_bits 47 = .ok (.iload_n 1, 1) := by decide +kernel
theorem dX4_bits_48 : decode cX4_bits 48 = .ok (.ireturn, 1) := by decide +kernel
theorem dX4_look_0 : decode cX4_look 0 = .ok (.iconst 0, 1) := by decide +kernel
theorem dX4_look_1 : decode cX4_look 1 = .ok (.istore_n 1, 1) := by decide +kernel
theorem dX4_look_2 : decode cX4_look 2 = .ok (.iload_n 1, 1) := by decide +kernel
theorem dX4_look_3 : decode cX4_look 3 = .ok (.sipush 8192, 3) := by decide +kernel
theorem dX4_look_6 : decode cX4_look 6 = .ok (.if_icmp .ge 16, 3) := by decide +kernel
theorem dX4_look_9 : decode cX4_look 9 = .ok (.aload_n 0, 1) := by decide +kernel
theorem dX4_look_10 : decode cX4_look 10 = .ok (.getfield 36, 3) := by decide +kernel
theorem dX4_look_13 : decode cX4_look 13 = .ok (.iload_n 1, 1) := by decide +kernel
theorem dX4_look_14 : decode cX4_look 14 = .ok (.iconst 0, 1) := by decide +kernel
theorem dX4_look_15 : decode cX4_look 15 = .ok (.iastore, 1) := by decide +kernel
theorem dX4_look_16 : decode cX4_look 16 = .ok (.iinc 1 1, 3) := by decide +kernel
theorem dX4_look_19 : decode cX4_look 19 = .ok (.goto (-17), 3) := by decide +kernel
theorem dX4_look_22 : decode cX4_look 22 = .ok (.iconst 0, 1) := by decide +kernel
theorem dX4_look_23 : decode cX4_look 23 = .ok (.istore_n 1, 1) := by decide +kernel
theorem dX4_look_24 : decode cX4_look 24 = .ok (.iload_n 1, 1) := by decide +kernel
theorem dX4_look_25 : decode cX4_look 25 = .ok (.sipush 512, 3) := by decide +kernel
theorem dX4_look_28 : decode cX4_look 28 = .ok (.if_icmp .ge 97, 3) := by decide +kernel
theorem dX4_look_31 : decode cX4_look 31 = .ok (.iload_n 1, 1) := by decide +kernel
theorem dX4_look_32 : decode cX4_look 32 = .ok (.iconst 1, 1) := by decide +kernel
theorem dX4_look_33 : decode cX4_look 33 = .ok (.iadd, 1) := by decide +kernel
theorem dX4_look_34 : decode cX4_look 34 = .ok (.istore_n 2, 1) := by decide +kernel
theorem dX4_look_35 : decode cX4_look 35 = .ok (.iload_n 2, 1) := by decide +kernel
theorem dX4_look_36 : decode cX4_look 36 = .ok (.sipush 512, 3) := by decide +kernel
theorem dX4_look_39 : decode cX4_look 39 = .ok (.if_icmp .ge 80, 3) := by decide +kernel
theorem dX4_look_42 : decode cX4_look 42 = .ok (.aload_n 0, 1) := by decide +kernel
theorem dX4_look_43 : decode cX4_look 43 = .ok (.getfield 13, 3) := by decide +kernel
theorem dX4_look_46 : decode cX4_look 46 = .ok (.iload_n 1, 1) := by decide +kernel
theorem dX4_look_47 : decode cX4_look 47 = .ok (.baload, 1) := by decide +kernel
theorem dX4_look_48 : decode cX4_look 48 = .ok (.ifCond .eq 71, 3) := by decide +kernel
theorem dX4_look_51 : decode cX4_look 51 = .ok (.aload_n 0, 1) := by decide +kernel
theorem dX4_look_52 : decode cX4_look 52 = .ok (.getfield 13, 3) := by decide +kernel
theorem dX4_look_55 : decode cX4_look 55 = .ok (.iload_n 2, 1) := by decide +kernel
theorem dX4_look_56 : decode cX4_look 56 = .ok (.baload, 1) := by decide +kernel
theorem dX4_look_57 : decode cX4_look 57 = .ok (.ifCond .eq 56, 3) := by decide +kernel
theorem dX4_look_60 : decode cX4_look 60 = .ok (.aload_n 0, 1) := by decide +kernel
theorem dX4_look_61 : decode cX4_look 61 = .ok (.iload_n 1, 1) := by decide +kernel
theorem dX4_look_62 : decode cX4_look 62 = .ok (.iload_n 2, 1) := by decide +kernel
theorem dX4_look_63 : decode cX4_look 63 = .ok (.invokevirtual 127, 3) := by decide +kernel
theorem dX4_look_66 : decode cX4_look 66 = .ok (.ifCond .eq 47, 3) := by decide +kernel
theorem dX4_look_69 : decode cX4_look 69 = .ok (.aload_n 0, 1) := by decide +kernel
theorem dX4_look_70 : decode cX4_look 70 = .ok (.iload_n 1, 1) := by decide +kernel
theorem dX4_look_71 : decode cX4_look 71 = .ok (.iload_n 2, 1) := by decide +kernel
theorem dX4_look_72 : decode cX4_look 72 = .ok (.invokevirtual 130, 3) := by decide +kernel
theorem dX4_look_75 : decode cX4_look 75 = .ok (.ifCond .eq 38, 3) := by decide +kernel
theorem dX4_look_78 : decode cX4_look 78 = .ok (.aload_n 0, 1) := by decide +kernel
theorem dX4_look_79 : decode cX4_look 79 = .ok (.getfield 36, 3) := by decide +kernel
theorem dX4_look_82 : decode cX4_look 82 = .ok (.bipush 16, 2) := by decide +kernel
theorem dX4_look_84 : decode cX4_look 84 = .ok (.iload_n 1, 1) := by decide +kernel
theorem dX4_look_85 : decode cX4_look 85 = .ok (.imul, 1) := by decide +kernel
theorem dX4_look_86 : decode cX4_look 86 = .ok (.iload_n 2, 1) := by decide +kernel
theorem dX4_look_87 : decode cX4_look 87 = .ok (.bipush 32, 2) := by decide +kernel
theorem dX4_look_89 : decode cX4_look 89 = .ok (.idiv, 1) := by decide +kernel
theorem dX4_look_90 : decode cX4_look 90 = .ok (.iadd, 1) := by decide +kernel
theorem dX4_look_91 : decode cX4_look 91 = .ok (.aload_n 0, 1) := by decide +kernel
theorem dX4_look_92 : decode cX4_look 92 = .ok (.getfield 36, 3) := by decide +kernel
theorem dX4_look_95 : decode cX4_look 95 = .ok (.bipush 16, 2) := by decide +kernel
theorem dX4_look_97 : decode cX4_look 97 = .ok (.iload_n 1, 1) := by decide +kernel
theorem dX4_look_98 : decode cX4_look 98 = .ok (.imul, 1) := by decide +kernel
theorem dX4_look_99 : decode cX4_look 99 = .ok (.iload_n 2, 1) := by decide +kernel
theorem dX4_look_100 : decode cX4_look 100 = .ok (.bipush 32, 2) := by decide +kernel
theorem dX4_look_102 : decode cX4_look 102 = .ok (.idiv, 1) := by decide +kernel
theorem dX4_look_103 : decode cX4_look 103 = .ok (.iadd, 1) := by decide +kernel
theorem dX4_look_104 : decode cX4_look 104 = .ok (.iaload, 1) := by decide +kernel
theorem dX4_look_105 : decode cX4_look 105 = .ok (.iconst 1, 1) := by decide +kernel
theorem dX4_look_106 : decode cX4_look 106 = .ok (.iload_n 2, 1) := by decide +kernel
theorem dX4_look_107 : decode cX4_look 107 = .ok (.bipush 32, 2) := by decide +kernel
theorem dX4_look_109 : decode cX4_look 109 = .ok (.irem, 1) := by decide +kernel
theorem dX4_look_110 : decode cX4_look 110 = .ok (.ishl, 1) := by decide +kernel
theorem dX4_look_111 : decode cX4_look 111 = .ok (.ior, 1) := by decide +kernel
theorem dX4_look_112 : decode cX4_look 112 = .ok (.iastore, 1) := by decide +kernel
theorem dX4_look_113 : decode cX4_look 113 = .ok (.iinc 2 1, 3) := by decide +kernel
theorem dX4_look_116 : decode cX4_look 116 = .ok (.goto (-81), 3) := by decide +kernel
theorem dX4_look_119 : decode cX4_look 119 = .ok (.iinc 1 1, 3) := by decide +kernel
theorem dX4_look_122 : decode cX4_look 122 = .ok (.goto (-98), 3) := by decide +kernel
theorem dX4_look_125 : decode cX4_look 125 = .ok (.return_, 1) := by decide +kernel
theorem dX4_update_0 : decode cX4_update 0 = .ok (.aload_n 0, 1) := by decide +kernel
theorem dX4_update_1 : decode cX4_update 1 = .ok (.invokevirtual 133, 3) := by decide +kernel
theorem dX4_update_4 : decode cX4_update 4 = .ok (.aload_n 0, 1) := by decide +kernel
theorem dX4_update_5 : decode cX4_update 5 = .ok (.getfield 36, 3) := by decide +kernel
theorem dX4_update_8 : decode cX4_update 8 = .ok (.invokestatic 136, 3) := by decide +kernel
theorem dX4_update_11 : decode cX4_update 11 = .ok (.istore_n 1, 1) := by decide +kernel
theorem dX4_update_12 : decode cX4_update 12 = .ok (.aload_n 0, 1) := by decide +kernel
theorem dX4_update_13 : decode cX4_update 13 = .ok (.iload_n 1, 1) := by decide +kernel
theorem dX4_update_14 : decode cX4_update 14 = .ok (.sipush 16384, 3) := by decide +kernel
theorem dX4_update_17 : decode cX4_update 17 = .ok (.if_icmp .gt 7, 3) := by decide +kernel
theorem dX4_update_20 : decode cX4_update 20 = .ok (.iconst 1, 1) := by decide +kernel
theorem dX4_update_21 : decode cX4_update 21 = .ok (.goto 4, 3) := by decide +kernel
theorem dX4_update_24 : decode cX4_update 24 = .ok (.iconst 0, 1) := by decide +kernel
theorem dX4_update_25 : decode cX4_update 25 = .ok (.iconst 1, 1) := by decide +kernel
theorem dX4_update_26 : decode cX4_update 26 = .ok (.invokevirtual 66, 3) := by decide +kernel
theorem dX4_update_29 : decode cX4_update 29 = .ok (.ifCond .ne 5, 3) := by decide +kernel
theorem dX4_update_32 : decode cX4_update 32 = .ok (.iconst 0, 1) := by decide +kernel
theorem dX4_update_33 : decode cX4_update 33 = .ok (.ireturn, 1) := by decide +kernel
theorem dX4_update_34 : decode cX4_update 34 = .ok (.iconst 0, 1) := by decide +kernel
theorem dX4_update_35 : decode cX4_update 35 = .ok (.istore_n 2, 1) := by decide +kernel
theorem dX4_update_36 : decode cX4_update 36 = .ok (.iload_n 2, 1) := by decide +kernel
theorem dX4_update_37 : decode cX4_update 37 = .ok (.sipush 8192, 3) := by decide +kernel
theorem dX4_update_40 : decode cX4_update 40 = .ok (.if_icmp .ge 63, 3) := by decide +kernel
theorem dX4_update_43 : decode cX4_update 43 = .ok (.aload_n 0, 1) := by decide +kernel
theorem dX4_update_44 : decode cX4_update 44 = .ok (.getfield 39, 3) := by decide +kernel
theorem dX4_update_47 : decode cX4_update 47 = .ok (.iload_n 2, 1) := by decide +kernel
theorem dX4_update_48 : decode cX4_update 48 = .ok (.aload_n 0, 1) := by decide +kernel
theorem dX4_update_49 : decode cX4_update 49 = .ok (.getfield 36, 3) := by decide +kernel
theorem dX4_update_52 : decode cX4_update 52 = .ok (.iload_n 2, 1) := by decide +kernel
theorem dX4_update_53 : decode cX4_update 53 = .ok (.iaload, 1) := by decide +kernel
theorem dX4_update_54 : decode cX4_update 54 = .ok (.aload_n 0, 1) := by decide +kernel
theorem dX4_update_55 : decode cX4_update 55 = .ok (.getfield 33, 3) := by decide +kernel
theorem dX4_update_58 : decode cX4_update 58 = .ok (.iload_n 2, 1) := by decide +kernel
theorem dX4_update_59 : decode cX4_update 59 = .ok (.iaload, 1) := by decide +kernel
theorem dX4_update_60 : decode cX4_update 60 = .ok (.iconst (-1), 1) := by decide +kernel
theorem dX4_update_61 : decode cX4_update 61 = .ok (.ixor, 1) := by decide +kernel
theorem dX4_update_62 : decode cX4_update 62 = .ok (.iand, 1) := by decide +kernel
theorem dX4_update_63 : decode cX4_update 63 = .ok (.iastore, 1) := by decide +kernel
theorem dX4_update_64 : decode cX4_update 64 = .ok (.aload_n 0, 1) := by decide +kernel
theorem dX4_update_65 : decode cX4_update 65 = .ok (.getfield 42, 3) := by decide +kernel
theorem dX4_update_68 : decode cX4_update 68 = .ok (.iload_n 2, 1) := by decide +kernel
theorem dX4_update_69 : decode cX4_update 69 = .ok (.aload_n 0, 1) := by decide +kernel
theorem dX4_update_70 : decode cX4_update 70 = .ok (.getfield 33, 3) := by decide +kernel
theorem dX4_update_73 : decode cX4_update 73 = .ok (.iload_n 2, 1) := by decide +kernel
theorem dX4_update_74 : decode cX4_update 74 = .ok (.iaload, 1) := by decide +kernel
theorem dX4_update_75 : decode cX4_update 75 = .ok (.aload_n 0, 1) := by decide +kernel
theorem dX4_update_76 : decode cX4_update 76 = .ok (.getfield 36, 3) := by decide +kernel
theorem dX4_update_79 : decode cX4_update 79 = .ok (.iload_n 2, 1) := by decide +kernel
theorem dX4_update_80 : decode cX4_update 80 = .ok (.iaload, 1) := by decide +kernel
theorem dX4_update_81 : decode cX4_update 81 = .ok (.iconst (-1), 1) := by decide +kernel
theorem dX4_update_82 : decode cX4_update 82 = .ok (.ixor, 1) := by decide +kernel
theorem dX4_update_83 : decode cX4_update 83 = .ok (.iand, 1) := by decide +kernel
theorem dX4_update_84 : decode cX4_update 84 = .ok (.iastore, 1) := by decide +kernel
theorem dX4_update_85 : decode cX4_update 85 = .ok (.aload_n 0, 1) := by decide +kernel
theorem dX4_update_86 : decode cX4_update 86 = .ok (.getfield 33, 3) := by decide +kernel
theorem dX4_update_89 : decode cX4_update 89 = .ok (.iload_n 2, 1) := by decide +kernel
theorem dX4_update_90 : decode cX4_update 90 = .ok (.aload_n 0, 1) := by decide +kernel
theorem dX4_update_91 : decode cX4_update 91 = .ok (.getfield 36, 3) := by decide +kernel
theorem dX4_update_94 : decode cX4_update 94 = .ok (.iload_n 2, 1) := by decide +kernel
theorem dX4_update_95 : decode cX4_update 95 = .ok (.iaload, 1) := by decide +kernel
theorem dX4_update_96 : decode cX4_update 96 = .ok (.iastore, 1) := by decide +kernel
theorem dX4_update_97 : decode cX4_update 97 = .ok (.iinc 2 1, 3) := by decide +kernel
theorem dX4_update_100 : decode cX4_update 100 = .ok (.goto (-64), 3) := by decide +kernel
theorem dX4_update_103 : decode cX4_update 103 = .ok (.iconst 0, 1) := by decide +kernel
theorem dX4_update_104 : decode cX4_update 104 = .ok (.istore_n 2, 1) := by decide +kernel
theorem dX4_update_105 : decode cX4_update 105 = .ok (.iload_n 2, 1) := by decide +kernel
theorem dX4_update_106 : decode cX4_update 106 = .ok (.sipush 512, 3) := by decide +kernel
theorem dX4_update_109 : decode cX4_update 109 = .ok (.if_icmp .ge 16, 3) := by decide +kernel
theorem dX4_update_112 : decode cX4_update 112 = .ok (.aload_n 0, 1) := by decide +kernel
theorem dX4_update_113 : decode cX4_update 113 = .ok (.getfield 17, 3) := by decide +kernel
theorem dX4_update_116 : decode cX4_update 116 = .ok (.iload_n 2, 1) := by decide +kernel
theorem dX4_update_117 : decode cX4_update 117 = .ok (.iconst 0, 1) := by decide +kernel
theorem dX4_update_118 : decode cX4_update 118 = .ok (.bastore, 1) := by decide +kernel
theorem dX4_update_119 : decode cX4_update 119 = .ok (.iinc 2 1, 3) := by decide +kernel
theorem dX4_update_122 : decode cX4_update 122 = .ok (.goto (-17), 3) := by decide +kernel
theorem dX4_update_125 : decode cX4_update 125 = .ok (.aload_n 0, 1) := by decide +kernel
theorem dX4_update_126 : decode cX4_update 126 = .ok (.dup, 1) := by decide +kernel
theorem dX4_update_127 : decode cX4_update 127 = .ok (.getfield 140, 3) := by decide +kernel
theorem dX4_update_130 : decode cX4_update 130 = .ok (.iconst 1, 1) := by decide +kernel
theorem dX4_update_131 : decode cX4_update 131 = .ok (.iadd, 1) := by decide +kernel
theorem dX4_update_132 : decode cX4_update 132 = .ok (.putfield 140, 3) := by decide +kernel
theorem dX4_update_135 : decode cX4_update 135 = .ok (.iload_n 1, 1) := by decide +kernel
theorem dX4_update_136 : decode cX4_update 136 = .ok (.ireturn, 1) := by decide +kernel
theorem dX4_nth_0 : decode cX4_nth 0 = .ok (.iload_n 1, 1) := by decide +kernel
theorem dX4_nth_1 : decode cX4_nth 1 = .ok (.istore_n 2, 1) := by decide +kernel
theorem dX4_nth_2 : decode cX4_nth 2 = .ok (.iconst 0, 1) := by decide +kernel
theorem dX4_nth_3 : decode cX4_nth 3 = .ok (.istore_n 3, 1) := by decide +kernel
theorem dX4_nth_4 : decode cX4_nth 4 = .ok (.iload_n 3, 1) := by decide +kernel
theorem dX4_nth_5 : decode cX4_nth 5 = .ok (.sipush 8192, 3) := by decide +kernel
theorem dX4_nth_8 : decode cX4_nth 8 = .ok (.if_icmp .ge 70, 3) := by decide +kernel
theorem dX4_nth_11 : decode cX4_nth 11 = .ok (.iload_n 2, 1) := by decide +kernel
theorem dX4_nth_12 : decode cX4_nth 12 = .ok (.ifCond .lt 66, 3) := by decide +kernel
theorem dX4_nth_15 : decode cX4_nth 15 = .ok (.iconst 0, 1) := by decide +kernel
theorem dX4_nth_16 : decode cX4_nth 16 = .ok (.istore 4, 2) := by decide +kernel
theorem dX4_nth_18 : decode cX4_nth 18 = .ok (.iload 4, 2) := by decide +kernel
theorem dX4_nth_20 : decode cX4_nth 20 = .ok (.bipush 32, 2) := by decide +kernel
theorem dX4_nth_22 : decode cX4_nth 22 = .ok (.if_icmp .ge 50, 3) := by decide +kernel
theorem dX4_nth_25 : decode cX4_nth 25 = .ok (.aload_n 0, 1) := by decide +kernel
theorem dX4_nth_26 : decode cX4_nth 26 = .ok (.iload_n 3, 1) := by decide +kernel
theorem dX4_nth_27 : decode cX4_nth 27 = .ok (.iaload, 1) := by decide +kernel
theorem dX4_nth_28 : decode cX4_nth 28 = .ok (.ifCond .eq 44, 3) := by decide +kernel
theorem dX4_nth_31 : decode cX4_nth 31 = .ok (.iload_n 2, 1) := by decide +kernel
theorem dX4_nth_32 : decode cX4_nth 32 = .ok (.aload_n 0, 1) := by decide +kernel
theorem dX4_nth_33 : decode cX4_nth 33 = .ok (.iload_n 3, 1) := by decide +kernel
theorem dX4_nth_34 : decode cX4_nth 34 = .ok (.iaload, 1) := by decide +kernel
theorem dX4_nth_35 : decode cX4_nth 35 = .ok (.iload 4, 2) := by decide +kernel
theorem dX4_nth_37 : decode cX4_nth 37 = .ok (.ishr, 1) := by decide +kernel
theorem dX4_nth_38 : decode cX4_nth 38 = .ok (.iconst 1, 1) := by decide +kernel
theorem dX4_nth_39 : decode cX4_nth 39 = .ok (.iand, 1) := by decide +kernel
theorem dX4_nth_40 : decode cX4_nth 40 = .ok (.isub, 1) := by decide +kernel
theorem dX4_nth_41 : decode cX4_nth 41 = .ok (.istore_n 2, 1) := by decide +kernel
theorem dX4_nth_42 : decode cX4_nth 42 = .ok (.iload_n 2, 1) := by decide +kernel
theorem dX4_nth_43 : decode cX4_nth 43 = .ok (.ifCond .ge 23, 3) := by decide +kernel
theorem dX4_nth_46 : decode cX4_nth 46 = .ok (.iload_n 3, 1) := by decide +kernel
theorem dX4_nth_47 : decode cX4_nth 47 = .ok (.bipush 16, 2) := by decide +kernel
theorem dX4_nth_49 : decode cX4_nth 49 = .ok (.idiv, 1) := by decide +kernel
theorem dX4_nth_50 : decode cX4_nth 50 = .ok (.sipush 512, 3) := by decide +kernel
theorem dX4_nth_53 : decode cX4_nth 53 = .ok (.imul, 1) := by decide +kernel
theorem dX4_nth_54 : decode cX4_nth 54 = .ok (.iload_n 3, 1) := by decide +kernel
theorem dX4_nth_55 : decode cX4_nth 55 = .ok (.bipush 16, 2) := by decide +kernel
theorem dX4_nth_57 : decode cX4_nth 57 = .ok (.irem, 1) := by decide +kernel
theorem dX4_nth_58 : decode cX4_nth 58 = .ok (.bipush 32, 2) := by decide +kernel
theorem dX4_nth_60 : decode cX4_nth 60 = .ok (.imul, 1) := by decide +kernel
theorem dX4_nth_61 : decode cX4_nth 61 = .ok (.iadd, 1) := by decide +kernel
theorem dX4_nth_62 : decode cX4_nth 62 = .ok (.iload 4, 2) := by decide +kernel
theorem dX4_nth_64 : decode cX4_nth 64 = .ok (.iadd, 1) := by decide +kernel
theorem dX4_nth_65 : decode cX4_nth 65 = .ok (.ireturn, 1) := by decide +kernel
theorem dX4_nth_66 : decode cX4_nth 66 = .ok (.iinc 4 1, 3) := by decide +kernel
theorem dX4_nth_69 : decode cX4_nth 69 = .ok (.goto (-51), 3) := by decide +kernel
theorem dX4_nth_72 : decode cX4_nth 72 = .ok (.iinc 3 1, 3) := by decide +kernel
theorem dX4_nth_75 : decode cX4_nth 75 = .ok (.goto (-71), 3) := by decide +kernel
theorem dX4_nth_78 : decode cX4_nth 78 = .ok (.iconst (-1), 1) := by decide +kernel
theorem dX4_nth_79 : decode cX4_nth 79 = .ok (.ireturn, 1) := by decide +kernel
theorem dX4_pair_0 : decode cX4_pair 0 = .ok (.iload_n 2, 1) := by decide +kernel
theorem dX4_pair_1 : decode cX4_pair 1 = .ok (.ifCond .ge 7, 3) := by decide +kernel
theorem dX4_pair_4 : decode cX4_pair 4 = .ok (.iconst (-1), 1) := by decide +kernel
theorem dX4_pair_5 : decode cX4_pair 5 = .ok (.goto 51, 3) := by decide +kernel
theorem dX4_pair_8 : decode cX4_pair 8 = .ok (.iload_n 1, 1) := by decide +kernel
theorem dX4_pair_9 : decode cX4_pair 9 = .ok (.ifCond .ne 14, 3) := by decide +kernel
theorem dX4_pair_12 : decode cX4_pair 12 = .ok (.aload_n 0, 1) := by decide +kernel
theorem dX4_pair_13 : decode cX4_pair 13 = .ok (.getfield 33, 3) := by decide +kernel
theorem dX4_pair_16 : decode cX4_pair 16 = .ok (.iload_n 2, 1) := by decide +kernel
theorem dX4_pair_17 : decode cX4_pair 17 = .ok (.invokestatic 143, 3) := by decide +kernel
theorem dX4_pair_20 : decode cX4_pair 20 = .ok (.goto 36, 3) := by decide +kernel
theorem dX4_pair_23 : decode cX4_pair 23 = .ok (.iload_n 1, 1) := by decide +kernel
theorem dX4_pair_24 : decode cX4_pair 24 = .ok (.iconst 1, 1) := by decide +kernel
theorem dX4_pair_25 : decode cX4_pair 25 = .ok (.if_icmp .ne 14, 3) := by decide +kernel
theorem dX4_pair_28 : decode cX4_pair 28 = .ok (.aload_n 0, 1) := by decide +kernel
theorem dX4_pair_29 : decode cX4_pair 29 = .ok (.getfield 39, 3) := by decide +kernel
theorem dX4_pair_32 : decode cX4_pair 32 = .ok (.iload_n 2, 1) := by decide +kernel
theorem dX4_pair_33 : decode cX4_pair 33 = .ok (.invokestatic 143, 3) := by decide +kernel
theorem dX4_pair_36 : decode cX4_pair 36 = .ok (.goto 20, 3) := by decide +kernel
theorem dX4_pair_39 : decode cX4_pair 39 = .ok (.iload_n 1, 1) := by decide +kernel
theorem dX4_pair_40 : decode cX4_pair 40 = .ok (.iconst 2, 1) := by decide +kernel
theorem dX4_pair_41 : decode cX4_pair 41 = .ok (.if_icmp .ne 14, 3) := by decide +kernel
theorem dX4_pair_44 : decode cX4_pair 44 = .ok (.aload_n 0, 1) := by decide +kernel
theorem dX4_pair_45 : decode cX4_pair 45 = .ok (.getfield 42, 3) := by decide +kernel
theorem dX4_pair_48 : decode cX4_pair 48 = .ok (.iload_n 2, 1) := by decide +kernel
theorem dX4_pair_49 : decode cX4_pair 49 = .ok (.invokestatic 143, 3) := by decide +kernel
theorem dX4_pair_52 : decode cX4_pair 52 = .ok (.goto 4, 3) := by decide +kernel
theorem dX4_pair_55 : decode cX4_pair 55 = .ok (.iconst (-1), 1) := by decide +kernel
theorem dX4_pair_56 : decode cX4_pair 56 = .ok (.istore_n 3, 1) := by decide +kernel
theorem dX4_pair_57 : decode cX4_pair 57 = .ok (.aload_n 0, 1) := by decide +kernel
theorem dX4_pair_58 : decode cX4_pair 58 = .ok (.iload_n 3, 1) := by decide +kernel
theorem dX4_pair_59 : decode cX4_pair 59 = .ok (.ifCond .lt 7, 3) := by decide +kernel
theorem dX4_pair_62 : decode cX4_pair 62 = .ok (.iconst 1, 1) := by decide +kernel
theorem dX4_pair_63 : decode cX4_pair 63 = .ok (.goto 4, 3) := by decide +kernel
theorem dX4_pair_66 : decode cX4_pair 66 = .ok (.iconst 0, 1) := by decide +kernel
theorem dX4_pair_67 : decode cX4_pair 67 = .ok (.iconst 1, 1) := by decide +kernel
theorem dX4_pair_68 : decode cX4_pair 68 = .ok (.invokevirtual 66, 3) := by decide +kernel
theorem dX4_pair_71 : decode cX4_pair 71 = .ok (.ifCond .eq 7, 3) := by decide +kernel
theorem dX4_pair_74 : decode cX4_pair 74 = .ok (.iload_n 3, 1) := by decide +kernel
theorem dX4_pair_75 : decode cX4_pair 75 = .ok (.goto 4, 3) := by decide +kernel
theorem dX4_pair_78 : decode cX4_pair 78 = .ok (.iconst 0, 1) := by decide +kernel
theorem dX4_pair_79 : decode cX4_pair 79 = .ok (.ireturn, 1) := by decide +kernel
theorem dX4_paired_0 : decode cX4_paired 0 = .ok (.aload_n 0, 1) := by decide +kernel
theorem dX4_paired_1 : decode cX4_paired 1 = .ok (.aload_n 0, 1) := by decide +kernel
theorem dX4_paired_2 : decode cX4_paired 2 = .ok (.iload_n 1, 1) := by decide +kernel
theorem dX4_paired_3 : decode cX4_paired 3 = .ok (.invokevirtual 107, 3) := by decide +kernel
theorem dX4_paired_6 : decode cX4_paired 6 = .ok (.ifCond .eq 15, 3) := by decide +kernel
theorem dX4_paired_9 : decode cX4_paired 9 = .ok (.aload_n 0, 1) := by decide +kernel
theorem dX4_paired_10 : decode cX4_paired 10 = .ok (.iload_n 2, 1) := by decide +kernel
theorem dX4_paired_11 : decode cX4_paired 11 = .ok (.invokevirtual 107, 3) := by decide +kernel
theorem dX4_paired_14 : decode cX4_paired 14 = .ok (.ifCond .eq 7, 3) := by decide +kernel
theorem dX4_paired_17 : decode cX4_paired 17 = .ok (.iconst 1, 1) := by decide +kernel
theorem dX4_paired_18 : decode cX4_paired 18 = .ok (.goto 4, 3) := by decide +kernel
theorem dX4_paired_21 : decode cX4_paired 21 = .ok (.iconst 0, 1) := by decide +kernel
theorem dX4_paired_22 : decode cX4_paired 22 = .ok (.iconst 1, 1) := by decide +kernel
theorem dX4_paired_23 : decode cX4_paired 23 = .ok (.invokevirtual 66, 3) := by decide +kernel
theorem dX4_paired_26 : decode cX4_paired 26 = .ok (.ifCond .eq 21, 3) := by decide +kernel
theorem dX4_paired_29 : decode cX4_paired 29 = .ok (.iload_n 1, 1) := by decide +kernel
theorem dX4_paired_30 : decode cX4_paired 30 = .ok (.iload_n 2, 1) := by decide +kernel
theorem dX4_paired_31 : decode cX4_paired 31 = .ok (.if_icmp .eq 16, 3) := by decide +kernel
theorem dX4_paired_34 : decode cX4_paired 34 = .ok (.aload_n 0, 1) := by decide +kernel
theorem dX4_paired_35 : decode cX4_paired 35 = .ok (.iload_n 1, 1) := by decide +kernel
theorem dX4_paired_36 : decode cX4_paired 36 = .ok (.iload_n 2, 1) := by decide +kernel
theorem dX4_paired_37 : decode cX4_paired 37 = .ok (.invokevirtual 119, 3) := by decide +kernel
theorem dX4_paired_40 : decode cX4_paired 40 = .ok (.ifCond .eq 7, 3) := by decide +kernel
theorem dX4_paired_43 : decode cX4_paired 43 = .ok (.iconst 1, 1) := by decide +kernel
theorem dX4_paired_44 : decode cX4_paired 44 = .ok (.goto 4, 3) := by decide +kernel
theorem dX4_paired_47 : decode cX4_paired 47 = .ok (.iconst 0, 1) := by decide +kernel
theorem dX4_paired_48 : decode cX4_paired 48 = .ok (.ireturn, 1) := by decide +kernel
theorem dX4_overlapping_0 : decode cX4_overlapping 0 = .ok (.aload_n 0, 1) := by decide +kernel
theorem dX4_overlapping_1 : decode cX4_overlapping 1 = .ok (.aload_n 0, 1) := by decide +kernel
theorem dX4_overlapping_2 : decode cX4_overlapping 2 = .ok (.invokevirtual 86, 3) := by decide +kernel
theorem dX4_overlapping_5 : decode cX4_overlapping 5 = .ok (.iconst 1, 1) := by decide +kernel
theorem dX4_overlapping_6 : decode cX4_overlapping 6 = .ok (.invokevirtual 66, 3) := by decide +kernel
theorem dX4_overlapping_9 : decode cX4_overlapping 9 = .ok (.ifCond .ne 5, 3) := by decide +kernel
theorem dX4_overlapping_12 : decode cX4_overlapping 12 = .ok (.iconst 0, 1) := by decide +kernel
theorem dX4_overlapping_13 : decode cX4_overlapping 13 = .ok (.ireturn, 1) := by decide +kernel
theorem dX4_overlapping_14 : decode cX4_overlapping 14 = .ok (.aload_n 0, 1) := by decide +kernel
theorem dX4_overlapping_15 : decode cX4_overlapping 15 = .ok (.iconst 0, 1) := by decide +kernel
theorem dX4_overlapping_16 : decode cX4_overlapping 16 = .ok (.putfield 147, 3) := by decide +kernel
theorem dX4_overlapping_19 : decode cX4_overlapping 19 = .ok (.iconst 0, 1) := by decide +kernel
theorem dX4_overlapping_20 : decode cX4_overlapping 20 = .ok (.istore_n 2, 1) := by decide +kernel
theorem dX4_overlapping_21 : decode cX4_overlapping 21 = .ok (.iload_n 2, 1) := by decide +kernel
theorem dX4_overlapping_22 : decode cX4_overlapping 22 = .ok (.sipush 512, 3) := by decide +kernel
theorem dX4_overlapping_25 : decode cX4_overlapping 25 = .ok (.if_icmp .ge 144, 3) := by decide +kernel
theorem dX4_overlapping_28 : decode cX4_overlapping 28 = .ok (.aload_n 0, 1) := by decide +kernel
theorem dX4_overlapping_29 : decode cX4_overlapping 29 = .ok (.getfield 13, 3) := by decide +kernel
theorem dX4_overlapping_32 : decode cX4_overlapping 32 = .ok (.iload_n 2, 1) := by decide +kernel
theorem dX4_overlapping_33 : decode cX4_overlapping 33 = .ok (.baload, 1) := by decide +kernel
theorem dX4_overlapping_34 : decode cX4_overlapping 34 = .ok (.ifCond .eq 18, 3) := by decide +kernel
theorem dX4_overlapping_37 : decode cX4_overlapping 37 = .ok (.aload_n 0, 1) := by decide +kernel
theorem dX4_overlapping_38 : decode cX4_overlapping 38 = .ok (.getfield 20, 3) := by decide +kernel
theorem dX4_overlapping_41 : decode cX4_overlapping 41 = .ok (.iload_n 2, 1) := by decide +kernel
theorem dX4_overlapping_42 : decode cX4_overlapping 42 = .ok (.iaload, 1) := by decide +kernel
theorem dX4_overlapping_43 : decode cX4_overlapping 43 = .ok (.iload_n 1, 1) := by decide +kernel
theorem dX4_overlapping_44 : decode cX4_overlapping 44 = .ok (.iand, 1) := by decide +kernel
theorem dX4_overlapping_45 : decode cX4_overlapping 45 = .ok (.ifCond .eq 7, 3) := by decide +kernel
theorem dX4_overlapping_48 : decode cX4_overlapping 48 = .ok (.iconst 1, 1) := by decide +kernel
theorem dX4_overlapping_49 : decode cX4_overlapping 49 = .ok (.goto 4, 3) := by decide +kernel
theorem dX4_overlapping_52 : decode cX4_overlapping 52 = .ok (.iconst 0, 1) := by decide +kernel
theorem dX4_overlapping_53 : decode cX4_overlapping 53 = .ok (.istore_n 3, 1) := by decide +kernel
theorem dX4_overlapping_54 : decode cX4_overlapping 54 = .ok (.iconst 0, 1) := by decide +kernel
theorem dX4_overlapping_55 : decode cX4_overlapping 55 = .ok (.istore 4, 2) := by decide +kernel
theorem dX4_overlapping_57 : decode cX4_overlapping 57 = .ok (.iload 4, 2) := by decide +kernel
theorem dX4_overlapping_59 : decode cX4_overlapping 59 = .ok (.iconst 3, 1) := by decide +kernel
theorem dX4_overlapping_60 : decode cX4_overlapping 60 = .ok (.if_icmp .ge 69, 3) := by decide +kernel
theorem dX4_overlapping_63 : decode cX4_overlapping 63 = .ok (.iload_n 3, 1) := by decide +kernel
theorem dX4_overlapping_64 : decode cX4_overlapping 64 = .ok (.ifCond .eq 57, 3) := by decide +kernel
theorem dX4_overlapping_67 : decode cX4_overlapping 67 = .ok (.aload_n 0, 1) := by decide +kernel
theorem dX4_overlapping_68 : decode cX4_overlapping 68 = .ok (.getfield 30, 3) := by decide +kernel
theorem dX4_overlapping_71 : decode cX4_overlapping 71 = .ok (.bipush 6, 2) := by decide +kernel
theorem dX4_overlapping_73 : decode cX4_overlapping 73 = .ok (.iload_n 2, 1) := by decide +kernel
theorem dX4_overlapping_74 : decode cX4_overlapping 74 = .ok (.imul, 1) := by decide +kernel
theorem dX4_overlapping_75 : decode cX4_overlapping 75 = .ok (.iload 4, 2) := by decide +kernel
theorem dX4_overlapping_77 : decode cX4_overlapping 77 = .ok (.iadd, 1) := by decide +kernel
theorem dX4_overlapping_78 : decode cX4_overlapping 78 = .ok (.faload, 1) := by decide +kernel
theorem dX4_overlapping_79 : decode cX4_overlapping 79 = .ok (.aload_n 0, 1) := by decide +kernel
theorem dX4_overlapping_80 : decode cX4_overlapping 80 = .ok (.getfield 7, 3) := by decide +kernel
theorem dX4_overlapping_83 : decode cX4_overlapping 83 = .ok (.iconst 3, 1) := by decide +kernel
theorem dX4_overlapping_84 : decode cX4_overlapping 84 = .ok (.iload 4, 2) := by decide +kernel
theorem dX4_overlapping_86 : decode cX4_overlapping 86 = .ok (.iadd, 1) := by decide +kernel
theorem dX4_overlapping_87 : decode cX4_overlapping 87 = .ok (.faload, 1) := by decide +kernel
theorem dX4_overlapping_88 : decode cX4_overlapping 88 = .ok (.fcmp .g, 1) := by decide +kernel
theorem dX4_overlapping_89 : decode cX4_overlapping 89 = .ok (.ifCond .gt 32, 3) := by decide +kernel
theorem dX4_overlapping_92 : decode cX4_overlapping 92 = .ok (.aload_n 0, 1) := by decide +kernel
theorem dX4_overlapping_93 : decode cX4_overlapping 93 = .ok (.getfield 7, 3) := by decide +kernel
theorem dX4_overlapping_96 : decode cX4_overlapping 96 = .ok (.iload 4, 2) := by decide +kernel
theorem dX4_overlapping_98 : decode cX4_overlapping 98 = .ok (.faload, 1) := by decide +kernel
theorem dX4_overlapping_99 : decode cX4_overlapping 99 = .ok (.aload_n 0, 1) := by decide +kernel
theorem dX4_overlapping_100 : decode cX4_overlapping 100 = .ok (.getfield 30, 3) := by decide +kernel
theorem dX4_overlapping_103 : decode cX4_overlapping 103 = .ok (.bipush 6, 2) := by decide +kernel
theorem dX4_overlapping_105 : decode cX4_overlapping 105 = .ok (.iload_n 2, 1) := by decide +kernel
theorem dX4_overlapping_106 : decode cX4_overlapping 106 = .ok (.imul, 1) := by decide +kernel
theorem dX4_overlapping_107 : decode cX4_overlapping 107 = .ok (.iconst 3, 1) := by decide +kernel
theorem dX4_overlapping_108 : decode cX4_overlapping 108 = .ok (.iadd, 1) := by decide +kernel
theorem dX4_overlapping_109 : decode cX4_overlapping 109 = .ok (.iload 4, 2) := by decide +kernel
theorem dX4_overlapping_111 : decode cX4_overlapping 111 = .ok (.iadd, 1) := by decide +kernel
theorem dX4_overlapping_112 : decode cX4_overlapping 112 = .ok (.faload, 1) := by decide +kernel
theorem dX4_overlapping_113 : decode cX4_overlapping 113 = .ok (.fcmp .g, 1) := by decide +kernel
theorem dX4_overlapping_114 : decode cX4_overlapping 114 = .ok (.ifCond .gt 7, 3) := by decide +kernel
theorem dX4_overlapping_117 : decode cX4_overlapping 117 = .ok (.iconst 1, 1) := by decide +kernel
theorem dX4_overlapping_118 : decode cX4_overlapping 118 = .ok (.goto 4, 3) := by decide +kernel
theorem dX4_overlapping_121 : decode cX4_overlapping 121 = .ok (.iconst 0, 1) := by decide +kernel
theorem dX4_overlapping_122 : decode cX4_overlapping 122 = .ok (.istore_n 3, 1) := by decide +kernel
theorem dX4_overlapping_123 : decode cX4_overlapping 123 = .ok (.iinc 4 1, 3) := by decide +kernel
theorem dX4_overlapping_126 : decode cX4_overlapping 126 = .ok (.goto (-69), 3) := by decide +kernel
theorem dX4_overlapping_129 : decode cX4_overlapping 129 = .ok (.iload_n 3, 1) := by decide +kernel
theorem dX4_overlapping_130 : decode cX4_overlapping 130 = .ok (.ifCond .eq 33, 3) := by decide +kernel
theorem dX4_overlapping_133 : decode cX4_overlapping 133 = .ok (.aload_n 0, 1) := by decide +kernel
theorem dX4_overlapping_134 : decode cX4_overlapping 134 = .ok (.getfield 45, 3) := by decide +kernel
theorem dX4_overlapping_137 : decode cX4_overlapping 137 = .ok (.aload_n 0, 1) := by decide +kernel
theorem dX4_overlapping_138 : decode cX4_overlapping 138 = .ok (.getfield 147, 3) := by decide +kernel
theorem dX4_overlapping_141 : decode cX4_overlapping 141 = .ok (.iload_n 2, 1) := by decide +kernel
theorem dX4_overlapping_142 : decode cX4_overlapping 142 = .ok (.iastore, 1) := by decide +kernel
theorem dX4_overlapping_143 : decode cX4_overlapping 143 = .ok (.aload_n 0, 1) := by decide +kernel
theorem dX4_overlapping_144 : decode cX4_overlapping 144 = .ok (.getfield 48, 3) := by decide +kernel
theorem dX4_overlapping_147 : decode cX4_overlapping 147 = .ok (.aload_n 0, 1) := by decide +kernel
theorem dX4_overlapping_148 : decode cX4_overlapping 148 = .ok (.getfield 147, 3) := by decide +kernel
theorem dX4_overlapping_151 : decode cX4_overlapping 151 = .ok (.fconst 0, 1) := by decide +kernel
theorem dX4_overlapping_152 : decode cX4_overlapping 152 = .ok (.fastore, 1) := by decide +kernel
theorem dX4_overlapping_153 : decode cX4_overlapping 153 = .ok (.aload_n 0, 1) := by decide +kernel
theorem dX4_overlapping_154 : decode cX4_overlapping 154 = .ok (.dup, 1) := by decide +kernel
theorem dX4_overlapping_155 : decode cX4_overlapping 155 = .ok (.getfield 147, 3) := by decide +kernel
theorem dX4_overlapping_158 : decode cX4_overlapping 158 = .ok (.iconst 1, 1) := by decide +kernel
theorem dX4_overlapping_159 : decode cX4_overlapping 159 = .ok (.iadd, 1) := by decide +kernel
theorem dX4_overlapping_160 : decode cX4_overlapping 160 = .ok (.putfield 147, 3) := by decide +kernel
theorem dX4_overlapping_163 : decode cX4_overlapping 163 = .ok (.iinc 2 1, 3) := by decide +kernel
theorem dX4_overlapping_166 : decode cX4_overlapping 166 = .ok (.goto (-145), 3) := by decide +kernel
theorem dX4_overlapping_169 : decode cX4_overlapping 169 = .ok (.aload_n 0, 1) := by decide +kernel
theorem dX4_overlapping_170 : decode cX4_overlapping 170 = .ok (.getfield 147, 3) := by decide +kernel
theorem dX4_overlapping_173 : decode cX4_overlapping 173 = .ok (.ireturn, 1) := by decide +kernel
theorem dX4_enters_0 : decode cX4_enters 0 = .ok (.fconst 0, 1) := by decide +kernel
theorem dX4_enters_1 : decode cX4_enters 1 = .ok (.fstore_n 2, 1) := by decide +kernel
theorem dX4_enters_2 : decode cX4_enters 2 = .ok (.fconst 1, 1) := by decide +kernel
theorem dX4_enters_3 : decode cX4_enters 3 = .ok (.fstore_n 3, 1) := by decide +kernel
theorem dX4_enters_4 : decode cX4_enters 4 = .ok (.iconst 1, 1) := by decide +kernel
theorem dX4_enters_5 : decode cX4_enters 5 = .ok (.istore 4, 2) := by decide +kernel
theorem dX4_enters_7 : decode cX4_enters 7 = .ok (.iconst 0, 1) := by decide +kernel
theorem dX4_enters_8 : decode cX4_enters 8 = .ok (.istore 5, 2) := by decide +kernel
theorem dX4_enters_10 : decode cX4_enters 10 = .ok (.iload 5, 2) := by decide +kernel
theorem dX4_enters_12 : decode cX4_enters 12 = .ok (.iconst 3, 1) := by decide +kernel
theorem dX4_enters_13 : decode cX4_enters 13 = .ok (.if_icmp .ge 182, 3) := by decide +kernel
theorem dX4_enters_16 : decode cX4_enters 16 = .ok (.aload_n 0, 1) := by decide +kernel
theorem dX4_enters_17 : decode cX4_enters 17 = .ok (.getfield 7, 3) := by decide +kernel
theorem dX4_enters_20 : decode cX4_enters 20 = .ok (.iload 5, 2) := by decide +kernel
theorem dX4_enters_22 : decode cX4_enters 22 = .ok (.faload, 1) := by decide +kernel
theorem dX4_enters_23 : decode cX4_enters 23 = .ok (.fstore 6, 2) := by decide +kernel
theorem dX4_enters_25 : decode cX4_enters 25 = .ok (.aload_n 0, 1) := by decide +kernel
theorem dX4_enters_26 : decode cX4_enters 26 = .ok (.getfield 7, 3) := by decide +kernel
theorem dX4_enters_29 : decode cX4_enters 29 = .ok (.iconst 3, 1) := by decide +kernel
theorem dX4_enters_30 : decode cX4_enters 30 = .ok (.iload 5, 2) := by decide +kernel
theorem dX4_enters_32 : decode cX4_enters 32 = .ok (.iadd, 1) := by decide +kernel
theorem dX4_enters_33 : decode cX4_enters 33 = .ok (.faload, 1) := by decide +kernel
theorem dX4_enters_34 : decode cX4_enters 34 = .ok (.fload 6, 2) := by decide +kernel
theorem dX4_enters_36 : decode cX4_enters 36 = .ok (.fsub, 1) := by decide +kernel
theorem dX4_enters_37 : decode cX4_enters 37 = .ok (.fstore 7, 2) := by decide +kernel
theorem dX4_enters_39 : decode cX4_enters 39 = .ok (.aload_n 0, 1) := by decide +kernel
theorem dX4_enters_40 : decode cX4_enters 40 = .ok (.getfield 30, 3) := by decide +kernel
theorem dX4_enters_43 : decode cX4_enters 43 = .ok (.bipush 6, 2) := by decide +kernel
theorem dX4_enters_45 : decode cX4_enters 45 = .ok (.iload_n 1, 1) := by decide +kernel
theorem dX4_enters_46 : decode cX4_enters 46 = .ok (.imul, 1) := by decide +kernel
theorem dX4_enters_47 : decode cX4_enters 47 = .ok (.iload 5, 2) := by decide +kernel
theorem dX4_enters_49 : decode cX4_enters 49 = .ok (.iadd, 1) := by decide +kernel
theorem dX4_enters_50 : decode cX4_enters 50 = .ok (.faload, 1) := by decide +kernel
theorem dX4_enters_51 : decode cX4_enters 51 = .ok (.fstore 8, 2) := by decide +kernel
theorem dX4_enters_53 : decode cX4_enters 53 = .ok (.aload_n 0, 1) := by decide +kernel
theorem dX4_enters_54 : decode cX4_enters 54 = .ok (.getfield 30, 3) := by decide +kernel
theorem dX4_enters_57 : decode cX4_enters 57 = .ok (.bipush 6, 2) := by decide +kernel
theorem dX4_enters_59 : decode cX4_enters 59 = .ok (.iload_n 1, 1) := by decide +kernel
theorem dX4_enters_60 : decode cX4_enters 60 = .ok (.imul, 1) := by decide +kernel
theorem dX4_enters_61 : decode cX4_enters 61 = .ok (.iconst 3, 1) := by decide +kernel
theorem dX4_enters_62 : decode cX4_enters 62 = .ok (.iadd, 1) := by decide +kernel
theorem dX4_enters_63 : decode cX4_enters 63 = .ok (.iload 5, 2) := by decide +kernel
theorem dX4_enters_65 : decode cX4_enters 65 = .ok (.iadd, 1) := by decide +kernel
theorem dX4_enters_66 : decode cX4_enters 66 = .ok (.faload, 1) := by decide +kernel
theorem dX4_enters_67 : decode cX4_enters 67 = .ok (.fstore 9, 2) := by decide +kernel
theorem dX4_enters_69 : decode cX4_enters 69 = .ok (.fload 7, 2) := by decide +kernel
theorem dX4_enters_71 : decode cX4_enters 71 = .ok (.fconst 0, 1) := by decide +kernel
theorem dX4_enters_72 : decode cX4_enters 72 = .ok (.fcmp .l, 1) := by decide +kernel
theorem dX4_enters_73 : decode cX4_enters 73 = .ok (.ifCond .ne 34, 3) := by decide +kernel
theorem dX4_enters_76 : decode cX4_enters 76 = .ok (.iload 4, 2) := by decide +kernel
theorem dX4_enters_78 : decode cX4_enters 78 = .ok (.ifCond .eq 23, 3) := by decide +kernel
theorem dX4_enters_81 : decode cX4_enters 81 = .ok (.fload 6, 2) := by decide +kernel
theorem dX4_enters_83 : decode cX4_enters 83 = .ok (.fload 8, 2) := by decide +kernel
theorem dX4_enters_85 : decode cX4_enters 85 = .ok (.fcmp .l, 1) := by decide +kernel
theorem dX4_enters_86 : decode cX4_enters 86 = .ok (.ifCond .lt 15, 3) := by decide +kernel
theorem dX4_enters_89 : decode cX4_enters 89 = .ok (.fload 6, 2) := by decide +kernel
theorem dX4_enters_91 : decode cX4_enters 91 = .ok (.fload 9, 2) := by decide +kernel
theorem dX4_enters_93 : decode cX4_enters 93 = .ok (.fcmp .g, 1) := by decide +kernel
theorem dX4_enters_94 : decode cX4_enters 94 = .ok (.ifCond .gt 7, 3) := by decide +kernel
theorem dX4_enters_97 : decode cX4_enters 97 = .ok (.iconst 1, 1) := by decide +kernel
theorem dX4_enters_98 : decode cX4_enters 98 = .ok (.goto 4, 3) := by decide +kernel
theorem dX4_enters_101 : decode cX4_enters 101 = .ok (.iconst 0, 1) := by decide +kernel
theorem dX4_enters_102 : decode cX4_enters 102 = .ok (.istore 4, 2) := by decide +kernel
theorem dX4_enters_104 : decode cX4_enters 104 = .ok (.goto 85, 3) := by decide +kernel
theorem dX4_enters_107 : decode cX4_enters 107 = .ok (.fload 8, 2) := by decide +kernel
theorem dX4_enters_109 : decode cX4_enters 109 = .ok (.fload 6, 2) := by decide +kernel
theorem dX4_enters_111 : decode cX4_enters 111 = .ok (.fsub, 1) := by decide +kernel
theorem dX4_enters_112 : decode cX4_enters 112 = .ok (.fload 7, 2) := by decide +kernel
theorem dX4_enters_114 : decode cX4_enters 114 = .ok (.fdiv, 1) := by decide +kernel
theorem dX4_enters_115 : decode cX4_enters 115 = .ok (.fstore 10, 2) := by decide +kernel
theorem dX4_enters_117 : decode cX4_enters 117 = .ok (.fload 9, 2) := by decide +kernel
theorem dX4_enters_119 : decode cX4_enters 119 = .ok (.fload 6, 2) := by decide +kernel
theorem dX4_enters_121 : decode cX4_enters 121 = .ok (.fsub, 1) := by decide +kernel
theorem dX4_enters_122 : decode cX4_enters 122 = .ok (.fload 7, 2) := by decide +kernel
theorem dX4_enters_124 : decode cX4_enters 124 = .ok (.fdiv, 1) := by decide +kernel
theorem dX4_enters_125 : decode cX4_enters 125 = .ok (.fstore 11, 2) := by decide +kernel
theorem dX4_enters_127 : decode cX4_enters 127 = .ok (.fload 10, 2) := by decide +kernel
theorem dX4_enters_129 : decode cX4_enters 129 = .ok (.fload 11, 2) := by decide +kernel
theorem dX4_enters_131 : decode cX4_enters 131 = .ok (.fcmp .l, 1) := by decide +kernel
theorem dX4_enters_132 : decode cX4_enters 132 = .ok (.ifCond .le 8, 3) := by decide +kernel
theorem dX4_enters_135 : decode cX4_enters 135 = .ok (.fload 11, 2) := by decide +kernel
theorem dX4_enters_137 : decode cX4_enters 137 = .ok (.goto 5, 3) := by decide +kernel
theorem dX4_enters_140 : decode cX4_enters 140 = .ok (.fload 10, 2) := by decide +kernel
theorem dX4_enters_142 : decode cX4_enters 142 = .ok (.fstore 12, 2) := by decide +kernel
theorem dX4_enters_144 : decode cX4_enters 144 = .ok (.fload 10, 2) := by decide +kernel
theorem dX4_enters_146 : decode cX4_enters 146 = .ok (.fload 11, 2) := by decide +kernel
theorem dX4_enters_148 : decode cX4_enters 148 = .ok (.fcmp .l, 1) := by decide +kernel
theorem dX4_enters_149 : decode cX4_enters 149 = .ok (.ifCond .le 8, 3) := by decide +kernel
theorem dX4_enters_152 : decode cX4_enters 152 = .ok (.fload 10, 2) := by decide +kernel
theorem dX4_enters_154 : decode cX4_enters 154 = .ok (.goto 5, 3) := by decide +kernel
theorem dX4_enters_157 : decode cX4_enters 157 = .ok (.fload 11, 2) := by decide +kernel
theorem dX4_enters_159 : decode cX4_enters 159 = .ok (.fstore 13, 2) := by decide +kernel
theorem dX4_enters_161 : decode cX4_enters 161 = .ok (.fload 12, 2) := by decide +kernel
theorem dX4_enters_163 : decode cX4_enters 163 = .ok (.fload_n 2, 1) := by decide +kernel
theorem dX4_enters_164 : decode cX4_enters 164 = .ok (.fcmp .l, 1) := by decide +kernel
theorem dX4_enters_165 : decode cX4_enters 165 = .ok (.ifCond .le 8, 3) := by decide +kernel
theorem dX4_enters_168 : decode cX4_enters 168 = .ok (.fload 12, 2) := by decide +kernel
theorem dX4_enters_170 : decode cX4_enters 170 = .ok (.goto 4, 3) := by decide +kernel
theorem dX4_enters_173 : decode cX4_enters 173 = .ok (.fload_n 2, 1) := by decide +kernel
theorem dX4_enters_174 : decode cX4_enters 174 = .ok (.fstore_n 2, 1) := by decide +kernel
theorem dX4_enters_175 : decode cX4_enters 175 = .ok (.fload 13, 2) := by decide +kernel
theorem dX4_enters_177 : decode cX4_enters 177 = .ok (.fload_n 3, 1) := by decide +kernel
theorem dX4_enters_178 : decode cX4_enters 178 = .ok (.fcmp .g, 1) := by decide +kernel
theorem dX4_enters_179 : decode cX4_enters 179 = .ok (.ifCond .ge 8, 3) := by decide +kernel
theorem dX4_enters_182 : decode cX4_enters 182 = .ok (.fload 13, 2) := by decide +kernel
theorem dX4_enters_184 : decode cX4_enters 184 = .ok (.goto 4, 3) := by decide +kernel
theorem dX4_enters_187 : decode cX4_enters 187 = .ok (.fload_n 3, 1) := by decide +kernel
theorem dX4_enters_188 : decode cX4_enters 188 = .ok (.fstore_n 3, 1) := by decide +kernel
theorem dX4_enters_189 : decode cX4_enters 189 = .ok (.iinc 5 1, 3) := by decide +kernel
theorem dX4_enters_192 : decode cX4_enters 192 = .ok (.goto (-182), 3) := by decide +kernel
theorem dX4_enters_195 : decode cX4_enters 195 = .ok (.iload 4, 2) := by decide +kernel
theorem dX4_enters_197 : decode cX4_enters 197 = .ok (.ifCond .eq 13, 3) := by decide +kernel
theorem dX4_enters_200 : decode cX4_enters 200 = .ok (.fload_n 2, 1) := by decide +kernel
theorem dX4_enters_201 : decode cX4_enters 201 = .ok (.fload_n 3, 1) := by decide +kernel
theorem dX4_enters_202 : decode cX4_enters 202 = .ok (.fcmp .g, 1) := by decide +kernel
theorem dX4_enters_203 : decode cX4_enters 203 = .ok (.ifCond .gt 7, 3) := by decide +kernel
theorem dX4_enters_206 : decode cX4_enters 206 = .ok (.fload_n 2, 1) := by decide +kernel
theorem dX4_enters_207 : decode cX4_enters 207 = .ok (.goto 4, 3) := by decide +kernel
theorem dX4_enters_210 : decode cX4_enters 210 = .ok (.fconst 2, 1) := by decide +kernel
theorem dX4_enters_211 : decode cX4_enters 211 = .ok (.freturn, 1) := by decide +kernel
theorem dX4_meeting_0 : decode cX4_meeting 0 = .ok (.aload_n 0, 1) := by decide +kernel
theorem dX4_meeting_1 : decode cX4_meeting 1 = .ok (.iconst 0, 1) := by decide +kernel
theorem dX4_meeting_2 : decode cX4_meeting 2 = .ok (.putfield 54, 3) := by decide +kernel
theorem dX4_meeting_5 : decode cX4_meeting 5 = .ok (.aload_n 0, 1) := by decide +kernel
theorem dX4_meeting_6 : decode cX4_meeting 6 = .ok (.iconst 0, 1) := by decide +kernel
theorem dX4_meeting_7 : decode cX4_meeting 7 = .ok (.putfield 147, 3) := by decide +kernel
theorem dX4_meeting_10 : decode cX4_meeting 10 = .ok (.iconst 0, 1) := by decide +kernel
theorem dX4_meeting_11 : decode cX4_meeting 11 = .ok (.istore_n 2, 1) := by decide +kernel
theorem dX4_meeting_12 : decode cX4_meeting 12 = .ok (.iload_n 2, 1) := by decide +kernel
theorem dX4_meeting_13 : decode cX4_meeting 13 = .ok (.sipush 512, 3) := by decide +kernel
theorem dX4_meeting_16 : decode cX4_meeting 16 = .ok (.if_icmp .ge 75, 3) := by decide +kernel
theorem dX4_meeting_19 : decode cX4_meeting 19 = .ok (.aload_n 0, 1) := by decide +kernel
theorem dX4_meeting_20 : decode cX4_meeting 20 = .ok (.getfield 13, 3) := by decide +kernel
theorem dX4_meeting_23 : decode cX4_meeting 23 = .ok (.iload_n 2, 1) := by decide +kernel
theorem dX4_meeting_24 : decode cX4_meeting 24 = .ok (.baload, 1) := by decide +kernel
theorem dX4_meeting_25 : decode cX4_meeting 25 = .ok (.ifCond .eq 22, 3) := by decide +kernel
theorem dX4_meeting_28 : decode cX4_meeting 28 = .ok (.aload_n 0, 1) := by decide +kernel
theorem dX4_meeting_29 : decode cX4_meeting 29 = .ok (.getfield 20, 3) := by decide +kernel
theorem dX4_meeting_32 : decode cX4_meeting 32 = .ok (.iload_n 2, 1) := by decide +kernel
theorem dX4_meeting_33 : decode cX4_meeting 33 = .ok (.iaload, 1) := by decide +kernel
theorem dX4_meeting_34 : decode cX4_meeting 34 = .ok (.iload_n 1, 1) := by decide +kernel
theorem dX4_meeting_35 : decode cX4_meeting 35 = .ok (.iand, 1) := by decide +kernel
theorem dX4_meeting_36 : decode cX4_meeting 36 = .ok (.ifCond .eq 11, 3) := by decide +kernel
theorem dX4_meeting_39 : decode cX4_meeting 39 = .ok (.aload_n 0, 1) := by decide +kernel
theorem dX4_meeting_40 : decode cX4_meeting 40 = .ok (.iload_n 2, 1) := by decide +kernel
theorem dX4_meeting_41 : decode cX4_meeting 41 = .ok (.invokevirtual 150, 3) := by decide +kernel
theorem dX4_meeting_44 : decode cX4_meeting 44 = .ok (.goto 4, 3) := by decide +kernel
theorem dX4_meeting_47 : decode cX4_meeting 47 = .ok (.fconst 2, 1) := by decide +kernel
theorem dX4_meeting_48 : decode cX4_meeting 48 = .ok (.fstore_n 3, 1) := by decide +kernel
theorem dX4_meeting_49 : decode cX4_meeting 49 = .ok (.fload_n 3, 1) := by decide +kernel
theorem dX4_meeting_50 : decode cX4_meeting 50 = .ok (.fconst 1, 1) := by decide +kernel
theorem dX4_meeting_51 : decode cX4_meeting 51 = .ok (.fcmp .g, 1) := by decide +kernel
theorem dX4_meeting_52 : decode cX4_meeting 52 = .ok (.ifCond .gt 33, 3) := by decide +kernel
theorem dX4_meeting_55 : decode cX4_meeting 55 = .ok (.aload_n 0, 1) := by decide +kernel
theorem dX4_meeting_56 : decode cX4_meeting 56 = .ok (.getfield 45, 3) := by decide +kernel
theorem dX4_meeting_59 : decode cX4_meeting 59 = .ok (.aload_n 0, 1) := by decide +kernel
theorem dX4_meeting_60 : decode cX4_meeting 60 = .ok (.getfield 147, 3) := by decide +kernel
theorem dX4_meeting_63 : decode cX4_meeting 63 = .ok (.iload_n 2, 1) := by decide +kernel
theorem dX4_meeting_64 : decode cX4_meeting 64 = .ok (.iastore, 1) := by decide +kernel
theorem dX4_meeting_65 : decode cX4_meeting 65 = .ok (.aload_n 0, 1) := by decide +kernel
theorem dX4_meeting_66 : decode cX4_meeting 66 = .ok (.getfield 48, 3) := by decide +kernel
theorem dX4_meeting_69 : decode cX4_meeting 69 = .ok (.aload_n 0, 1) := by decide +kernel
theorem dX4_meeting_70 : decode cX4_meeting 70 = .ok (.getfield 147, 3) := by decide +kernel
theorem dX4_meeting_73 : decode cX4_meeting 73 = .ok (.fload_n 3, 1) := by decide +kernel
theorem dX4_meeting_74 : decode cX4_meeting 74 = .ok (.fastore, 1) := by decide +kernel
theorem dX4_meeting_75 : decode cX4_meeting 75 = .ok (.aload_n 0, 1) := by decide +kernel
theorem dX4_meeting_76 : decode cX4_meeting 76 = .ok (.dup, 1) := by decide +kernel
theorem dX4_meeting_77 : decode cX4_meeting 77 = .ok (.getfield 147, 3) := by decide +kernel
theorem dX4_meeting_80 : decode cX4_meeting 80 = .ok (.iconst 1, 1) := by decide +kernel
theorem dX4_meeting_81 : decode cX4_meeting 81 = .ok (.iadd, 1) := by decide +kernel
theorem dX4_meeting_82 : decode cX4_meeting 82 = .ok (.putfield 147, 3) := by decide +kernel
theorem dX4_meeting_85 : decode cX4_meeting 85 = .ok (.iinc 2 1, 3) := by decide +kernel
theorem dX4_meeting_88 : decode cX4_meeting 88 = .ok (.goto (-76), 3) := by decide +kernel
theorem dX4_meeting_91 : decode cX4_meeting 91 = .ok (.aload_n 0, 1) := by decide +kernel
theorem dX4_meeting_92 : decode cX4_meeting 92 = .ok (.getfield 147, 3) := by decide +kernel
theorem dX4_meeting_95 : decode cX4_meeting 95 = .ok (.ireturn, 1) := by decide +kernel
theorem dX4_found_0 : decode cX4_found 0 = .ok (.aload_n 0, 1) := by decide +kernel
theorem dX4_found_1 : decode cX4_found 1 = .ok (.iload_n 1, 1) := by decide +kernel
theorem dX4_found_2 : decode cX4_found 2 = .ok (.ifCond .lt 15, 3) := by decide +kernel
theorem dX4_found_5 : decode cX4_found 5 = .ok (.iload_n 1, 1) := by decide +kernel
theorem dX4_found_6 : decode cX4_found 6 = .ok (.aload_n 0, 1) := by decide +kernel
theorem dX4_found_7 : decode cX4_found 7 = .ok (.getfield 147, 3) := by decide +kernel
theorem dX4_found_10 : decode cX4_found 10 = .ok (.if_icmp .ge 7, 3) := by decide +kernel
theorem dX4_found_13 : decode cX4_found 13 = .ok (.iconst 1, 1) := by decide +kernel
theorem dX4_found_14 : decode cX4_found 14 = .ok (.goto 4, 3) := by decide +kernel
theorem dX4_found_17 : decode cX4_found 17 = .ok (.iconst 0, 1) := by decide +kernel
theorem dX4_found_18 : decode cX4_found 18 = .ok (.iconst 1, 1) := by decide +kernel
theorem dX4_found_19 : decode cX4_found 19 = .ok (.invokevirtual 66, 3) := by decide +kernel
theorem dX4_found_22 : decode cX4_found 22 = .ok (.ifCond .eq 12, 3) := by decide +kernel
theorem dX4_found_25 : decode cX4_found 25 = .ok (.aload_n 0, 1) := by decide +kernel
theorem dX4_found_26 : decode cX4_found 26 = .ok (.getfield 45, 3) := by decide +kernel
theorem dX4_found_29 : decode cX4_found 29 = .ok (.iload_n 1, 1) := by decide +kernel
theorem dX4_found_30 : decode cX4_found 30 = .ok (.iaload, 1) := by decide +kernel
theorem dX4_found_31 : decode cX4_found 31 = .ok (.goto 4, 3) := by decide +kernel
theorem dX4_found_34 : decode cX4_found 34 = .ok (.iconst 0, 1) := by decide +kernel
theorem dX4_found_35 : decode cX4_found 35 = .ok (.ireturn, 1) := by decide +kernel
theorem dX4_where_0 : decode cX4_where 0 = .ok (.aload_n 0, 1) := by decide +kernel
theorem dX4_where_1 : decode cX4_where 1 = .ok (.iload_n 1, 1) := by decide +kernel
theorem dX4_where_2 : decode cX4_where 2 = .ok (.ifCond .lt 15, 3) := by decide +kernel
theorem dX4_where_5 : decode cX4_where 5 = .ok (.iload_n 1, 1) := by decide +kernel
theorem dX4_where_6 : decode cX4_where 6 = .ok (.aload_n 0, 1) := by decide +kernel
theorem dX4_where_7 : decode cX4_where 7 = .ok (.getfield 147, 3) := by decide +kernel
theorem dX4_where_10 : decode cX4_where 10 = .ok (.if_icmp .ge 7, 3) := by decide +kernel
theorem dX4_where_13 : decode cX4_where 13 = .ok (.iconst 1, 1) := by decide +kernel
theorem dX4_where_14 : decode cX4_where 14 = .ok (.goto 4, 3) := by decide +kernel
theorem dX4_where_17 : decode cX4_where 17 = .ok (.iconst 0, 1) := by decide +kernel
theorem dX4_where_18 : decode cX4_where 18 = .ok (.iconst 1, 1) := by decide +kernel
theorem dX4_where_19 : decode cX4_where 19 = .ok (.invokevirtual 66, 3) := by decide +kernel
theorem dX4_where_22 : decode cX4_where 22 = .ok (.ifCond .eq 12, 3) := by decide +kernel
theorem dX4_where_25 : decode cX4_where 25 = .ok (.aload_n 0, 1) := by decide +kernel
theorem dX4_where_26 : decode cX4_where 26 = .ok (.getfield 48, 3) := by decide +kernel
theorem dX4_where_29 : decode cX4_where 29 = .ok (.iload_n 1, 1) := by decide +kernel
theorem dX4_where_30 : decode cX4_where 30 = .ok (.faload, 1) := by decide +kernel
theorem dX4_where_31 : decode cX4_where 31 = .ok (.goto 4, 3) := by decide +kernel
theorem dX4_where_34 : decode cX4_where 34 = .ok (.fconst 0, 1) := by decide +kernel
theorem dX4_where_35 : decode cX4_where 35 = .ok (.freturn, 1) := by decide +kernel
theorem dX4_nearest_0 : decode cX4_nearest 0 = .ok (.aload_n 0, 1) := by decide +kernel
theorem dX4_nearest_1 : decode cX4_nearest 1 = .ok (.iconst 0, 1) := by decide +kernel
theorem dX4_nearest_2 : decode cX4_nearest 2 = .ok (.putfield 54, 3) := by decide +kernel
theorem dX4_nearest_5 : decode cX4_nearest 5 = .ok (.iconst (-1), 1) := by decide +kernel
theorem dX4_nearest_6 : decode cX4_nearest 6 = .ok (.istore_n 1, 1) := by decide +kernel
theorem dX4_nearest_7 : decode cX4_nearest 7 = .ok (.iconst 0, 1) := by decide +kernel
theorem dX4_nearest_8 : decode cX4_nearest 8 = .ok (.istore_n 2, 1) := by decide +kernel
theorem dX4_nearest_9 : decode cX4_nearest 9 = .ok (.iload_n 2, 1) := by decide +kernel
theorem dX4_nearest_10 : decode cX4_nearest 10 = .ok (.aload_n 0, 1) := by decide +kernel
theorem dX4_nearest_11 : decode cX4_nearest 11 = .ok (.getfield 147, 3) := by decide +kernel
theorem dX4_nearest_14 : decode cX4_nearest 14 = .ok (.if_icmp .ge 35, 3) := by decide +kernel
theorem dX4_nearest_17 : decode cX4_nearest 17 = .ok (.iload_n 1, 1) := by decide +kernel
theorem dX4_nearest_18 : decode cX4_nearest 18 = .ok (.ifCond .lt 19, 3) := by decide +kernel
theorem dX4_nearest_21 : decode cX4_nearest 21 = .ok (.aload_n 0, 1) := by decide +kernel
theorem dX4_nearest_22 : decode cX4_nearest 22 = .ok (.getfield 48, 3) := by decide +kernel
theorem dX4_nearest_25 : decode cX4_nearest 25 = .ok (.iload_n 2, 1) := by decide +kernel
theorem dX4_nearest_26 : decode cX4_nearest 26 = .ok (.faload, 1) := by decide +kernel
theorem dX4_nearest_27 : decode cX4_nearest 27 = .ok (.aload_n 0, 1) := by decide +kernel
theorem dX4_nearest_28 : decode cX4_nearest 28 = .ok (.getfield 48, 3) := by decide +kernel
theorem dX4_nearest_31 : decode cX4_nearest 31 = .ok (.iload_n 1, 1) := by decide +kernel
theorem dX4_nearest_32 : decode cX4_nearest 32 = .ok (.faload, 1) := by decide +kernel
theorem dX4_nearest_33 : decode cX4_nearest 33 = .ok (.fcmp .g, 1) := by decide +kernel
theorem dX4_nearest_34 : decode cX4_nearest 34 = .ok (.ifCond .ge 7, 3) := by decide +kernel
theorem dX4_nearest_37 : decode cX4_nearest 37 = .ok (.iload_n 2, 1) := by decide +kernel
theorem dX4_nearest_38 : decode cX4_nearest 38 = .ok (.goto 4, 3) := by decide +kernel
theorem dX4_nearest_41 : decode cX4_nearest 41 = .ok (.iload_n 1, 1) := by decide +kernel
theorem dX4_nearest_42 : decode cX4_nearest 42 = .ok (.istore_n 1, 1) := by decide +kernel
theorem dX4_nearest_43 : decode cX4_nearest 43 = .ok (.iinc 2 1, 3) := by decide +kernel
theorem dX4_nearest_46 : decode cX4_nearest 46 = .ok (.goto (-37), 3) := by decide +kernel
theorem dX4_nearest_49 : decode cX4_nearest 49 = .ok (.iload_n 1, 1) := by decide +kernel
theorem dX4_nearest_50 : decode cX4_nearest 50 = .ok (.ifCond .ge 7, 3) := by decide +kernel
theorem dX4_nearest_53 : decode cX4_nearest 53 = .ok (.iconst (-1), 1) := by decide +kernel
theorem dX4_nearest_54 : decode cX4_nearest 54 = .ok (.goto 9, 3) := by decide +kernel
theorem dX4_nearest_57 : decode cX4_nearest 57 = .ok (.aload_n 0, 1) := by decide +kernel
theorem dX4_nearest_58 : decode cX4_nearest 58 = .ok (.getfield 45, 3) := by decide +kernel
theorem dX4_nearest_61 : decode cX4_nearest 61 = .ok (.iload_n 1, 1) := by decide +kernel
theorem dX4_nearest_62 : decode cX4_nearest 62 = .ok (.iaload, 1) := by decide +kernel
theorem dX4_nearest_63 : decode cX4_nearest 63 = .ok (.ireturn, 1) := by decide +kernel
theorem dX4_corner_0 : decode cX4_corner 0 = .ok (.aload_n 0, 1) := by decide +kernel
theorem dX4_corner_1 : decode cX4_corner 1 = .ok (.aload_n 0, 1) := by decide +kernel
theorem dX4_corner_2 : decode cX4_corner 2 = .ok (.iload_n 1, 1) := by decide +kernel
theorem dX4_corner_3 : decode cX4_corner 3 = .ok (.invokevirtual 107, 3) := by decide +kernel
theorem dX4_corner_6 : decode cX4_corner 6 = .ok (.ifCond .eq 17, 3) := by decide +kernel
theorem dX4_corner_9 : decode cX4_corner 9 = .ok (.iload_n 2, 1) := by decide +kernel
theorem dX4_corner_10 : decode cX4_corner 10 = .ok (.ifCond .lt 13, 3) := by decide +kernel
theorem dX4_corner_13 : decode cX4_corner 13 = .ok (.iload_n 2, 1) := by decide +kernel
theorem dX4_corner_14 : decode cX4_corner 14 = .ok (.bipush 11, 2) := by decide +kernel
theorem dX4_corner_16 : decode cX4_corner 16 = .ok (.if_icmp .gt 7, 3) := by decide +kernel
theorem dX4_corner_19 : decode cX4_corner 19 = .ok (.iconst 1, 1) := by decide +kernel
theorem dX4_corner_20 : decode cX4_corner 20 = .ok (.goto 4, 3) := by decide +kernel
theorem dX4_corner_23 : decode cX4_corner 23 = .ok (.iconst 0, 1) := by decide +kernel
theorem dX4_corner_24 : decode cX4_corner 24 = .ok (.iconst 1, 1) := by decide +kernel
theorem dX4_corner_25 : decode cX4_corner 25 = .ok (.invokevirtual 66, 3) := by decide +kernel
theorem dX4_corner_28 : decode cX4_corner 28 = .ok (.ifCond .ne 5, 3) := by decide +kernel
theorem dX4_corner_31 : decode cX4_corner 31 = .ok (.fconst 0, 1) := by decide +kernel
theorem dX4_corner_32 : decode cX4_corner 32 = .ok (.freturn, 1) := by decide +kernel
theorem dX4_corner_33 : decode cX4_corner 33 = .ok (.iload_n 2, 1) := by decide +kernel
theorem dX4_corner_34 : decode cX4_corner 34 = .ok (.bipush 6, 2) := by decide +kernel
theorem dX4_corner_36 : decode cX4_corner 36 = .ok (.if_icmp .ge 17, 3) := by decide +kernel
theorem dX4_corner_39 : decode cX4_corner 39 = .ok (.aload_n 0, 1) := by decide +kernel
theorem dX4_corner_40 : decode cX4_corner 40 = .ok (.getfield 30, 3) := by decide +kernel
theorem dX4_corner_43 : decode cX4_corner 43 = .ok (.bipush 6, 2) := by decide +kernel
theorem dX4_corner_45 : decode cX4_corner 45 = .ok (.iload_n 1, 1) := by decide +kernel
theorem dX4_corner_46 : decode cX4_corner 46 = .ok (.imul, 1) := by decide +kernel
theorem dX4_corner_47 : decode cX4_corner 47 = .ok (.iload_n 2, 1) := by decide +kernel
theorem dX4_corner_48 : decode cX4_corner 48 = .ok (.iadd, 1) := by decide +kernel
theorem dX4_corner_49 : decode cX4_corner 49 = .ok (.faload, 1) := by decide +kernel
theorem dX4_corner_50 : decode cX4_corner 50 = .ok (.goto 17, 3) := by decide +kernel
theorem dX4_corner_53 : decode cX4_corner 53 = .ok (.aload_n 0, 1) := by decide +kernel
theorem dX4_corner_54 : decode cX4_corner 54 = .ok (.getfield 27, 3) := by decide +kernel
theorem dX4_corner_57 : decode cX4_corner 57 = .ok (.bipush 6, 2) := by decide +kernel
theorem dX4_corner_59 : decode cX4_corner 59 = .ok (.iload_n 1, 1) := by decide +kernel
theorem dX4_corner_60 : decode cX4_corner 60 = .ok (.imul, 1) := by decide +kernel
theorem dX4_corner_61 : decode cX4_corner 61 = .ok (.iload_n 2, 1) := by decide +kernel
theorem dX4_corner_62 : decode cX4_corner 62 = .ok (.iadd, 1) := by decide +kernel
theorem dX4_corner_63 : decode cX4_corner 63 = .ok (.bipush 6, 2) := by decide +kernel
theorem dX4_corner_65 : decode cX4_corner 65 = .ok (.isub, 1) := by decide +kernel
theorem dX4_corner_66 : decode cX4_corner 66 = .ok (.faload, 1) := by decide +kernel
theorem dX4_corner_67 : decode cX4_corner 67 = .ok (.freturn, 1) := by decide +kernel
theorem dX4_about_0 : decode cX4_about 0 = .ok (.aload_n 0, 1) := by decide +kernel
theorem dX4_about_1 : decode cX4_about 1 = .ok (.aload_n 0, 1) := by decide +kernel
theorem dX4_about_2 : decode cX4_about 2 = .ok (.iload_n 1, 1) := by decide +kernel
theorem dX4_about_3 : decode cX4_about 3 = .ok (.invokevirtual 107, 3) := by decide +kernel
theorem dX4_about_6 : decode cX4_about 6 = .ok (.ifCond .eq 16, 3) := by decide +kernel
theorem dX4_about_9 : decode cX4_about 9 = .ok (.iload_n 2, 1) := by decide +kernel
theorem dX4_about_10 : decode cX4_about 10 = .ok (.ifCond .lt 12, 3) := by decide +kernel
theorem dX4_about_13 : decode cX4_about 13 = .ok (.iload_n 2, 1) := by decide +kernel
theorem dX4_about_14 : decode cX4_about 14 = .ok (.iconst 3, 1) := by decide +kernel
theorem dX4_about_15 : decode cX4_about 15 = .ok (.if_icmp .gt 7, 3) := by decide +kernel
theorem dX4_about_18 : decode cX4_about 18 = .ok (.iconst 1, 1) := by decide +kernel
theorem dX4_about_19 : decode cX4_about 19 = .ok (.goto 4, 3) := by decide +kernel
theorem dX4_about_22 : decode cX4_about 22 = .ok (.iconst 0, 1) := by decide +kernel
theorem dX4_about_23 : decode cX4_about 23 = .ok (.iconst 1, 1) := by decide +kernel
theorem dX4_about_24 : decode cX4_about 24 = .ok (.invokevirtual 66, 3) := by decide +kernel
theorem dX4_about_27 : decode cX4_about 27 = .ok (.ifCond .ne 5, 3) := by decide +kernel
theorem dX4_about_30 : decode cX4_about 30 = .ok (.iconst 0, 1) := by decide +kernel
theorem dX4_about_31 : decode cX4_about 31 = .ok (.ireturn, 1) := by decide +kernel
theorem dX4_about_32 : decode cX4_about 32 = .ok (.iload_n 2, 1) := by decide +kernel
theorem dX4_about_33 : decode cX4_about 33 = .ok (.ifCond .ne 12, 3) := by decide +kernel
theorem dX4_about_36 : decode cX4_about 36 = .ok (.aload_n 0, 1) := by decide +kernel
theorem dX4_about_37 : decode cX4_about 37 = .ok (.getfield 20, 3) := by decide +kernel
theorem dX4_about_40 : decode cX4_about 40 = .ok (.iload_n 1, 1) := by decide +kernel
theorem dX4_about_41 : decode cX4_about 41 = .ok (.iaload, 1) := by decide +kernel
theorem dX4_about_42 : decode cX4_about 42 = .ok (.goto 44, 3) := by decide +kernel
theorem dX4_about_45 : decode cX4_about 45 = .ok (.iload_n 2, 1) := by decide +kernel
theorem dX4_about_46 : decode cX4_about 46 = .ok (.iconst 1, 1) := by decide +kernel
theorem dX4_about_47 : decode cX4_about 47 = .ok (.if_icmp .ne 12, 3) := by decide +kernel
theorem dX4_about_50 : decode cX4_about 50 = .ok (.aload_n 0, 1) := by decide +kernel
theorem dX4_about_51 : decode cX4_about 51 = .ok (.getfield 24, 3) := by decide +kernel
theorem dX4_about_54 : decode cX4_about 54 = .ok (.iload_n 1, 1) := by decide +kernel
theorem dX4_about_55 : decode cX4_about 55 = .ok (.iaload, 1) := by decide +kernel
theorem dX4_about_56 : decode cX4_about 56 = .ok (.goto 30, 3) := by decide +kernel
theorem dX4_about_59 : decode cX4_about 59 = .ok (.iload_n 2, 1) := by decide +kernel
theorem dX4_about_60 : decode cX4_about 60 = .ok (.iconst 2, 1) := by decide +kernel
theorem dX4_about_61 : decode cX4_about 61 = .ok (.if_icmp .ne 11, 3) := by decide +kernel
theorem dX4_about_64 : decode cX4_about 64 = .ok (.aload_n 0, 1) := by decide +kernel
theorem dX4_about_65 : decode cX4_about 65 = .ok (.iload_n 1, 1) := by decide +kernel
theorem dX4_about_66 : decode cX4_about 66 = .ok (.invokevirtual 123, 3) := by decide +kernel
theorem dX4_about_69 : decode cX4_about 69 = .ok (.goto 17, 3) := by decide +kernel
theorem dX4_about_72 : decode cX4_about 72 = .ok (.aload_n 0, 1) := by decide +kernel
theorem dX4_about_73 : decode cX4_about 73 = .ok (.getfield 17, 3) := by decide +kernel
theorem dX4_about_76 : decode cX4_about 76 = .ok (.iload_n 1, 1) := by decide +kernel
theorem dX4_about_77 : decode cX4_about 77 = .ok (.baload, 1) := by decide +kernel
theorem dX4_about_78 : decode cX4_about 78 = .ok (.ifCond .eq 7, 3) := by decide +kernel
theorem dX4_about_81 : decode cX4_about 81 = .ok (.iconst 1, 1) := by decide +kernel
theorem dX4_about_82 : decode cX4_about 82 = .ok (.goto 4, 3) := by decide +kernel
theorem dX4_about_85 : decode cX4_about 85 = .ok (.iconst 0, 1) := by decide +kernel
theorem dX4_about_86 : decode cX4_about 86 = .ok (.ireturn, 1) := by decide +kernel
theorem dX4_count_0 : decode cX4_count 0 = .ok (.aload_n 0, 1) := by decide +kernel
theorem dX4_count_1 : decode cX4_count 1 = .ok (.iload_n 1, 1) := by decide +kernel
theorem dX4_count_2 : decode cX4_count 2 = .ok (.ifCond .lt 13, 3) := by decide +kernel
theorem dX4_count_5 : decode cX4_count 5 = .ok (.iload_n 1, 1) := by decide +kernel
theorem dX4_count_6 : decode cX4_count 6 = .ok (.bipush 6, 2) := by decide +kernel
theorem dX4_count_8 : decode cX4_count 8 = .ok (.if_icmp .gt 7, 3) := by decide +kernel
theorem dX4_count_11 : decode cX4_count 11 = .ok (.iconst 1, 1) := by decide +kernel
theorem dX4_count_12 : decode cX4_count 12 = .ok (.goto 4, 3) := by decide +kernel
theorem dX4_count_15 : decode cX4_count 15 = .ok (.iconst 0, 1) := by decide +kernel
theorem dX4_count_16 : decode cX4_count 16 = .ok (.iconst 1, 1) := by decide +kernel
theorem dX4_count_17 : decode cX4_count 17 = .ok (.invokevirtual 66, 3) := by decide +kernel
theorem dX4_count_20 : decode cX4_count 20 = .ok (.ifCond .ne 5, 3) := by decide +kernel
theorem dX4_count_23 : decode cX4_count 23 = .ok (.iconst 0, 1) := by decide +kernel
theorem dX4_count_24 : decode cX4_count 24 = .ok (.ireturn, 1) := by decide +kernel
theorem dX4_count_25 : decode cX4_count 25 = .ok (.iconst 0, 1) := by decide +kernel
theorem dX4_count_26 : decode cX4_count 26 = .ok (.istore_n 2, 1) := by decide +kernel
theorem dX4_count_27 : decode cX4_count 27 = .ok (.iconst 0, 1) := by decide +kernel
theorem dX4_count_28 : decode cX4_count 28 = .ok (.istore_n 3, 1) := by decide +kernel
theorem dX4_count_29 : decode cX4_count 29 = .ok (.iload_n 3, 1) := by decide +kernel
theorem dX4_count_30 : decode cX4_count 30 = .ok (.sipush 512, 3) := by decide +kernel
theorem dX4_count_33 : decode cX4_count 33 = .ok (.if_icmp .ge 26, 3) := by decide +kernel
theorem dX4_count_36 : decode cX4_count 36 = .ok (.aload_n 0, 1) := by decide +kernel
theorem dX4_count_37 : decode cX4_count 37 = .ok (.getfield 17, 3) := by decide +kernel
theorem dX4_count_40 : decode cX4_count 40 = .ok (.iload_n 3, 1) := by decide +kernel
theorem dX4_count_41 : decode cX4_count 41 = .ok (.baload, 1) := by decide +kernel
theorem dX4_count_42 : decode cX4_count 42 = .ok (.ifCond .eq 9, 3) := by decide +kernel
theorem dX4_count_45 : decode cX4_count 45 = .ok (.iload_n 2, 1) := by decide +kernel
theorem dX4_count_46 : decode cX4_count 46 = .ok (.iconst 1, 1) := by decide +kernel
theorem dX4_count_47 : decode cX4_count 47 = .ok (.iadd, 1) := by decide +kernel
theorem dX4_count_48 : decode cX4_count 48 = .ok (.goto 4, 3) := by decide +kernel
theorem dX4_count_51 : decode cX4_count 51 = .ok (.iload_n 2, 1) := by decide +kernel
theorem dX4_count_52 : decode cX4_count 52 = .ok (.istore_n 2, 1) := by decide +kernel
theorem dX4_count_53 : decode cX4_count 53 = .ok (.iinc 3 1, 3) := by decide +kernel
theorem dX4_count_56 : decode cX4_count 56 = .ok (.goto (-27), 3) := by decide +kernel
theorem dX4_count_59 : decode cX4_count 59 = .ok (.iload_n 1, 1) := by decide +kernel
theorem dX4_count_60 : decode cX4_count 60 = .ok (.tableswitch 76 0 5 #[40, 45, 53, 61, 69, 74], 40) := by decide +kernel
theorem dX4_count_100 : decode cX4_count 100 = .ok (.aload_n 0, 1) := by decide +kernel
theorem dX4_count_101 : decode cX4_count 101 = .ok (.invokevirtual 90, 3) := by decide +kernel
theorem dX4_count_104 : decode cX4_count 104 = .ok (.ireturn, 1) := by decide +kernel
theorem dX4_count_105 : decode cX4_count 105 = .ok (.aload_n 0, 1) := by decide +kernel
theorem dX4_count_106 : decode cX4_count 106 = .ok (.getfield 33, 3) := by decide +kernel
theorem dX4_count_109 : decode cX4_count 109 = .ok (.invokestatic 136, 3) := by decide +kernel
theorem dX4_count_112 : decode cX4_count 112 = .ok (.ireturn, 1) := by decide +kernel
theorem dX4_count_113 : decode cX4_count 113 = .ok (.aload_n 0, 1) := by decide +kernel
theorem dX4_count_114 : decode cX4_count 114 = .ok (.getfield 39, 3) := by decide +kernel
theorem dX4_count_117 : decode cX4_count 117 = .ok (.invokestatic 136, 3) := by decide +kernel
theorem dX4_count_120 : decode cX4_count 120 = .ok (.ireturn, 1) := by decide +kernel
theorem dX4_count_121 : decode cX4_count 121 = .ok (.aload_n 0, 1) := by decide +kernel
theorem dX4_count_122 : decode cX4_count 122 = .ok (.getfield 42, 3) := by decide +kernel
theorem dX4_count_125 : decode cX4_count 125 = .ok (.invokestatic 136, 3) := by decide +kernel
theorem dX4_count_128 : decode cX4_count 128 = .ok (.ireturn, 1) := by decide +kernel
theorem dX4_count_129 : decode cX4_count 129 = .ok (.aload_n 0, 1) := by decide +kernel
theorem dX4_count_130 : decode cX4_count 130 = .ok (.getfield 140, 3) := by decide +kernel
theorem dX4_count_133 : decode cX4_count 133 = .ok (.ireturn, 1) := by decide +kernel
theorem dX4_count_134 : decode cX4_count 134 = .ok (.iload_n 2, 1) := by decide +kernel
theorem dX4_count_135 : decode cX4_count 135 = .ok (.ireturn, 1) := by decide +kernel
theorem dX4_count_136 : decode cX4_count 136 = .ok (.aload_n 0, 1) := by decide +kernel
theorem dX4_count_137 : decode cX4_count 137 = .ok (.getfield 147, 3) := by decide +kernel
theorem dX4_count_140 : decode cX4_count 140 = .ok (.ireturn, 1) := by decide +kernel
