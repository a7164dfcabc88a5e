theorem dX0_init_0 : decode cX0_init 0 = .ok (.aload_n 0, 1) := by decide +kernel
theorem dX0_init_1 : decode cX0_init 1 = .ok (.invokespecial 1, 3) := by decide +kernel
theorem dX0_init_4 : decode cX0_init 4 = .ok (.aload_n 0, 1) := by decide +kernel
theorem dX0_init_5 : decode cX0_init 5 = .ok (.new 7, 3) := by decide +kernel
theorem dX0_init_8 : decode cX0_init 8 = .ok (.dup, 1) := by decide +kernel
theorem dX0_init_9 : decode cX0_init 9 = .ok (.invokespecial 9, 3) := by decide +kernel
theorem dX0_init_12 : decode cX0_init 12 = .ok (.putfield 10, 3) := by decide +kernel
theorem dX0_init_15 : decode cX0_init 15 = .ok (.aload_n 0, 1) := by decide +kernel
theorem dX0_init_16 : decode cX0_init 16 = .ok (.new 7, 3) := by decide +kernel
theorem dX0_init_19 : decode cX0_init 19 = .ok (.dup, 1) := by decide +kernel
theorem dX0_init_20 : decode cX0_init 20 = .ok (.invokespecial 9, 3) := by decide +kernel
theorem dX0_init_23 : decode cX0_init 23 = .ok (.putfield 16, 3) := by decide +kernel
theorem dX0_init_26 : decode cX0_init 26 = .ok (.return_, 1) := by decide +kernel
theorem dX0_appear_0 : decode cX0_appear 0 = .ok (.aload_n 0, 1) := by decide +kernel
theorem dX0_appear_1 : decode cX0_appear 1 = .ok (.iconst 1, 1) := by decide +kernel
theorem dX0_appear_2 : decode cX0_appear 2 = .ok (.putfield 19, 3) := by decide +kernel
theorem dX0_appear_5 : decode cX0_appear 5 = .ok (.aload_n 0, 1) := by decide +kernel
theorem dX0_appear_6 : decode cX0_appear 6 = .ok (.getfield 10, 3) := by decide +kernel
theorem dX0_appear_9 : decode cX0_appear 9 = .ok (.aload_n 1, 1) := by decide +kernel
theorem dX0_appear_10 : decode cX0_appear 10 = .ok (.invokevirtual 23, 3) := by decide +kernel
theorem dX0_appear_13 : decode cX0_appear 13 = .ok (.aload_n 0, 1) := by decide +kernel
theorem dX0_appear_14 : decode cX0_appear 14 = .ok (.getfield 16, 3) := by decide +kernel
theorem dX0_appear_17 : decode cX0_appear 17 = .ok (.aload_n 1, 1) := by decide +kernel
theorem dX0_appear_18 : decode cX0_appear 18 = .ok (.invokevirtual 23, 3) := by decide +kernel
theorem dX0_appear_21 : decode cX0_appear 21 = .ok (.aload_n 0, 1) := by decide +kernel
theorem dX0_appear_22 : decode cX0_appear 22 = .ok (.getfield 16, 3) := by decide +kernel
theorem dX0_appear_25 : decode cX0_appear 25 = .ok (.fconst 0, 1) := by decide +kernel
theorem dX0_appear_26 : decode cX0_appear 26 = .ok (.fconst 0, 1) := by decide +kernel
theorem dX0_appear_27 : decode cX0_appear 27 = .ok (.fconst 0, 1) := by decide +kernel
theorem dX0_appear_28 : decode cX0_appear 28 = .ok (.invokevirtual 27, 3) := by decide +kernel
theorem dX0_appear_31 : decode cX0_appear 31 = .ok (.aload_n 0, 1) := by decide +kernel
theorem dX0_appear_32 : decode cX0_appear 32 = .ok (.iload_n 2, 1) := by decide +kernel
theorem dX0_appear_33 : decode cX0_appear 33 = .ok (.iload_n 3, 1) := by decide +kernel
theorem dX0_appear_34 : decode cX0_appear 34 = .ok (.invokevirtual 31, 3) := by decide +kernel
theorem dX0_appear_37 : decode cX0_appear 37 = .ok (.return_, 1) := by decide +kernel
theorem dX0_leave_0 : decode cX0_leave 0 = .ok (.aload_n 0, 1) := by decide +kernel
theorem dX0_leave_1 : decode cX0_leave 1 = .ok (.iconst 0, 1) := by decide +kernel
theorem dX0_leave_2 : decode cX0_leave 2 = .ok (.putfield 19, 3) := by decide +kernel
theorem dX0_leave_5 : decode cX0_leave 5 = .ok (.aload_n 0, 1) := by decide +kernel
theorem dX0_leave_6 : decode cX0_leave 6 = .ok (.iconst 0, 1) := by decide +kernel
theorem dX0_leave_7 : decode cX0_leave 7 = .ok (.putfield 35, 3) := by decide +kernel
theorem dX0_leave_10 : decode cX0_leave 10 = .ok (.return_, 1) := by decide +kernel
theorem dX0_setFilter_0 : decode cX0_setFilter 0 = .ok (.aload_n 0, 1) := by decide +kernel
theorem dX0_setFilter_1 : decode cX0_setFilter 1 = .ok (.iload_n 1, 1) := by decide +kernel
theorem dX0_setFilter_2 : decode cX0_setFilter 2 = .ok (.putfield 38, 3) := by decide +kernel
theorem dX0_setFilter_5 : decode cX0_setFilter 5 = .ok (.aload_n 0, 1) := by decide +kernel
theorem dX0_setFilter_6 : decode cX0_setFilter 6 = .ok (.iload_n 2, 1) := by decide +kernel
theorem dX0_setFilter_7 : decode cX0_setFilter 7 = .ok (.putfield 42, 3) := by decide +kernel
theorem dX0_setFilter_10 : decode cX0_setFilter 10 = .ok (.aload_n 0, 1) := by decide +kernel
theorem dX0_setFilter_11 : decode cX0_setFilter 11 = .ok (.iconst 1, 1) := by decide +kernel
theorem dX0_setFilter_12 : decode cX0_setFilter 12 = .ok (.putfield 35, 3) := by decide +kernel
theorem dX0_setFilter_15 : decode cX0_setFilter 15 = .ok (.return_, 1) := by decide +kernel
theorem dX0_moveTo_0 : decode cX0_moveTo 0 = .ok (.aload_n 0, 1) := by decide +kernel
theorem dX0_moveTo_1 : decode cX0_moveTo 1 = .ok (.getfield 10, 3) := by decide +kernel
theorem dX0_moveTo_4 : decode cX0_moveTo 4 = .ok (.aload_n 1, 1) := by decide +kernel
theorem dX0_moveTo_5 : decode cX0_moveTo 5 = .ok (.invokevirtual 23, 3) := by decide +kernel
theorem dX0_moveTo_8 : decode cX0_moveTo 8 = .ok (.aload_n 0, 1) := by decide +kernel
theorem dX0_moveTo_9 : decode cX0_moveTo 9 = .ok (.getfield 10, 3) := by decide +kernel
theorem dX0_moveTo_12 : decode cX0_moveTo 12 = .ok (.aload_n 0, 1) := by decide +kernel
theorem dX0_moveTo_13 : decode cX0_moveTo 13 = .ok (.getfield 16, 3) := by decide +kernel
theorem dX0_moveTo_16 : decode cX0_moveTo 16 = .ok (.invokevirtual 45, 3) := by decide +kernel
theorem dX0_moveTo_19 : decode cX0_moveTo 19 = .ok (.ifCond .eq 5, 3) := by decide +kernel
theorem dX0_moveTo_22 : decode cX0_moveTo 22 = .ok (.iconst 0, 1) := by decide +kernel
theorem dX0_moveTo_23 : decode cX0_moveTo 23 = .ok (.ireturn, 1) := by decide +kernel
theorem dX0_moveTo_24 : decode cX0_moveTo 24 = .ok (.aload_n 0, 1) := by decide +kernel
theorem dX0_moveTo_25 : decode cX0_moveTo 25 = .ok (.getfield 16, 3) := by decide +kernel
theorem dX0_moveTo_28 : decode cX0_moveTo 28 = .ok (.aload_n 1, 1) := by decide +kernel
theorem dX0_moveTo_29 : decode cX0_moveTo 29 = .ok (.invokevirtual 23, 3) := by decide +kernel
theorem dX0_moveTo_32 : decode cX0_moveTo 32 = .ok (.aload_n 0, 1) := by decide +kernel
theorem dX0_moveTo_33 : decode cX0_moveTo 33 = .ok (.getfield 16, 3) := by decide +kernel
theorem dX0_moveTo_36 : decode cX0_moveTo 36 = .ok (.fload_n 2, 1) := by decide +kernel
theorem dX0_moveTo_37 : decode cX0_moveTo 37 = .ok (.fload_n 3, 1) := by decide +kernel
theorem dX0_moveTo_38 : decode cX0_moveTo 38 = .ok (.fload 4, 2) := by decide +kernel
theorem dX0_moveTo_40 : decode cX0_moveTo 40 = .ok (.invokevirtual 27, 3) := by decide +kernel
theorem dX0_moveTo_43 : decode cX0_moveTo 43 = .ok (.aload_n 0, 1) := by decide +kernel
theorem dX0_moveTo_44 : decode cX0_moveTo 44 = .ok (.iconst 1, 1) := by decide +kernel
theorem dX0_moveTo_45 : decode cX0_moveTo 45 = .ok (.putfield 35, 3) := by decide +kernel
theorem dX0_moveTo_48 : decode cX0_moveTo 48 = .ok (.iconst 1, 1) := by decide +kernel
theorem dX0_moveTo_49 : decode cX0_moveTo 49 = .ok (.ireturn, 1) := by decide +kernel
theorem dX0_pairsWith_0 : decode cX0_pairsWith 0 = .ok (.aload_n 0, 1) := by decide +kernel
theorem dX0_pairsWith_1 : decode cX0_pairsWith 1 = .ok (.getfield 19, 3) := by decide +kernel
theorem dX0_pairsWith_4 : decode cX0_pairsWith 4 = .ok (.ifCond .eq 52, 3) := by decide +kernel
theorem dX0_pairsWith_7 : decode cX0_pairsWith 7 = .ok (.aload_n 1, 1) := by decide +kernel
theorem dX0_pairsWith_8 : decode cX0_pairsWith 8 = .ok (.getfield 19, 3) := by decide +kernel
theorem dX0_pairsWith_11 : decode cX0_pairsWith 11 = .ok (.ifCond .eq 45, 3) := by decide +kernel
theorem dX0_pairsWith_14 : decode cX0_pairsWith 14 = .ok (.aload_n 0, 1) := by decide +kernel
theorem dX0_pairsWith_15 : decode cX0_pairsWith 15 = .ok (.getfield 38, 3) := by decide +kernel
theorem dX0_pairsWith_18 : decode cX0_pairsWith 18 = .ok (.aload_n 1, 1) := by decide +kernel
theorem dX0_pairsWith_19 : decode cX0_pairsWith 19 = .ok (.getfield 42, 3) := by decide +kernel
theorem dX0_pairsWith_22 : decode cX0_pairsWith 22 = .ok (.iand, 1) := by decide +kernel
theorem dX0_pairsWith_23 : decode cX0_pairsWith 23 = .ok (.ifCond .eq 33, 3) := by decide +kernel
theorem dX0_pairsWith_26 : decode cX0_pairsWith 26 = .ok (.aload_n 1, 1) := by decide +kernel
theorem dX0_pairsWith_27 : decode cX0_pairsWith 27 = .ok (.getfield 38, 3) := by decide +kernel
theorem dX0_pairsWith_30 : decode cX0_pairsWith 30 = .ok (.aload_n 0, 1) := by decide +kernel
theorem dX0_pairsWith_31 : decode cX0_pairsWith 31 = .ok (.getfield 42, 3) := by decide +kernel
theorem dX0_pairsWith_34 : decode cX0_pairsWith 34 = .ok (.iand, 1) := by decide +kernel
theorem dX0_pairsWith_35 : decode cX0_pairsWith 35 = .ok (.ifCond .eq 21, 3) := by decide +kernel
theorem dX0_pairsWith_38 : decode cX0_pairsWith 38 = .ok (.aload_n 0, 1) := by decide +kernel
theorem dX0_pairsWith_39 : decode cX0_pairsWith 39 = .ok (.getfield 16, 3) := by decide +kernel
theorem dX0_pairsWith_42 : decode cX0_pairsWith 42 = .ok (.aload_n 1, 1) := by decide +kernel
theorem dX0_pairsWith_43 : decode cX0_pairsWith 43 = .ok (.getfield 16, 3) := by decide +kernel
theorem dX0_pairsWith_46 : decode cX0_pairsWith 46 = .ok (.invokevirtual 49, 3) := by decide +kernel
theorem dX0_pairsWith_49 : decode cX0_pairsWith 49 = .ok (.ifCond .eq 7, 3) := by decide +kernel
theorem dX0_pairsWith_52 : decode cX0_pairsWith 52 = .ok (.iconst 1, 1) := by decide +kernel
theorem dX0_pairsWith_53 : decode cX0_pairsWith 53 = .ok (.goto 4, 3) := by decide +kernel
theorem dX0_pairsWith_56 : decode cX0_pairsWith 56 = .ok (.iconst 0, 1) := by decide +kernel
theorem dX0_pairsWith_57 : decode cX0_pairsWith 57 = .ok (.ireturn, 1) := by decide +kernel
theorem dX1_init_0 : decode cX1_init 0 = .ok (.aload_n 0, 1) := by decide +kernel
theorem dX1_init_1 : decode cX1_init 1 = .ok (.invokespecial 3, 3) := by decide +kernel
theorem dX1_init_4 : decode cX1_init 4 = .ok (.aload_n 0, 1) := by decide +kernel
theorem dX1_init_5 : decode cX1_init 5 = .ok (.bipush 6, 2) := by decide +kernel
theorem dX1_init_7 : decode cX1_init 7 = .ok (.newarray .float, 2) := by decide +kernel
theorem dX1_init_9 : decode cX1_init 9 = .ok (.putfield 11, 3) := by decide +kernel
theorem dX1_init_12 : decode cX1_init 12 = .ok (.return_, 1) := by decide +kernel
theorem dX1_setCorner_0 : decode cX1_setCorner 0 = .ok (.iload_n 1, 1) := by decide +kernel
theorem dX1_setCorner_1 : decode cX1_setCorner 1 = .ok (.ifCond .ne 7, 3) := by decide +kernel
theorem dX1_setCorner_4 : decode cX1_setCorner 4 = .ok (.iconst 0, 1) := by decide +kernel
theorem dX1_setCorner_5 : decode cX1_setCorner 5 = .ok (.goto 4, 3) := by decide +kernel
theorem dX1_setCorner_8 : decode cX1_setCorner 8 = .ok (.iconst 3, 1) := by decide +kernel
theorem dX1_setCorner_9 : decode cX1_setCorner 9 = .ok (.istore 5, 2) := by decide +kernel
theorem dX1_setCorner_11 : decode cX1_setCorner 11 = .ok (.aload_n 0, 1) := by decide +kernel
theorem dX1_setCorner_12 : decode cX1_setCorner 12 = .ok (.getfield 11, 3) := by decide +kernel
theorem dX1_setCorner_15 : decode cX1_setCorner 15 = .ok (.iload 5, 2) := by decide +kernel
theorem dX1_setCorner_17 : decode cX1_setCorner 17 = .ok (.fload_n 2, 1) := by decide +kernel
theorem dX1_setCorner_18 : decode cX1_setCorner 18 = .ok (.fastore, 1) := by decide +kernel
theorem dX1_setCorner_19 : decode cX1_setCorner 19 = .ok (.aload_n 0, 1) := by decide +kernel
theorem dX1_setCorner_20 : decode cX1_setCorner 20 = .ok (.getfield 11, 3) := by decide +kernel
theorem dX1_setCorner_23 : decode cX1_setCorner 23 = .ok (.iload 5, 2) := by decide +kernel
theorem dX1_setCorner_25 : decode cX1_setCorner 25 = .ok (.iconst 1, 1) := by decide +kernel
theorem dX1_setCorner_26 : decode cX1_setCorner 26 = .ok (.iadd, 1) := by decide +kernel
theorem dX1_setCorner_27 : decode cX1_setCorner 27 = .ok (.fload_n 3, 1) := by decide +kernel
theorem dX1_setCorner_28 : decode cX1_setCorner 28 = .ok (.fastore, 1) := by decide +kernel
theorem dX1_setCorner_29 : decode cX1_setCorner 29 = .ok (.aload_n 0, 1) := by decide +kernel
theorem dX1_setCorner_30 : decode cX1_setCorner 30 = .ok (.getfield 11, 3) := by decide +kernel
theorem dX1_setCorner_33 : decode cX1_setCorner 33 = .ok (.iload 5, 2) := by decide +kernel
theorem dX1_setCorner_35 : decode cX1_setCorner 35 = .ok (.iconst 2, 1) := by decide +kernel
theorem dX1_setCorner_36 : decode cX1_setCorner 36 = .ok (.iadd, 1) := by decide +kernel
theorem dX1_setCorner_37 : decode cX1_setCorner 37 = .ok (.fload 4, 2) := by decide +kernel
theorem dX1_setCorner_39 : decode cX1_setCorner 39 = .ok (.fastore, 1) := by decide +kernel
theorem dX1_setCorner_40 : decode cX1_setCorner 40 = .ok (.return_, 1) := by decide +kernel
theorem dX1_copyFrom_0 : decode cX1_copyFrom 0 = .ok (.aload_n 1, 1) := by decide +kernel
theorem dX1_copyFrom_1 : decode cX1_copyFrom 1 = .ok (.getfield 11, 3) := by decide +kernel
theorem dX1_copyFrom_4 : decode cX1_copyFrom 4 = .ok (.iconst 0, 1) := by decide +kernel
theorem dX1_copyFrom_5 : decode cX1_copyFrom 5 = .ok (.aload_n 0, 1) := by decide +kernel
theorem dX1_copyFrom_6 : decode cX1_copyFrom 6 = .ok (.getfield 11, 3) := by decide +kernel
theorem dX1_copyFrom_9 : decode cX1_copyFrom 9 = .ok (.iconst 0, 1) := by decide +kernel
theorem dX1_copyFrom_10 : decode cX1_copyFrom 10 = .ok (.bipush 6, 2) := by decide +kernel
theorem dX1_copyFrom_12 : decode cX1_copyFrom 12 = .ok (.invokestatic 15, 3) := by decide +kernel
theorem dX1_copyFrom_15 : decode cX1_copyFrom 15 = .ok (.return_, 1) := by decide +kernel
theorem dX1_moveBy_0 : decode cX1_moveBy 0 = .ok (.iconst 0, 1) := by decide +kernel
theorem dX1_moveBy_1 : decode cX1_moveBy 1 = .ok (.istore 4, 2) := by decide +kernel
theorem dX1_moveBy_3 : decode cX1_moveBy 3 = .ok (.iload 4, 2) := by decide +kernel
theorem dX1_moveBy_5 : decode cX1_moveBy 5 = .ok (.iconst 3, 1) := by decide +kernel
theorem dX1_moveBy_6 : decode cX1_moveBy 6 = .ok (.if_icmp .gt 65, 3) := by decide +kernel
theorem dX1_moveBy_9 : decode cX1_moveBy 9 = .ok (.aload_n 0, 1) := by decide +kernel
theorem dX1_moveBy_10 : decode cX1_moveBy 10 = .ok (.getfield 11, 3) := by decide +kernel
theorem dX1_moveBy_13 : decode cX1_moveBy 13 = .ok (.iload 4, 2) := by decide +kernel
theorem dX1_moveBy_15 : decode cX1_moveBy 15 = .ok (.aload_n 0, 1) := by decide +kernel
theorem dX1_moveBy_16 : decode cX1_moveBy 16 = .ok (.getfield 11, 3) := by decide +kernel
theorem dX1_moveBy_19 : decode cX1_moveBy 19 = .ok (.iload 4, 2) := by decide +kernel
theorem dX1_moveBy_21 : decode cX1_moveBy 21 = .ok (.faload, 1) := by decide +kernel
theorem dX1_moveBy_22 : decode cX1_moveBy 22 = .ok (.fload_n 1, 1) := by decide +kernel
theorem dX1_moveBy_23 : decode cX1_moveBy 23 = .ok (.fadd, 1) := by decide +kernel
theorem dX1_moveBy_24 : decode cX1_moveBy 24 = .ok (.fastore, 1) := by decide +kernel
theorem dX1_moveBy_25 : decode cX1_moveBy 25 = .ok (.aload_n 0, 1) := by decide +kernel
theorem dX1_moveBy_26 : decode cX1_moveBy 26 = .ok (.getfield 11, 3) := by decide +kernel
theorem dX1_moveBy_29 : decode cX1_moveBy 29 = .ok (.iload 4, 2) := by decide +kernel
theorem dX1_moveBy_31 : decode cX1_moveBy 31 = .ok (.iconst 1, 1) := by decide +kernel
theorem dX1_moveBy_32 : decode cX1_moveBy 32 = .ok (.iadd, 1) := by decide +kernel
theorem dX1_moveBy_33 : decode cX1_moveBy 33 = .ok (.aload_n 0, 1) := by decide +kernel
theorem dX1_moveBy_34 : decode cX1_moveBy 34 = .ok (.getfield 11, 3) := by decide +kernel
theorem dX1_moveBy_37 : decode cX1_moveBy 37 = .ok (.iload 4, 2) := by decide +kernel
theorem dX1_moveBy_39 : decode cX1_moveBy 39 = .ok (.iconst 1, 1) := by decide +kernel
theorem dX1_moveBy_40 : decode cX1_moveBy 40 = .ok (.iadd, 1) := by decide +kernel
theorem dX1_moveBy_41 : decode cX1_moveBy 41 = .ok (.faload, 1) := by decide +kernel
theorem dX1_moveBy_42 : decode cX1_moveBy 42 = .ok (.fload_n 2, 1) := by decide +kernel
theorem dX1_moveBy_43 : decode cX1_moveBy 43 = .ok (.fadd, 1) := by decide +kernel
theorem dX1_moveBy_44 : decode cX1_moveBy 44 = .ok (.fastore, 1) := by decide +kernel
theorem dX1_moveBy_45 : decode cX1_moveBy 45 = .ok (.aload_n 0, 1) := by decide +kernel
theorem dX1_moveBy_46 : decode cX1_moveBy 46 = .ok (.getfield 11, 3) := by decide +kernel
theorem dX1_moveBy_49 : decode cX1_moveBy 49 = .ok (.iload 4, 2) := by decide +kernel
theorem dX1_moveBy_51 : decode cX1_moveBy 51 = .ok (.iconst 2, 1) := by decide +kernel
theorem dX1_moveBy_52 : decode cX1_moveBy 52 = .ok (.iadd, 1) := by decide +kernel
theorem dX1_moveBy_53 : decode cX1_moveBy 53 = .ok (.aload_n 0, 1) := by decide +kernel
theorem dX1_moveBy_54 : decode cX1_moveBy 54 = .ok (.getfield 11, 3) := by decide +kernel
theorem dX1_moveBy_57 : decode cX1_moveBy 57 = .ok (.iload 4, 2) := by decide +kernel
theorem dX1_moveBy_59 : decode cX1_moveBy 59 = .ok (.iconst 2, 1) := by decide +kernel
theorem dX1_moveBy_60 : decode cX1_moveBy 60 = .ok (.iadd, 1) := by decide +kernel
theorem dX1_moveBy_61 : decode cX1_moveBy 61 = .ok (.faload, 1) := by decide +kernel
theorem dX1_moveBy_62 : decode cX1_moveBy 62 = .ok (.fload_n 3, 1) := by decide +kernel
theorem dX1_moveBy_63 : decode cX1_moveBy 63 = .ok (.fadd, 1) := by decide +kernel
theorem dX1_moveBy_64 : decode cX1_moveBy 64 = .ok (.fastore, 1) := by decide +kernel
theorem dX1_moveBy_65 : decode cX1_moveBy 65 = .ok (.iinc 4 3, 3) := by decide +kernel
theorem dX1_moveBy_68 : decode cX1_moveBy 68 = .ok (.goto (-65), 3) := by decide +kernel
theorem dX1_moveBy_71 : decode cX1_moveBy 71 = .ok (.return_, 1) := by decide +kernel
theorem dX1_widen_0 : decode cX1_widen 0 = .ok (.aload_n 0, 1) := by decide +kernel
theorem dX1_widen_1 : decode cX1_widen 1 = .ok (.iconst 0, 1) := by decide +kernel
theorem dX1_widen_2 : decode cX1_widen 2 = .ok (.fload_n 1, 1) := by decide +kernel
theorem dX1_widen_3 : decode cX1_widen 3 = .ok (.invokevirtual 21, 3) := by decide +kernel
theorem dX1_widen_6 : decode cX1_widen 6 = .ok (.aload_n 0, 1) := by decide +kernel
theorem dX1_widen_7 : decode cX1_widen 7 = .ok (.iconst 1, 1) := by decide +kernel
theorem dX1_widen_8 : decode cX1_widen 8 = .ok (.fload_n 2, 1) := by decide +kernel
theorem dX1_widen_9 : decode cX1_widen 9 = .ok (.invokevirtual 21, 3) := by decide +kernel
theorem dX1_widen_12 : decode cX1_widen 12 = .ok (.aload_n 0, 1) := by decide +kernel
theorem dX1_widen_13 : decode cX1_widen 13 = .ok (.iconst 2, 1) := by decide +kernel
theorem dX1_widen_14 : decode cX1_widen 14 = .ok (.fload_n 3, 1) := by decide +kernel
theorem dX1_widen_15 : decode cX1_widen 15 = .ok (.invokevirtual 21, 3) := by decide +kernel
theorem dX1_widen_18 : decode cX1_widen 18 = .ok (.return_, 1) := by decide +kernel
theorem dX1_widenAxis_0 : decode cX1_widenAxis 0 = .ok (.aload_n 0, 1) := by decide +kernel
theorem dX1_widenAxis_1 : decode cX1_widenAxis 1 = .ok (.getfield 11, 3) := by decide +kernel
theorem dX1_widenAxis_4 : decode cX1_widenAxis 4 = .ok (.iconst 0, 1) := by decide +kernel
theorem dX1_widenAxis_5 : decode cX1_widenAxis 5 = .ok (.iload_n 1, 1) := by decide +kernel
theorem dX1_widenAxis_6 : decode cX1_widenAxis 6 = .ok (.iadd, 1) := by decide +kernel
theorem dX1_widenAxis_7 : decode cX1_widenAxis 7 = .ok (.faload, 1) := by decide +kernel
theorem dX1_widenAxis_8 : decode cX1_widenAxis 8 = .ok (.ldc 25, 2) := by decide +kernel
theorem dX1_widenAxis_10 : decode cX1_widenAxis 10 = .ok (.fsub, 1) := by decide +kernel
theorem dX1_widenAxis_11 : decode cX1_widenAxis 11 = .ok (.fstore_n 3, 1) := by decide +kernel
theorem dX1_widenAxis_12 : decode cX1_widenAxis 12 = .ok (.aload_n 0, 1) := by decide +kernel
theorem dX1_widenAxis_13 : decode cX1_widenAxis 13 = .ok (.getfield 11, 3) := by decide +kernel
theorem dX1_widenAxis_16 : decode cX1_widenAxis 16 = .ok (.iconst 3, 1) := by decide +kernel
theorem dX1_widenAxis_17 : decode cX1_widenAxis 17 = .ok (.iload_n 1, 1) := by decide +kernel
theorem dX1_widenAxis_18 : decode cX1_widenAxis 18 = .ok (.iadd, 1) := by decide +kernel
theorem dX1_widenAxis_19 : decode cX1_widenAxis 19 = .ok (.faload, 1) := by decide +kernel
theorem dX1_widenAxis_20 : decode cX1_widenAxis 20 = .ok (.ldc 25, 2) := by decide +kernel
theorem dX1_widenAxis_22 : decode cX1_widenAxis 22 = .ok (.fadd, 1) := by decide +kernel
theorem dX1_widenAxis_23 : decode cX1_widenAxis 23 = .ok (.fstore 4, 2) := by decide +kernel
theorem dX1_widenAxis_25 : decode cX1_widenAxis 25 = .ok (.aload_n 0, 1) := by decide +kernel
theorem dX1_widenAxis_26 : decode cX1_widenAxis 26 = .ok (.getfield 11, 3) := by decide +kernel
theorem dX1_widenAxis_29 : decode cX1_widenAxis 29 = .ok (.iconst 0, 1) := by decide +kernel
theorem dX1_widenAxis_30 : decode cX1_widenAxis 30 = .ok (.iload_n 1, 1) := by decide +kernel
theorem dX1_widenAxis_31 : decode cX1_widenAxis 31 = .ok (.iadd, 1) := by decide +kernel
theorem dX1_widenAxis_32 : decode cX1_widenAxis 32 = .ok (.fload_n 2, 1) := by decide +kernel
theorem dX1_widenAxis_33 : decode cX1_widenAxis 33 = .ok (.fconst 0, 1) := by decide +kernel
theorem dX1_widenAxis_34 : decode cX1_widenAxis 34 = .ok (.fcmp .g, 1) := by decide +kernel
theorem dX1_widenAxis_35 : decode cX1_widenAxis 35 = .ok (.ifCond .ge 11, 3) := by decide +kernel
theorem dX1_widenAxis_38 : decode cX1_widenAxis 38 = .ok (.fload_n 3, 1) := by decide +kernel
theorem dX1_widenAxis_39 : decode cX1_widenAxis 39 = .ok (.fload_n 2, 1) := by decide +kernel
theorem dX1_widenAxis_40 : decode cX1_widenAxis 40 = .ok (.fconst 2, 1) := by decide +kernel
theorem dX1_widenAxis_41 : decode cX1_widenAxis 41 = .ok (.fmul, 1) := by decide +kernel
theorem dX1_widenAxis_42 : decode cX1_widenAxis 42 = .ok (.fadd, 1) := by decide +kernel
theorem dX1_widenAxis_43 : decode cX1_widenAxis 43 = .ok (.goto 4, 3) := by decide +kernel
theorem dX1_widenAxis_46 : decode cX1_widenAxis 46 = .ok (.fload_n 3, 1) := by decide +kernel
theorem dX1_widenAxis_47 : decode cX1_widenAxis 47 = .ok (.fastore, 1) := by decide +kernel
theorem dX1_widenAxis_48 : decode cX1_widenAxis 48 = .ok (.aload_n 0, 1) := by decide +kernel
theorem dX1_widenAxis_49 : decode cX1_widenAxis 49 = .ok (.getfield 11, 3) := by decide +kernel
theorem dX1_widenAxis_52 : decode cX1_widenAxis 52 = .ok (.iconst 3, 1) := by decide +kernel
theorem dX1_widenAxis_53 : decode cX1_widenAxis 53 = .ok (.iload_n 1, 1) := by decide +kernel
theorem dX1_widenAxis_54 : decode cX1_widenAxis 54 = .ok (.iadd, 1) := by decide +kernel
theorem dX1_widenAxis_55 : decode cX1_widenAxis 55 = .ok (.fload_n 2, 1) := by decide +kernel
theorem dX1_widenAxis_56 : decode cX1_widenAxis 56 = .ok (.fconst 0, 1) := by decide +kernel
theorem dX1_widenAxis_57 : decode cX1_widenAxis 57 = .ok (.fcmp .g, 1) := by decide +kernel
theorem dX1_widenAxis_58 : decode cX1_widenAxis 58 = .ok (.ifCond .ge 8, 3) := by decide +kernel
theorem dX1_widenAxis_61 : decode cX1_widenAxis 61 = .ok (.fload 4, 2) := by decide +kernel
theorem dX1_widenAxis_63 : decode cX1_widenAxis 63 = .ok (.goto 9, 3) := by decide +kernel
theorem dX1_widenAxis_66 : decode cX1_widenAxis 66 = .ok (.fload 4, 2) := by decide +kernel
theorem dX1_widenAxis_68 : decode cX1_widenAxis 68 = .ok (.fload_n 2, 1) := by decide +kernel
theorem dX1_widenAxis_69 : decode cX1_widenAxis 69 = .ok (.fconst 2, 1) := by decide +kernel
theorem dX1_widenAxis_70 : decode cX1_widenAxis 70 = .ok (.fmul, 1) := by decide +kernel
theorem dX1_widenAxis_71 : decode cX1_widenAxis 71 = .ok (.fadd, 1) := by decide +kernel
theorem dX1_widenAxis_72 : decode cX1_widenAxis 72 = .ok (.fastore, 1) := by decide +kernel
theorem dX1_widenAxis_73 : decode cX1_widenAxis 73 = .ok (.return_, 1) := by decide +kernel
theorem dX1_isBox_0 : decode cX1_isBox 0 = .ok (.iconst 0, 1) := by decide +kernel
theorem dX1_isBox_1 : decode cX1_isBox 1 = .ok (.istore_n 1, 1) := by decide +kernel
theorem dX1_isBox_2 : decode cX1_isBox 2 = .ok (.iload_n 1, 1) := by decide +kernel
theorem dX1_isBox_3 : decode cX1_isBox 3 = .ok (.iconst 3, 1) := by decide +kernel
theorem dX1_isBox_4 : decode cX1_isBox 4 = .ok (.if_icmp .ge 31, 3) := by decide +kernel
theorem dX1_isBox_7 : decode cX1_isBox 7 = .ok (.aload_n 0, 1) := by decide +kernel
theorem dX1_isBox_8 : decode cX1_isBox 8 = .ok (.getfield 11, 3) := by decide +kernel
theorem dX1_isBox_11 : decode cX1_isBox 11 = .ok (.iconst 0, 1) := by decide +kernel
theorem dX1_isBox_12 : decode cX1_isBox 12 = .ok (.iload_n 1, 1) := by decide +kernel
theorem dX1_isBox_13 : decode cX1_isBox 13 = .ok (.iadd, 1) := by decide +kernel
theorem dX1_isBox_14 : decode cX1_isBox 14 = .ok (.faload, 1) := by decide +kernel
theorem dX1_isBox_15 : decode cX1_isBox 15 = .ok (.aload_n 0, 1) := by decide +kernel
theorem dX1_isBox_16 : decode cX1_isBox 16 = .ok (.getfield 11, 3) := by decide +kernel
theorem dX1_isBox_19 : decode cX1_isBox 19 = .ok (.iconst 3, 1) := by decide +kernel
theorem dX1_isBox_20 : decode cX1_isBox 20 = .ok (.iload_n 1, 1) := by decide +kernel
theorem dX1_isBox_21 : decode cX1_isBox 21 = .ok (.iadd, 1) := by decide +kernel
theorem dX1_isBox_22 : decode cX1_isBox 22 = .ok (.faload, 1) := by decide +kernel
theorem dX1_isBox_23 : decode cX1_isBox 23 = .ok (.fcmp .l, 1) := by decide +kernel
theorem dX1_isBox_24 : decode cX1_isBox 24 = .ok (.ifCond .le 5, 3) := by decide +kernel
theorem dX1_isBox_27 : decode cX1_isBox 27 = .ok (.iconst 0, 1) := by decide +kernel
theorem dX1_isBox_28 : decode cX1_isBox 28 = .ok (.ireturn, 1) := by decide +kernel
theorem dX1_isBox_29 : decode cX1_isBox 29 = .ok (.iinc 1 1, 3) := by decide +kernel
theorem dX1_isBox_32 : decode cX1_isBox 32 = .ok (.goto (-30), 3) := by decide +kernel
theorem dX1_isBox_35 : decode cX1_isBox 35 = .ok (.iconst 1, 1) := by decide +kernel
theorem dX1_isBox_36 : decode cX1_isBox 36 = .ok (.ireturn, 1) := by decide +kernel
theorem dX1_isGood_0 : decode cX1_isGood 0 = .ok (.iconst 0, 1) := by decide +kernel
theorem dX1_isGood_1 : decode cX1_isGood 1 = .ok (.istore_n 1, 1) := by decide +kernel
theorem dX1_isGood_2 : decode cX1_isGood 2 = .ok (.iload_n 1, 1) := by decide +kernel
theorem dX1_isGood_3 : decode cX1_isGood 3 = .ok (.bipush 6, 2) := by decide +kernel
theorem dX1_isGood_5 : decode cX1_isGood 5 = .ok (.if_icmp .ge 26, 3) := by decide +kernel
theorem dX1_isGood_8 : decode cX1_isGood 8 = .ok (.aload_n 0, 1) := by decide +kernel
theorem dX1_isGood_9 : decode cX1_isGood 9 = .ok (.getfield 11, 3) := by decide +kernel
theorem dX1_isGood_12 : decode cX1_isGood 12 = .ok (.iload_n 1, 1) := by decide +kernel
theorem dX1_isGood_13 : decode cX1_isGood 13 = .ok (.faload, 1) := by decide +kernel
theorem dX1_isGood_14 : decode cX1_isGood 14 = .ok (.sipush 16384, 3) := by decide +kernel
theorem dX1_isGood_17 : decode cX1_isGood 17 = .ok (.invokestatic 26, 3) := by decide +kernel
theorem dX1_isGood_20 : decode cX1_isGood 20 = .ok (.ifCond .ne 5, 3) := by decide +kernel
theorem dX1_isGood_23 : decode cX1_isGood 23 = .ok (.iconst 0, 1) := by decide +kernel
theorem dX1_isGood_24 : decode cX1_isGood 24 = .ok (.ireturn, 1) := by decide +kernel
theorem dX1_isGood_25 : decode cX1_isGood 25 = .ok (.iinc 1 1, 3) := by decide +kernel
theorem dX1_isGood_28 : decode cX1_isGood 28 = .ok (.goto (-26), 3) := by decide +kernel
theorem dX1_isGood_31 : decode cX1_isGood 31 = .ok (.iconst 1, 1) := by decide +kernel
theorem dX1_isGood_32 : decode cX1_isGood 32 = .ok (.ireturn, 1) := by decide +kernel
theorem dX1_overlaps_0 : decode cX1_overlaps 0 = .ok (.iconst 0, 1) := by decide +kernel
theorem dX1_overlaps_1 : decode cX1_overlaps 1 = .ok (.istore_n 2, 1) := by decide +kernel
theorem dX1_overlaps_2 : decode cX1_overlaps 2 = .ok (.iload_n 2, 1) := by decide +kernel
theorem dX1_overlaps_3 : decode cX1_overlaps 3 = .ok (.iconst 3, 1) := by decide +kernel
theorem dX1_overlaps_4 : decode cX1_overlaps 4 = .ok (.if_icmp .ge 51, 3) := by decide +kernel
theorem dX1_overlaps_7 : decode cX1_overlaps 7 = .ok (.aload_n 0, 1) := by decide +kernel
theorem dX1_overlaps_8 : decode cX1_overlaps 8 = .ok (.getfield 11, 3) := by decide +kernel
theorem dX1_overlaps_11 : decode cX1_overlaps 11 = .ok (.iconst 0, 1) := by decide +kernel
theorem dX1_overlaps_12 : decode cX1_overlaps 12 = .ok (.iload_n 2, 1) := by decide +kernel
theorem dX1_overlaps_13 : decode cX1_overlaps 13 = .ok (.iadd, 1) := by decide +kernel
theorem dX1_overlaps_14 : decode cX1_overlaps 14 = .ok (.faload, 1) := by decide +kernel
theorem dX1_overlaps_15 : decode cX1_overlaps 15 = .ok (.aload_n 1, 1) := by decide +kernel
theorem dX1_overlaps_16 : decode cX1_overlaps 16 = .ok (.getfield 11, 3) := by decide +kernel
theorem dX1_overlaps_19 : decode cX1_overlaps 19 = .ok (.iconst 3, 1) := by decide +kernel
theorem dX1_overlaps_20 : decode cX1_overlaps 20 = .ok (.iload_n 2, 1) := by decide +kernel
theorem dX1_overlaps_21 : decode cX1_overlaps 21 = .ok (.iadd, 1) := by decide +kernel
theorem dX1_overlaps_22 : decode cX1_overlaps 22 = .ok (.faload, 1) := by decide +kernel
theorem dX1_overlaps_23 : decode cX1_overlaps 23 = .ok (.fcmp .l, 1) := by decide +kernel
theorem dX1_overlaps_24 : decode cX1_overlaps 24 = .ok (.ifCond .gt 23, 3) := by decide +kernel
theorem dX1_overlaps_27 : decode cX1_overlaps 27 = .ok (.aload_n 1, 1) := by decide +kernel
theorem dX1_overlaps_28 : decode cX1_overlaps 28 = .ok (.getfield 11, 3) := by decide +kernel
theorem dX1_overlaps_31 : decode cX1_overlaps 31 = .ok (.iconst 0, 1) := by decide +kernel
theorem dX1_overlaps_32 : decode cX1_overlaps 32 = .ok (.iload_n 2, 1) := by decide +kernel
theorem dX1_overlaps_33 : decode cX1_overlaps 33 = .ok (.iadd, 1) := by decide +kernel
theorem dX1_overlaps_34 : decode cX1_overlaps 34 = .ok (.faload, 1) := by decide +kernel
theorem dX1_overlaps_35 : decode cX1_overlaps 35 = .ok (.aload_n 0, 1) := by decide +kernel
theorem dX1_overlaps_36 : decode cX1_overlaps 36 = .ok (.getfield 11, 3) := by decide +kernel
theorem dX1_overlaps_39 : decode cX1_overlaps 39 = .ok (.iconst 3, 1) := by decide +kernel
theorem dX1_overlaps_40 : decode cX1_overlaps 40 = .ok (.iload_n 2, 1) := by decide +kernel
theorem dX1_overlaps_41 : decode cX1_overlaps 41 = .ok (.iadd, 1) := by decide +kernel
theorem dX1_overlaps_42 : decode cX1_overlaps 42 = .ok (.faload, 1) := by decide +kernel
theorem dX1_overlaps_43 : decode cX1_overlaps 43 = .ok (.fcmp .l, 1) := by decide +kernel
theorem dX1_overlaps_44 : decode cX1_overlaps 44 = .ok (.ifCond .le 5, 3) := by decide +kernel
theorem dX1_overlaps_47 : decode cX1_overlaps 47 = .ok (.iconst 0, 1) := by decide +kernel
theorem dX1_overlaps_48 : decode cX1_overlaps 48 = .ok (.ireturn, 1) := by decide +kernel
theorem dX1_overlaps_49 : decode cX1_overlaps 49 = .ok (.iinc 2 1, 3) := by decide +kernel
theorem dX1_overlaps_52 : decode cX1_overlaps 52 = .ok (.goto (-50), 3) := by decide +kernel
theorem dX1_overlaps_55 : decode cX1_overlaps 55 = .ok (.iconst 1, 1) := by decide +kernel
theorem dX1_overlaps_56 : decode cX1_overlaps 56 = .ok (.ireturn, 1) := by decide +kernel
theorem dX1_liesIn_0 : decode cX1_liesIn 0 = .ok (.iconst 0, 1) := by decide +kernel
theorem dX1_liesIn_1 : decode cX1_liesIn 1 = .ok (.istore_n 2, 1) := by decide +kernel
theorem dX1_liesIn_2 : decode cX1_liesIn 2 = .ok (.iload_n 2, 1) := by decide +kernel
theorem dX1_liesIn_3 : decode cX1_liesIn 3 = .ok (.iconst 3, 1) := by decide +kernel
theorem dX1_liesIn_4 : decode cX1_liesIn 4 = .ok (.if_icmp .ge 51, 3) := by decide +kernel
theorem dX1_liesIn_7 : decode cX1_liesIn 7 = .ok (.aload_n 0, 1) := by decide +kernel
theorem dX1_liesIn_8 : decode cX1_liesIn 8 = .ok (.getfield 11, 3) := by decide +kernel
theorem dX1_liesIn_11 : decode cX1_liesIn 11 = .ok (.iconst 0, 1) := by decide +kernel
theorem dX1_liesIn_12 : decode cX1_liesIn 12 = .ok (.iload_n 2, 1) := by decide +kernel
theorem dX1_liesIn_13 : decode cX1_liesIn 13 = .ok (.iadd, 1) := by decide +kernel
theorem dX1_liesIn_14 : decode cX1_liesIn 14 = .ok (.faload, 1) := by decide +kernel
theorem dX1_liesIn_15 : decode cX1_liesIn 15 = .ok (.aload_n 1, 1) := by decide +kernel
theorem dX1_liesIn_16 : decode cX1_liesIn 16 = .ok (.getfield 11, 3) := by decide +kernel
theorem dX1_liesIn_19 : decode cX1_liesIn 19 = .ok (.iconst 0, 1) := by decide +kernel
theorem dX1_liesIn_20 : decode cX1_liesIn 20 = .ok (.iload_n 2, 1) := by decide +kernel
theorem dX1_liesIn_21 : decode cX1_liesIn 21 = .ok (.iadd, 1) := by decide +kernel
theorem dX1_liesIn_22 : decode cX1_liesIn 22 = .ok (.faload, 1) := by decide +kernel
theorem dX1_liesIn_23 : decode cX1_liesIn 23 = .ok (.fcmp .g, 1) := by decide +kernel
theorem dX1_liesIn_24 : decode cX1_liesIn 24 = .ok (.ifCond .lt 23, 3) := by decide +kernel
theorem dX1_liesIn_27 : decode cX1_liesIn 27 = .ok (.aload_n 0, 1) := by decide +kernel
theorem dX1_liesIn_28 : decode cX1_liesIn 28 = .ok (.getfield 11, 3) := by decide +kernel
theorem dX1_liesIn_31 : decode cX1_liesIn 31 = .ok (.iconst 3, 1) := by decide +kernel
theorem dX1_liesIn_32 : decode cX1_liesIn 32 = .ok (.iload_n 2, 1) := by decide +kernel
theorem dX1_liesIn_33 : decode cX1_liesIn 33 = .ok (.iadd, 1) := by decide +kernel
theorem dX1_liesIn_34 : decode cX1_liesIn 34 = .ok (.faload, 1) := by decide +kernel
theorem dX1_liesIn_35 : decode cX1_liesIn 35 = .ok (.aload_n 1, 1) := by decide +kernel
theorem dX1_liesIn_36 : decode cX1_liesIn 36 = .ok (.getfield 11, 3) := by decide +kernel
theorem dX1_liesIn_39 : decode cX1_liesIn 39 = .ok (.iconst 3, 1) := by decide +kernel
theorem dX1_liesIn_40 : decode cX1_liesIn 40 = .ok (.iload_n 2, 1) := by decide +kernel
theorem dX1_liesIn_41 : decode cX1_liesIn 41 = .ok (.iadd, 1) := by decide +kernel
theorem dX1_liesIn_42 : decode cX1_liesIn 42 = .ok (.faload, 1) := by decide +kernel
theorem dX1_liesIn_43 : decode cX1_liesIn 43 = .ok (.fcmp .l, 1) := by decide +kernel
theorem dX1_liesIn_44 : decode cX1_liesIn 44 = .ok (.ifCond .le 5, 3) := by decide +kernel
theorem dX1_liesIn_47 : decode cX1_liesIn 47 = .ok (.iconst 0, 1) := by decide +kernel
theorem dX1_liesIn_48 : decode cX1_liesIn 48 = .ok (.ireturn, 1) := by decide +kernel
theorem dX1_liesIn_49 : decode cX1_liesIn 49 = .ok (.iinc 2 1, 3) := by decide +kernel
theorem dX1_liesIn_52 : decode cX1_liesIn 52 = .ok (.goto (-50), 3) := by decide +kernel
theorem dX1_liesIn_55 : decode cX1_liesIn 55 = .ok (.iconst 1, 1) := by decide +kernel
theorem dX1_liesIn_56 : decode cX1_liesIn 56 = .ok (.ireturn, 1) := by decide +kernel
theorem dX1_enterOfLine_0 : decode cX1_enterOfLine 0 = .ok (.fconst 0, 1) := by decide +kernel
theorem dX1_enterOfLine_1 : decode cX1_enterOfLine 1 = .ok (.fstore_n 2, 1) := by decide +kernel
theorem dX1_enterOfLine_2 : decode cX1_enterOfLine 2 = .ok (.fconst 1, 1) := by decide +kernel
theorem dX1_enterOfLine_3 : decode cX1_enterOfLine 3 = .ok (.fstore_n 3, 1) := by decide +kernel
theorem dX1_enterOfLine_4 : decode cX1_enterOfLine 4 = .ok (.iconst 0, 1) := by decide +kernel
theorem dX1_enterOfLine_5 : decode cX1_enterOfLine 5 = .ok (.istore 4, 2) := by decide +kernel
theorem dX1_enterOfLine_7 : decode cX1_enterOfLine 7 = .ok (.iload 4, 2) := by decide +kernel
theorem dX1_enterOfLine_9 : decode cX1_enterOfLine 9 = .ok (.iconst 3, 1) := by decide +kernel
theorem dX1_enterOfLine_10 : decode cX1_enterOfLine 10 = .ok (.if_icmp .ge 170, 3) := by decide +kernel
theorem dX1_enterOfLine_13 : decode cX1_enterOfLine 13 = .ok (.aload_n 1, 1) := by decide +kernel
theorem dX1_enterOfLine_14 : decode cX1_enterOfLine 14 = .ok (.getfield 11, 3) := by decide +kernel
theorem dX1_enterOfLine_17 : decode cX1_enterOfLine 17 = .ok (.iconst 0, 1) := by decide +kernel
theorem dX1_enterOfLine_18 : decode cX1_enterOfLine 18 = .ok (.iload 4, 2) := by decide +kernel
theorem dX1_enterOfLine_20 : decode cX1_enterOfLine 20 = .ok (.iadd, 1) := by decide +kernel
theorem dX1_enterOfLine_21 : decode cX1_enterOfLine 21 = .ok (.faload, 1) := by decide +kernel
theorem dX1_enterOfLine_22 : decode cX1_enterOfLine 22 = .ok (.fstore 5, 2) := by decide +kernel
theorem dX1_enterOfLine_24 : decode cX1_enterOfLine 24 = .ok (.aload_n 1, 1) := by decide +kernel
theorem dX1_enterOfLine_25 : decode cX1_enterOfLine 25 = .ok (.getfield 11, 3) := by decide +kernel
theorem dX1_enterOfLine_28 : decode cX1_enterOfLine 28 = .ok (.iconst 3, 1) := by decide +kernel
theorem dX1_enterOfLine_29 : decode cX1_enterOfLine 29 = .ok (.iload 4, 2) := by decide +kernel
theorem dX1_enterOfLine_31 : decode cX1_enterOfLine 31 = .ok (.iadd, 1) := by decide +kernel
theorem dX1_enterOfLine_32 : decode cX1_enterOfLine 32 = .ok (.faload, 1) := by decide +kernel
theorem dX1_enterOfLine_33 : decode cX1_enterOfLine 33 = .ok (.fload 5, 2) := by decide +kernel
theorem dX1_enterOfLine_35 : decode cX1_enterOfLine 35 = .ok (.fsub, 1) := by decide +kernel
theorem dX1_enterOfLine_36 : decode cX1_enterOfLine 36 = .ok (.fstore 6, 2) := by decide +kernel
theorem dX1_enterOfLine_38 : decode cX1_enterOfLine 38 = .ok (.fload 6, 2) := by decide +kernel
theorem dX1_enterOfLine_40 : decode cX1_enterOfLine 40 = .ok (.fconst 0, 1) := by decide +kernel
theorem dX1_enterOfLine_41 : decode cX1_enterOfLine 41 = .ok (.fcmp .l, 1) := by decide +kernel
theorem dX1_enterOfLine_42 : decode cX1_enterOfLine 42 = .ok (.ifCond .ne 36, 3) := by decide +kernel
theorem dX1_enterOfLine_45 : decode cX1_enterOfLine 45 = .ok (.fload 5, 2) := by decide +kernel
theorem dX1_enterOfLine_47 : decode cX1_enterOfLine 47 = .ok (.aload_n 0, 1) := by decide +kernel
theorem dX1_enterOfLine_48 : decode cX1_enterOfLine 48 = .ok (.getfield 11, 3) := by decide +kernel
theorem dX1_enterOfLine_51 : decode cX1_enterOfLine 51 = .ok (.iconst 0, 1) := by decide +kernel
theorem dX1_enterOfLine_52 : decode cX1_enterOfLine 52 = .ok (.iload 4, 2) := by decide +kernel
theorem dX1_enterOfLine_54 : decode cX1_enterOfLine 54 = .ok (.iadd, 1) := by decide +kernel
theorem dX1_enterOfLine_55 : decode cX1_enterOfLine 55 = .ok (.faload, 1) := by decide +kernel
theorem dX1_enterOfLine_56 : decode cX1_enterOfLine 56 = .ok (.fcmp .g, 1) := by decide +kernel
theorem dX1_enterOfLine_57 : decode cX1_enterOfLine 57 = .ok (.ifCond .lt 18, 3) := by decide +kernel
theorem dX1_enterOfLine_60 : decode cX1_enterOfLine 60 = .ok (.fload 5, 2) := by decide +kernel
theorem dX1_enterOfLine_62 : decode cX1_enterOfLine 62 = .ok (.aload_n 0, 1) := by decide +kernel
theorem dX1_enterOfLine_63 : decode cX1_enterOfLine 63 = .ok (.getfield 11, 3) := by decide +kernel
theorem dX1_enterOfLine_66 : decode cX1_enterOfLine 66 = .ok (.iconst 3, 1) := by decide +kernel
theorem dX1_enterOfLine_67 : decode cX1_enterOfLine 67 = .ok (.iload 4, 2) := by decide +kernel
theorem dX1_enterOfLine_69 : decode cX1_enterOfLine 69 = .ok (.iadd, 1) := by decide +kernel
theorem dX1_enterOfLine_70 : decode cX1_enterOfLine 70 = .ok (.faload, 1) := by decide +kernel
theorem dX1_enterOfLine_71 : decode cX1_enterOfLine 71 = .ok (.fcmp .l, 1) := by decide +kernel
theorem dX1_enterOfLine_72 : decode cX1_enterOfLine 72 = .ok (.ifCond .le 102, 3) := by decide +kernel
theorem dX1_enterOfLine_75 : decode cX1_enterOfLine 75 = .ok (.ldc 30, 2) := by decide +kernel
theorem dX1_enterOfLine_77 : decode cX1_enterOfLine 77 = .ok (.freturn, 1) := by decide +kernel
theorem dX1_enterOfLine_78 : decode cX1_enterOfLine 78 = .ok (.aload_n 0, 1) := by decide +kernel
theorem dX1_enterOfLine_79 : decode cX1_enterOfLine 79 = .ok (.getfield 11, 3) := by decide +kernel
theorem dX1_enterOfLine_82 : decode cX1_enterOfLine 82 = .ok (.iconst 0, 1) := by decide +kernel
theorem dX1_enterOfLine_83 : decode cX1_enterOfLine 83 = .ok (.iload 4, 2) := by decide +kernel
theorem dX1_enterOfLine_85 : decode cX1_enterOfLine 85 = .ok (.iadd, 1) := by decide +kernel
theorem dX1_enterOfLine_86 : decode cX1_enterOfLine 86 = .ok (.faload, 1) := by decide +kernel
theorem dX1_enterOfLine_87 : decode cX1_enterOfLine 87 = .ok (.fload 5, 2) := by decide +kernel
theorem dX1_enterOfLine_89 : decode cX1_enterOfLine 89 = .ok (.fsub, 1) := by decide +kernel
theorem dX1_enterOfLine_90 : decode cX1_enterOfLine 90 = .ok (.fload 6, 2) := by decide +kernel
theorem dX1_enterOfLine_92 : decode cX1_enterOfLine 92 = .ok (.fdiv, 1) := by decide +kernel
theorem dX1_enterOfLine_93 : decode cX1_enterOfLine 93 = .ok (.fstore 7, 2) := by decide +kernel
theorem dX1_enterOfLine_95 : decode cX1_enterOfLine 95 = .ok (.aload_n 0, 1) := by decide +kernel
theorem dX1_enterOfLine_96 : decode cX1_enterOfLine 96 = .ok (.getfield 11, 3) := by decide +kernel
theorem dX1_enterOfLine_99 : decode cX1_enterOfLine 99 = .ok (.iconst 3, 1) := by decide +kernel
theorem dX1_enterOfLine_100 : decode cX1_enterOfLine 100 = .ok (.iload 4, 2) := by decide +kernel
theorem dX1_enterOfLine_102 : decode cX1_enterOfLine 102 = .ok (.iadd, 1) := by decide +kernel
theorem dX1_enterOfLine_103 : decode cX1_enterOfLine 103 = .ok (.faload, 1) := by decide +kernel
theorem dX1_enterOfLine_104 : decode cX1_enterOfLine 104 = .ok (.fload 5, 2) := by decide +kernel
theorem dX1_enterOfLine_106 : decode cX1_enterOfLine 106 = .ok (.fsub, 1) := by decide +kernel
theorem dX1_enterOfLine_107 : decode cX1_enterOfLine 107 = .ok (.fload 6, 2) := by decide +kernel
theorem dX1_enterOfLine_109 : decode cX1_enterOfLine 109 = .ok (.fdiv, 1) := by decide +kernel
theorem dX1_enterOfLine_110 : decode cX1_enterOfLine 110 = .ok (.fstore 8, 2) := by decide +kernel
theorem dX1_enterOfLine_112 : decode cX1_enterOfLine 112 = .ok (.fload 7, 2) := by decide +kernel
theorem dX1_enterOfLine_114 : decode cX1_enterOfLine 114 = .ok (.fload 8, 2) := by decide +kernel
theorem dX1_enterOfLine_116 : decode cX1_enterOfLine 116 = .ok (.fcmp .l, 1) := by decide +kernel
theorem dX1_enterOfLine_117 : decode cX1_enterOfLine 117 = .ok (.ifCond .le 8, 3) := by decide +kernel
theorem dX1_enterOfLine_120 : decode cX1_enterOfLine 120 = .ok (.fload 8, 2) := by decide +kernel
theorem dX1_enterOfLine_122 : decode cX1_enterOfLine 122 = .ok (.goto 5, 3) := by decide +kernel
theorem dX1_enterOfLine_125 : decode cX1_enterOfLine 125 = .ok (.fload 7, 2) := by decide +kernel
theorem dX1_enterOfLine_127 : decode cX1_enterOfLine 127 = .ok (.fstore 9, 2) := by decide +kernel
theorem dX1_enterOfLine_129 : decode cX1_enterOfLine 129 = .ok (.fload 7, 2) := by decide +kernel
theorem dX1_enterOfLine_131 : decode cX1_enterOfLine 131 = .ok (.fload 8, 2) := by decide +kernel
theorem dX1_enterOfLine_133 : decode cX1_enterOfLine 133 = .ok (.fcmp .l, 1) := by decide +kernel
theorem dX1_enterOfLine_134 : decode cX1_enterOfLine 134 = .ok (.ifCond .le 8, 3) := by decide +kernel
theorem dX1_enterOfLine_137 : decode cX1_enterOfLine 137 = .ok (.fload 7, 2) := by decide +kernel
theorem dX1_enterOfLine_139 : decode cX1_enterOfLine 139 = .ok (.goto 5, 3) := by decide +kernel
theorem dX1_enterOfLine_142 : decode cX1_enterOfLine 142 = .ok (.fload 8, 2) := by decide +kernel
theorem dX1_enterOfLine_144 : decode cX1_enterOfLine 144 = .ok (.fstore 10, 2) := by decide +kernel
theorem dX1_enterOfLine_146 : decode cX1_enterOfLine 146 = .ok (.fload 9, 2) := by decide +kernel
theorem dX1_enterOfLine_148 : decode cX1_enterOfLine 148 = .ok (.fload_n 2, 1) := by decide +kernel
theorem dX1_enterOfLine_149 : decode cX1_enterOfLine 149 = .ok (.fcmp .l, 1) := by decide +kernel
theorem dX1_enterOfLine_150 : decode cX1_enterOfLine 150 = .ok (.ifCond .le 8, 3) := by decide +kernel
theorem dX1_enterOfLine_153 : decode cX1_enterOfLine 153 = .ok (.fload 9, 2) := by decide +kernel
theorem dX1_enterOfLine_155 : decode cX1_enterOfLine 155 = .ok (.goto 4, 3) := by decide +kernel
theorem dX1_enterOfLine_158 : decode cX1_enterOfLine 158 = .ok (.fload_n 2, 1) := by decide +kernel
theorem dX1_enterOfLine_159 : decode cX1_enterOfLine 159 = .ok (.fstore_n 2, 1) := by decide +kernel
theorem dX1_enterOfLine_160 : decode cX1_enterOfLine 160 = .ok (.fload 10, 2) := by decide +kernel
theorem dX1_enterOfLine_162 : decode cX1_enterOfLine 162 = .ok (.fload_n 3, 1) := by decide +kernel
theorem dX1_enterOfLine_163 : decode cX1_enterOfLine 163 = .ok (.fcmp .g, 1) := by decide +kernel
theorem dX1_enterOfLine_164 : decode cX1_enterOfLine 164 = .ok (.ifCond .ge 8, 3) := by decide +kernel
theorem dX1_enterOfLine_167 : decode cX1_enterOfLine 167 = .ok (.fload 10, 2) := by decide +kernel
theorem dX1_enterOfLine_169 : decode cX1_enterOfLine 169 = .ok (.goto 4, 3) := by decide +kernel
theorem dX1_enterOfLine_172 : decode cX1_enterOfLine 172 = .ok (.fload_n 3, 1) := by decide +kernel
theorem dX1_enterOfLine_173 : decode cX1_enterOfLine 173 = .ok (.fstore_n 3, 1) := by decide +kernel
theorem dX1_enterOfLine_174 : decode cX1_enterOfLine 174 = .ok (.iinc 4 1, 3) := by decide +kernel
theorem dX1_enterOfLine_177 : decode cX1_enterOfLine 177 = .ok (.goto (-170), 3) := by decide +kernel
theorem dX1_enterOfLine_180 : decode cX1_enterOfLine 180 = .ok (.fload_n 2, 1) := by decide +kernel
theorem dX1_enterOfLine_181 : decode cX1_enterOfLine 181 = .ok (.fload_n 3, 1) := by decide +kernel
theorem dX1_enterOfLine_182 : decode cX1_enterOfLine 182 = .ok (.fcmp .l, 1) := by decide +kernel
theorem dX1_enterOfLine_183 : decode cX1_enterOfLine 183 = .ok (.ifCond .le 8, 3) := by decide +kernel
theorem dX1_enterOfLine_186 : decode cX1_enterOfLine 186 = .ok (.ldc 30, 2) := by decide +kernel
theorem dX1_enterOfLine_188 : decode cX1_enterOfLine 188 = .ok (.goto 4, 3) := by decide +kernel
theorem dX1_enterOfLine_191 : decode cX1_enterOfLine 191 = .ok (.fload_n 2, 1) := by decide +kernel
theorem dX1_enterOfLine_192 : decode cX1_enterOfLine 192 = .ok (.freturn, 1) := by decide +kernel
theorem dX2_init_0 : decode cX2_init 0 = .ok (.aload_n 0, 1) := by decide +kernel
theorem dX2_init_1 : decode cX2_init 1 = .ok (.invokespecial 5, 3) := by decide +kernel
theorem dX2_init_4 : decode cX2_init 4 = .ok (.aload_n 0, 1) := by decide +kernel
theorem dX2_init_5 : decode cX2_init 5 = .ok (.sipush 4096, 3) := by decide +kernel
theorem dX2_init_8 : decode cX2_init 8 = .ok (.newarray .long, 2) := by decide +kernel
theorem dX2_init_10 : decode cX2_init 10 = .ok (.putfield 11, 3) := by decide +kernel
theorem dX2_init_13 : decode cX2_init 13 = .ok (.return_, 1) := by decide +kernel
theorem dX2_holds_0 : decode cX2_holds 0 = .ok (.aload_n 0, 1) := by decide +kernel
theorem dX2_holds_1 : decode cX2_holds 1 = .ok (.getfield 11, 3) := by decide +kernel
theorem dX2_holds_4 : decode cX2_holds 4 = .ok (.iload_n 1, 1) := by decide +kernel
theorem dX2_holds_5 : decode cX2_holds 5 = .ok (.bipush 64, 2) := by decide +kernel
theorem dX2_holds_7 : decode cX2_holds 7 = .ok (.idiv, 1) := by decide +kernel
theorem dX2_holds_8 : decode cX2_holds 8 = .ok (.laload, 1) := by decide +kernel
theorem dX2_holds_9 : decode cX2_holds 9 = .ok (.iload_n 1, 1) := by decide +kernel
theorem dX2_holds_10 : decode cX2_holds 10 = .ok (.bipush 64, 2) := by decide +kernel
theorem dX2_holds_12 : decode cX2_holds 12 = .ok (.irem, 1) := by decide +kernel
theorem dX2_holds_13 : decode cX2_holds 13 = .ok (.lushr, 1) := by decide +kernel
theorem dX2_holds_14 : decode cX2_holds 14 = .ok (.lconst 1, 1) := by decide +kernel
theorem dX2_holds_15 : decode cX2_holds 15 = .ok (.land, 1) := by decide +kernel
theorem dX2_holds_16 : decode cX2_holds 16 = .ok (.lconst 0, 1) := by decide +kernel
theorem dX2_holds_17 : decode cX2_holds 17 = .ok (.lcmp, 1) := by decide +kernel
theorem dX2_holds_18 : decode cX2_holds 18 = .ok (.ifCond .eq 7, 3) := by decide +kernel
theorem dX2_holds_21 : decode cX2_holds 21 = .ok (.iconst 1, 1) := by decide +kernel
theorem dX2_holds_22 : decode cX2_holds 22 = .ok (.goto 4, 3) := by decide +kernel
theorem dX2_holds_25 : decode cX2_holds 25 = .ok (.iconst 0, 1) := by decide +kernel
theorem dX2_holds_26 : decode cX2_holds 26 = .ok (.ireturn, 1) := by decide +kernel
theorem dX2_put_0 : decode cX2_put 0 = .ok (.aload_n 0, 1) := by decide +kernel
theorem dX2_put_1 : decode cX2_put 1 = .ok (.iload_n 1, 1) := by decide +kernel
theorem dX2_put_2 : decode cX2_put 2 = .ok (.invokevirtual 15, 3) := by decide +kernel
theorem dX2_put_5 : decode cX2_put 5 = .ok (.iload_n 2, 1) := by decide +kernel
theorem dX2_put_6 : decode cX2_put 6 = .ok (.if_icmp .eq 39, 3) := by decide +kernel
theorem dX2_put_9 : decode cX2_put 9 = .ok (.aload_n 0, 1) := by decide +kernel
theorem dX2_put_10 : decode cX2_put 10 = .ok (.getfield 11, 3) := by decide +kernel
theorem dX2_put_13 : decode cX2_put 13 = .ok (.iload_n 1, 1) := by decide +kernel
theorem dX2_put_14 : decode cX2_put 14 = .ok (.bipush 64, 2) := by decide +kernel
theorem dX2_put_16 : decode cX2_put 16 = .ok (.idiv, 1) := by decide +kernel
theorem dX2_put_17 : decode cX2_put 17 = .ok (.dup2, 1) := by decide +kernel
theorem dX2_put_18 : decode cX2_put 18 = .ok (.laload, 1) := by decide +kernel
theorem dX2_put_19 : decode cX2_put 19 = .ok (.lconst 1, 1) := by decide +kernel
theorem dX2_put_20 : decode cX2_put 20 = .ok (.iload_n 1, 1) := by decide +kernel
theorem dX2_put_21 : decode cX2_put 21 = .ok (.bipush 64, 2) := by decide +kernel
theorem dX2_put_23 : decode cX2_put 23 = .ok (.irem, 1) := by decide +kernel
theorem dX2_put_24 : decode cX2_put 24 = .ok (.lshl, 1) := by decide +kernel
theorem dX2_put_25 : decode cX2_put 25 = .ok (.lxor, 1) := by decide +kernel
theorem dX2_put_26 : decode cX2_put 26 = .ok (.lastore, 1) := by decide +kernel
theorem dX2_put_27 : decode cX2_put 27 = .ok (.aload_n 0, 1) := by decide +kernel
theorem dX2_put_28 : decode cX2_put 28 = .ok (.dup, 1) := by decide +kernel
theorem dX2_put_29 : decode cX2_put 29 = .ok (.getfield 19, 3) := by decide +kernel
theorem dX2_put_32 : decode cX2_put 32 = .ok (.iload_n 2, 1) := by decide +kernel
theorem dX2_put_33 : decode cX2_put 33 = .ok (.ifCond .eq 7, 3) := by decide +kernel
theorem dX2_put_36 : decode cX2_put 36 = .ok (.iconst 1, 1) := by decide +kernel
theorem dX2_put_37 : decode cX2_put 37 = .ok (.goto 4, 3) := by decide +kernel
theorem dX2_put_40 : decode cX2_put 40 = .ok (.iconst (-1), 1) := by decide +kernel
theorem dX2_put_41 : decode cX2_put 41 = .ok (.iadd, 1) := by decide +kernel
theorem dX2_put_42 : decode cX2_put 42 = .ok (.putfield 19, 3) := by decide +kernel
theorem dX2_put_45 : decode cX2_put 45 = .ok (.return_, 1) := by decide +kernel
theorem dX2_copyFrom_0 : decode cX2_copyFrom 0 = .ok (.aload_n 1, 1) := by decide +kernel
theorem dX2_copyFrom_1 : decode cX2_copyFrom 1 = .ok (.getfield 11, 3) := by decide +kernel
theorem dX2_copyFrom_4 : decode cX2_copyFrom 4 = .ok (.iconst 0, 1) := by decide +kernel
theorem dX2_copyFrom_5 : decode cX2_copyFrom 5 = .ok (.aload_n 0, 1) := by decide +kernel
theorem dX2_copyFrom_6 : decode cX2_copyFrom 6 = .ok (.getfield 11, 3) := by decide +kernel
theorem dX2_copyFrom_9 : decode cX2_copyFrom 9 = .ok (.iconst 0, 1) := by decide +kernel
theorem dX2_copyFrom_10 : decode cX2_copyFrom 10 = .ok (.sipush 4096, 3) := by decide +kernel
theorem dX2_copyFrom_13 : decode cX2_copyFrom 13 = .ok (.invokestatic 23, 3) := by decide +kernel
theorem dX2_copyFrom_16 : decode cX2_copyFrom 16 = .ok (.aload_n 0, 1) := by decide +kernel
theorem dX2_copyFrom_17 : decode cX2_copyFrom 17 = .ok (.aload_n 1, 1) := by decide +kernel
theorem dX2_copyFrom_18 : decode cX2_copyFrom 18 = .ok (.getfield 19, 3) := by decide +kernel
theorem dX2_copyFrom_21 : decode cX2_copyFrom 21 = .ok (.putfield 19, 3) := by decide +kernel
theorem dX2_copyFrom_24 : decode cX2_copyFrom 24 = .ok (.return_, 1) := by decide +kernel
theorem dX2_setToDifference_0 : decode cX2_setToDifference 0 = .ok (.aload_n 0, 1) := by decide +kernel
theorem dX2_setToDifference_1 : decode cX2_setToDifference 1 = .ok (.iconst 0, 1) := by decide +kernel
theorem dX2_setToDifference_2 : decode cX2_setToDifference 2 = .ok (.putfield 19, 3) := by decide +kernel
theorem dX2_setToDifference_5 : decode cX2_setToDifference 5 = .ok (.iconst 0, 1) := by decide +kernel
theorem dX2_setToDifference_6 : decode cX2_setToDifference 6 = .ok (.istore_n 3, 1) := by decide +kernel
theorem dX2_setToDifference_7 : decode cX2_setToDifference 7 = .ok (.iload_n 3, 1) := by decide +kernel
theorem dX2_setToDifference_8 : decode cX2_setToDifference 8 = .ok (.sipush 4096, 3) := by decide +kernel
theorem dX2_setToDifference_11 : decode cX2_setToDifference 11 = .ok (.if_icmp .ge 50, 3) := by decide +kernel
theorem dX2_setToDifference_14 : decode cX2_setToDifference 14 = .ok (.aload_n 0, 1) := by decide +kernel
theorem dX2_setToDifference_15 : decode cX2_setToDifference 15 = .ok (.getfield 11, 3) := by decide +kernel
theorem dX2_setToDifference_18 : decode cX2_setToDifference 18 = .ok (.iload_n 3, 1) := by decide +kernel
theorem dX2_setToDifference_19 : decode cX2_setToDifference 19 = .ok (.aload_n 1, 1) := by decide +kernel
theorem dX2_setToDifference_20 : decode cX2_setToDifference 20 = .ok (.getfield 11, 3) := by decide +kernel
theorem dX2_setToDifference_23 : decode cX2_setToDifference 23 = .ok (.iload_n 3, 1) := by decide +kernel
theorem dX2_setToDifference_24 : decode cX2_setToDifference 24 = .ok (.laload, 1) := by decide +kernel
theorem dX2_setToDifference_25 : decode cX2_setToDifference 25 = .ok (.aload_n 2, 1) := by decide +kernel
theorem dX2_setToDifference_26 : decode cX2_setToDifference 26 = .ok (.getfield 11, 3) := by decide +kernel
theorem dX2_setToDifference_29 : decode cX2_setToDifference 29 = .ok (.iload_n 3, 1) := by decide +kernel
theorem dX2_setToDifference_30 : decode cX2_setToDifference 30 = .ok (.laload, 1) := by decide +kernel
theorem dX2_setToDifference_31 : decode cX2_setToDifference 31 = .ok (.ldc2_w 29, 3) := by decide +kernel
theorem dX2_setToDifference_34 : decode cX2_setToDifference 34 = .ok (.lxor, 1) := by decide +kernel
theorem dX2_setToDifference_35 : decode cX2_setToDifference 35 = .ok (.land, 1) := by decide +kernel
theorem dX2_setToDifference_36 : decode cX2_setToDifference 36 = .ok (.lastore, 1) := by decide +kernel
theorem dX2_setToDifference_37 : decode cX2_setToDifference 37 = .ok (.aload_n 0, 1) := by decide +kernel
theorem dX2_setToDifference_38 : decode cX2_setToDifference 38 = .ok (.dup, 1) := by decide +kernel
theorem dX2_setToDifference_39 : decode cX2_setToDifference 39 = .ok (.getfield 19, 3) := by decide +kernel
theorem dX2_setToDifference_42 : decode cX2_setToDifference 42 = .ok (.aload_n 0, 1) := by decide +kernel
theorem dX2_setToDifference_43 : decode cX2_setToDifference 43 = .ok (.getfield 11, 3) := by decide +kernel
theorem dX2_setToDifference_46 : decode cX2_setToDifference 46 = .ok (.iload_n 3, 1) := by decide +kernel
theorem dX2_setToDifference_47 : decode cX2_setToDifference 47 = .ok (.laload, 1) := by decide +kernel
theorem dX2_setToDifference_48 : decode cX2_setToDifference 48 = .ok (.invokestatic 31, 3) := by decide +kernel
theorem dX2_setToDifference_51 : decode cX2_setToDifference 51 = .ok (.iadd, 1) := by decide +kernel
theorem dX2_setToDifference_52 : decode cX2_setToDifference 52 = .ok (.putfield 19, 3) := by decide +kernel
theorem dX2_setToDifference_55 : decode cX2_setToDifference 55 = .ok (.iinc 3 1, 3) := by decide +kernel
theorem dX2_setToDifference_58 : decode cX2_setToDifference 58 = .ok (.goto (-51), 3) := by decide +kernel
theorem dX2_setToDifference_61 : decode cX2_setToDifference 61 = .ok (.return_, 1) := by decide +kernel
theorem dX2_codeAt_0 : decode cX2_codeAt 0 = .ok (.iload_n 1, 1) := by decide +kernel
theorem dX2_codeAt_1 : decode cX2_codeAt 1 = .ok (.istore_n 2, 1) := by decide +kernel
theorem dX2_codeAt_2 : decode cX2_codeAt 2 = .ok (.iconst 0, 1) := by decide +kernel
theorem dX2_codeAt_3 : decode cX2_codeAt 3 = .ok (.istore_n 3, 1) := by decide +kernel
theorem dX2_codeAt_4 : decode cX2_codeAt 4 = .ok (.iload_n 3, 1) := by decide +kernel
theorem dX2_codeAt_5 : decode cX2_codeAt 5 = .ok (.sipush 4096, 3) := by decide +kernel
theorem dX2_codeAt_8 : decode cX2_codeAt 8 = .ok (.if_icmp .ge 47, 3) := by decide +kernel
theorem dX2_codeAt_11 : decode cX2_codeAt 11 = .ok (.aload_n 0, 1) := by decide +kernel
theorem dX2_codeAt_12 : decode cX2_codeAt 12 = .ok (.getfield 11, 3) := by decide +kernel
theorem dX2_codeAt_15 : decode cX2_codeAt 15 = .ok (.iload_n 3, 1) := by decide +kernel
theorem dX2_codeAt_16 : decode cX2_codeAt 16 = .ok (.laload, 1) := by decide +kernel
theorem dX2_codeAt_17 : decode cX2_codeAt 17 = .ok (.invokestatic 31, 3) := by decide +kernel
theorem dX2_codeAt_20 : decode cX2_codeAt 20 = .ok (.istore 4, 2) := by decide +kernel
theorem dX2_codeAt_22 : decode cX2_codeAt 22 = .ok (.iload_n 2, 1) := by decide +kernel
theorem dX2_codeAt_23 : decode cX2_codeAt 23 = .ok (.iload 4, 2) := by decide +kernel
theorem dX2_codeAt_25 : decode cX2_codeAt 25 = .ok (.if_icmp .ge 19, 3) := by decide +kernel
theorem dX2_codeAt_28 : decode cX2_codeAt 28 = .ok (.iload_n 3, 1) := by decide +kernel
theorem dX2_codeAt_29 : decode cX2_codeAt 29 = .ok (.bipush 64, 2) := by decide +kernel
theorem dX2_codeAt_31 : decode cX2_codeAt 31 = .ok (.imul, 1) := by decide +kernel
theorem dX2_codeAt_32 : decode cX2_codeAt 32 = .ok (.aload_n 0, 1) := by decide +kernel
theorem dX2_codeAt_33 : decode cX2_codeAt 33 = .ok (.getfield 11, 3) := by decide +kernel
theorem dX2_codeAt_36 : decode cX2_codeAt 36 = .ok (.iload_n 3, 1) := by decide +kernel
theorem dX2_codeAt_37 : decode cX2_codeAt 37 = .ok (.laload, 1) := by decide +kernel
theorem dX2_codeAt_38 : decode cX2_codeAt 38 = .ok (.iload_n 2, 1) := by decide +kernel
theorem dX2_codeAt_39 : decode cX2_codeAt 39 = .ok (.invokestatic 37, 3) := by decide +kernel
theorem dX2_codeAt_42 : decode cX2_codeAt 42 = .ok (.iadd, 1) := by decide +kernel
theorem dX2_codeAt_43 : decode cX2_codeAt 43 = .ok (.ireturn, 1) := by decide +kernel
theorem dX2_codeAt_44 : decode cX2_codeAt 44 = .ok (.iload_n 2, 1) := by decide +kernel
theorem dX2_codeAt_45 : decode cX2_codeAt 45 = .ok (.iload 4, 2) := by decide +kernel
theorem dX2_codeAt_47 : decode cX2_codeAt 47 = .ok (.isub, 1) := by decide +kernel
theorem dX2_codeAt_48 : decode cX2_codeAt 48 = .ok (.istore_n 2, 1) := by decide +kernel
theorem dX2_codeAt_49 : decode cX2_codeAt 49 = .ok (.iinc 3 1, 3) := by decide +kernel
theorem dX2_codeAt_52 : decode cX2_codeAt 52 = .ok (.goto (-48), 3) := by decide +kernel
theorem dX2_codeAt_55 : decode cX2_codeAt 55 = .ok (.iconst (-1), 1) := by decide +kernel
theorem dX2_codeAt_56 : decode cX2_codeAt 56 = .ok (.ireturn, 1) := by decide +kernel
theorem dX2_bitAt_0 : decode cX2_bitAt 0 = .ok (.iload_n 2, 1) := by decide +kernel
theorem dX2_bitAt_1 : decode cX2_bitAt 1 = .ok (.istore_n 3, 1) := by decide +kernel
theorem dX2_bitAt_2 : decode cX2_bitAt 2 = .ok (.iconst 0, 1) := by decide +kernel
theorem dX2_bitAt_3 : decode cX2_bitAt 3 = .ok (.istore 4, 2) := by decide +kernel
theorem dX2_bitAt_5 : decode cX2_bitAt 5 = .ok (.iload 4, 2) := by decide +kernel
theorem dX2_bitAt_7 : decode cX2_bitAt 7 = .ok (.bipush 64, 2) := by decide +kernel
theorem dX2_bitAt_9 : decode cX2_bitAt 9 = .ok (.if_icmp .ge 30, 3) := by decide +kernel
theorem dX2_bitAt_12 : decode cX2_bitAt 12 = .ok (.lload_n 0, 1) := by decide +kernel
theorem dX2_bitAt_13 : decode cX2_bitAt 13 = .ok (.iload 4, 2) := by decide +kernel
theorem dX2_bitAt_15 : decode cX2_bitAt 15 = .ok (.lushr, 1) := by decide +kernel
theorem dX2_bitAt_16 : decode cX2_bitAt 16 = .ok (.lconst 1, 1) := by decide +kernel
theorem dX2_bitAt_17 : decode cX2_bitAt 17 = .ok (.land, 1) := by decide +kernel
theorem dX2_bitAt_18 : decode cX2_bitAt 18 = .ok (.lconst 0, 1) := by decide +kernel
theorem dX2_bitAt_19 : decode cX2_bitAt 19 = .ok (.lcmp, 1) := by decide +kernel
theorem dX2_bitAt_20 : decode cX2_bitAt 20 = .ok (.ifCond .eq 13, 3) := by decide +kernel
theorem dX2_bitAt_23 : decode cX2_bitAt 23 = .ok (.iload_n 3, 1) := by decide +kernel
theorem dX2_bitAt_24 : decode cX2_bitAt 24 = .ok (.ifCond .ne 6, 3) := by decide +kernel
theorem dX2_bitAt_27 : decode cX2_bitAt 27 = .ok (.iload 4, 2) := by decide +kernel
theorem dX2_bitAt_29 : decode cX2_bitAt 29 = .ok (.ireturn, 1) := by decide +kernel
theorem dX2_bitAt_30 : decode cX2_bitAt 30 = .ok (.iinc 3 (-1), 3) := by decide +kernel
theorem dX2_bitAt_33 : decode cX2_bitAt 33 = .ok (.iinc 4 1, 3) := by decide +kernel
theorem dX2_bitAt_36 : decode cX2_bitAt 36 = .ok (.goto (-31), 3) := by decide +kernel
theorem dX2_bitAt_39 : decode cX2_bitAt 39 = .ok (.iconst 0, 1) := by decide +kernel
theorem dX2_bitAt_40 : decode cX2_bitAt 40 = .ok (.ireturn, 1) := by decide +kernel
theorem dX3_init_0 : decode cX3_init 0 = .ok (.aload_n 0, 1) := by decide +kernel
theorem dX3_init_1 : decode cX3_init 1 = .ok (.invokespecial 1, 3) := by decide +kernel
theorem dX3_init_4 : decode cX3_init 4 = .ok (.aload_n 0, 1) := by decide +kernel
theorem dX3_init_5 : decode cX3_init 5 = .ok (.new 7, 3) := by decide +kernel
theorem dX3_init_8 : decode cX3_init 8 = .ok (.dup, 1) := by decide +kernel
theorem dX3_init_9 : decode cX3_init 9 = .ok (.invokespecial 9, 3) := by decide +kernel
theorem dX3_init_12 : decode cX3_init 12 = .ok (.putfield 10, 3) := by decide +kernel
theorem dX3_init_15 : decode cX3_init 15 = .ok (.aload_n 0, 1) := by decide +kernel
theorem dX3_init_16 : decode cX3_init 16 = .ok (.sipush 512, 3) := by decide +kernel
theorem dX3_init_19 : decode cX3_init 19 = .ok (.anewarray 16, 3) := by decide +kernel
theorem dX3_init_22 : decode cX3_init 22 = .ok (.putfield 18, 3) := by decide +kernel
theorem dX3_init_25 : decode cX3_init 25 = .ok (.iconst 0, 1) := by decide +kernel
theorem dX3_init_26 : decode cX3_init 26 = .ok (.istore_n 1, 1) := by decide +kernel
theorem dX3_init_27 : decode cX3_init 27 = .ok (.iload_n 1, 1) := by decide +kernel
theorem dX3_init_28 : decode cX3_init 28 = .ok (.sipush 512, 3) := by decide +kernel
theorem dX3_init_31 : decode cX3_init 31 = .ok (.if_icmp .ge 22, 3) := by decide +kernel
theorem dX3_init_34 : decode cX3_init 34 = .ok (.aload_n 0, 1) := by decide +kernel
theorem dX3_init_35 : decode cX3_init 35 = .ok (.getfield 18, 3) := by decide +kernel
theorem dX3_init_38 : decode cX3_init 38 = .ok (.iload_n 1, 1) := by decide +kernel
theorem dX3_init_39 : decode cX3_init 39 = .ok (.new 16, 3) := by decide +kernel
theorem dX3_init_42 : decode cX3_init 42 = .ok (.dup, 1) := by decide +kernel
theorem dX3_init_43 : decode cX3_init 43 = .ok (.invokespecial 22, 3) := by decide +kernel
theorem dX3_init_46 : decode cX3_init 46 = .ok (.aastore, 1) := by decide +kernel
theorem dX3_init_47 : decode cX3_init 47 = .ok (.iinc 1 1, 3) := by decide +kernel
theorem dX3_init_50 : decode cX3_init 50 = .ok (.goto (-23), 3) := by decide +kernel
theorem dX3_init_53 : decode cX3_init 53 = .ok (.aload_n 0, 1) := by decide +kernel
theorem dX3_init_54 : decode cX3_init 54 = .ok (.new 23, 3) := by decide +kernel
theorem dX3_init_57 : decode cX3_init 57 = .ok (.dup, 1) := by decide +kernel
theorem dX3_init_58 : decode cX3_init 58 = .ok (.invokespecial 25, 3) := by decide +kernel
theorem dX3_init_61 : decode cX3_init 61 = .ok (.putfield 26, 3) := by decide +kernel
theorem dX3_init_64 : decode cX3_init 64 = .ok (.aload_n 0, 1) := by decide +kernel
theorem dX3_init_65 : decode cX3_init 65 = .ok (.new 23, 3) := by decide +kernel
theorem dX3_init_68 : decode cX3_init 68 = .ok (.dup, 1) := by decide +kernel
theorem dX3_init_69 : decode cX3_init 69 = .ok (.invokespecial 25, 3) := by decide +kernel
theorem dX3_init_72 : decode cX3_init 72 = .ok (.putfield 30, 3) := by decide +kernel
theorem dX3_init_75 : decode cX3_init 75 = .ok (.aload_n 0, 1) := by decide +kernel
theorem dX3_init_76 : decode cX3_init 76 = .ok (.new 23, 3) := by decide +kernel
theorem dX3_init_79 : decode cX3_init 79 = .ok (.dup, 1) := by decide +kernel
theorem dX3_init_80 : decode cX3_init 80 = .ok (.invokespecial 25, 3) := by decide +kernel
theorem dX3_init_83 : decode cX3_init 83 = .ok (.putfield 33, 3) := by decide +kernel
theorem dX3_init_86 : decode cX3_init 86 = .ok (.aload_n 0, 1) := by decide +kernel
theorem dX3_init_87 : decode cX3_init 87 = .ok (.new 23, 3) := by decide +kernel
theorem dX3_init_90 : decode cX3_init 90 = .ok (.dup, 1) := by decide +kernel
theorem dX3_init_91 : decode cX3_init 91 = .ok (.invokespecial 25, 3) := by decide +kernel
theorem dX3_init_94 : decode cX3_init 94 = .ok (.putfield 36, 3) := by decide +kernel
theorem dX3_init_97 : decode cX3_init 97 = .ok (.aload_n 0, 1) := by decide +kernel
theorem dX3_init_98 : decode cX3_init 98 = .ok (.sipush 512, 3) := by decide +kernel
theorem dX3_init_101 : decode cX3_init 101 = .ok (.newarray .int, 2) := by decide +kernel
theorem dX3_init_103 : decode cX3_init 103 = .ok (.putfield 39, 3) := by decide +kernel
theorem dX3_init_106 : decode cX3_init 106 = .ok (.aload_n 0, 1) := by decide +kernel
theorem dX3_init_107 : decode cX3_init 107 = .ok (.sipush 512, 3) := by decide +kernel
theorem dX3_init_110 : decode cX3_init 110 = .ok (.newarray .float, 2) := by decide +kernel
theorem dX3_init_112 : decode cX3_init 112 = .ok (.putfield 43, 3) := by decide +kernel
theorem dX3_init_115 : decode cX3_init 115 = .ok (.aload_n 0, 1) := by decide +kernel
theorem dX3_init_116 : decode cX3_init 116 = .ok (.new 7, 3) := by decide +kernel
theorem dX3_init_119 : decode cX3_init 119 = .ok (.dup, 1) := by decide +kernel
theorem dX3_init_120 : decode cX3_init 120 = .ok (.invokespecial 9, 3) := by decide +kernel
theorem dX3_init_123 : decode cX3_init 123 = .ok (.putfield 47, 3) := by decide +kernel
theorem dX3_init_126 : decode cX3_init 126 = .ok (.return_, 1) := by decide +kernel
theorem dX3_low_0 : decode cX3_low 0 = .ok (.fload_n 1, 1) := by decide +kernel
theorem dX3_low_1 : decode cX3_low 1 = .ok (.fload_n 2, 1) := by decide +kernel
theorem dX3_low_2 : decode cX3_low 2 = .ok (.fload_n 3, 1) := by decide +kernel
theorem dX3_low_3 : decode cX3_low 3 = .ok (.invokestatic 50, 3) := by decide +kernel
theorem dX3_low_6 : decode cX3_low 6 = .ok (.aload_n 0, 1) := by decide +kernel
theorem dX3_low_7 : decode cX3_low 7 = .ok (.getfield 10, 3) := by decide +kernel
theorem dX3_low_10 : decode cX3_low 10 = .ok (.iconst 0, 1) := by decide +kernel
theorem dX3_low_11 : decode cX3_low 11 = .ok (.fload_n 1, 1) := by decide +kernel
theorem dX3_low_12 : decode cX3_low 12 = .ok (.fload_n 2, 1) := by decide +kernel
theorem dX3_low_13 : decode cX3_low 13 = .ok (.fload_n 3, 1) := by decide +kernel
theorem dX3_low_14 : decode cX3_low 14 = .ok (.invokevirtual 54, 3) := by decide +kernel
theorem dX3_low_17 : decode cX3_low 17 = .ok (.return_, 1) := by decide +kernel
theorem dX3_high_0 : decode cX3_high 0 = .ok (.fload_n 1, 1) := by decide +kernel
theorem dX3_high_1 : decode cX3_high 1 = .ok (.fload_n 2, 1) := by decide +kernel
theorem dX3_high_2 : decode cX3_high 2 = .ok (.fload_n 3, 1) := by decide +kernel
theorem dX3_high_3 : decode cX3_high 3 = .ok (.invokestatic 50, 3) := by decide +kernel
theorem dX3_high_6 : decode cX3_high 6 = .ok (.aload_n 0, 1) := by decide +kernel
theorem dX3_high_7 : decode cX3_high 7 = .ok (.getfield 10, 3) := by decide +kernel
theorem dX3_high_10 : decode cX3_high 10 = .ok (.iconst 3, 1) := by decide +kernel
theorem dX3_high_11 : decode cX3_high 11 = .ok (.fload_n 1, 1) := by decide +kernel
theorem dX3_high_12 : decode cX3_high 12 = .ok (.fload_n 2, 1) := by decide +kernel
theorem dX3_high_13 : decode cX3_high 13 = .ok (.fload_n 3, 1) := by decide +kernel
theorem dX3_high_14 : decode cX3_high 14 = .ok (.invokevirtual 54, 3) := by decide +kernel
theorem dX3_high_17 : decode cX3_high 17 = .ok (.return_, 1) := by decide +kernel
theorem dX3_add_0 : decode cX3_add 0 = .ok (.aload_n 0, 1) := by decide +kernel
theorem dX3_add_1 : decode cX3_add 1 = .ok (.invokevirtual 58, 3) := by decide +kernel
theorem dX3_add_4 : decode cX3_add 4 = .ok (.aload_n 0, 1) := by decide +kernel
theorem dX3_add_5 : decode cX3_add 5 = .ok (.iconst 1, 1) := by decide +kernel
theorem dX3_add_6 : decode cX3_add 6 = .ok (.invokevirtual 61, 3) := by decide +kernel
theorem dX3_add_9 : decode cX3_add 9 = .ok (.aload_n 0, 1) := by decide +kernel
theorem dX3_add_10 : decode cX3_add 10 = .ok (.iconst 1, 1) := by decide +kernel
theorem dX3_add_11 : decode cX3_add 11 = .ok (.fconst 0, 1) := by decide +kernel
theorem dX3_add_12 : decode cX3_add 12 = .ok (.fconst 0, 1) := by decide +kernel
theorem dX3_add_13 : decode cX3_add 13 = .ok (.fconst 0, 1) := by decide +kernel
theorem dX3_add_14 : decode cX3_add 14 = .ok (.iload_n 1, 1) := by decide +kernel
theorem dX3_add_15 : decode cX3_add 15 = .ok (.iload_n 2, 1) := by decide +kernel
theorem dX3_add_16 : decode cX3_add 16 = .ok (.invokevirtual 65, 3) := by decide +kernel
theorem dX3_add_19 : decode cX3_add 19 = .ok (.ireturn, 1) := by decide +kernel
theorem dX3_addRow_0 : decode cX3_addRow 0 = .ok (.iload_n 1, 1) := by decide +kernel
theorem dX3_addRow_1 : decode cX3_addRow 1 = .ok (.iconst 1, 1) := by decide +kernel
theorem dX3_addRow_2 : decode cX3_addRow 2 = .ok (.if_icmp .lt 10, 3) := by decide +kernel
theorem dX3_addRow_5 : decode cX3_addRow 5 = .ok (.iload_n 1, 1) := by decide +kernel
theorem dX3_addRow_6 : decode cX3_addRow 6 = .ok (.sipush 512, 3) := by decide +kernel
theorem dX3_addRow_9 : decode cX3_addRow 9 = .ok (.if_icmp .le 13, 3) := by decide +kernel
theorem dX3_addRow_12 : decode cX3_addRow 12 = .ok (.new 69, 3) := by decide +kernel
theorem dX3_addRow_15 : decode cX3_addRow 15 = .ok (.dup, 1) := by decide +kernel
theorem dX3_addRow_16 : decode cX3_addRow 16 = .ok (.ldc 71, 2) := by decide +kernel
theorem dX3_addRow_18 : decode cX3_addRow 18 = .ok (.invokespecial 73, 3) := by decide +kernel
theorem dX3_addRow_21 : decode cX3_addRow 21 = .ok (.athrow, 1) := by decide +kernel
theorem dX3_addRow_22 : decode cX3_addRow 22 = .ok (.aload_n 0, 1) := by decide +kernel
theorem dX3_addRow_23 : decode cX3_addRow 23 = .ok (.invokevirtual 58, 3) := by decide +kernel
theorem dX3_addRow_26 : decode cX3_addRow 26 = .ok (.fload_n 2, 1) := by decide +kernel
theorem dX3_addRow_27 : decode cX3_addRow 27 = .ok (.fload_n 3, 1) := by decide +kernel
theorem dX3_addRow_28 : decode cX3_addRow 28 = .ok (.fload 4, 2) := by decide +kernel
theorem dX3_addRow_30 : decode cX3_addRow 30 = .ok (.invokestatic 76, 3) := by decide +kernel
theorem dX3_addRow_33 : decode cX3_addRow 33 = .ok (.aload_n 0, 1) := by decide +kernel
theorem dX3_addRow_34 : decode cX3_addRow 34 = .ok (.iload_n 1, 1) := by decide +kernel
theorem dX3_addRow_35 : decode cX3_addRow 35 = .ok (.fload_n 2, 1) := by decide +kernel
theorem dX3_addRow_36 : decode cX3_addRow 36 = .ok (.fload_n 3, 1) := by decide +kernel
theorem dX3_addRow_37 : decode cX3_addRow 37 = .ok (.fload 4, 2) := by decide +kernel
theorem dX3_addRow_39 : decode cX3_addRow 39 = .ok (.invokevirtual 79, 3) := by decide +kernel
theorem dX3_addRow_42 : decode cX3_addRow 42 = .ok (.ifCond .ne 13, 3) := by decide +kernel
theorem dX3_addRow_45 : decode cX3_addRow 45 = .ok (.new 69, 3) := by decide +kernel
theorem dX3_addRow_48 : decode cX3_addRow 48 = .ok (.dup, 1) := by decide +kernel
theorem dX3_addRow_49 : decode cX3_addRow 49 = .ok (.ldc 83, 2) := by decide +kernel
theorem dX3_addRow_51 : decode cX3_addRow 51 = .ok (.invokespecial 73, 3) := by decide +kernel
theorem dX3_addRow_54 : decode cX3_addRow 54 = .ok (.athrow, 1) := by decide +kernel
theorem dX3_addRow_55 : decode cX3_addRow 55 = .ok (.aload_n 0, 1) := by decide +kernel
theorem dX3_addRow_56 : decode cX3_addRow 56 = .ok (.iload_n 1, 1) := by decide +kernel
theorem dX3_addRow_57 : decode cX3_addRow 57 = .ok (.invokevirtual 61, 3) := by decide +kernel
theorem dX3_addRow_60 : decode cX3_addRow 60 = .ok (.aload_n 0, 1) := by decide +kernel
theorem dX3_addRow_61 : decode cX3_addRow 61 = .ok (.iload_n 1, 1) := by decide +kernel
theorem dX3_addRow_62 : decode cX3_addRow 62 = .ok (.fload_n 2, 1) := by decide +kernel
theorem dX3_addRow_63 : decode cX3_addRow 63 = .ok (.fload_n 3, 1) := by decide +kernel
theorem dX3_addRow_64 : decode cX3_addRow 64 = .ok (.fload 4, 2) := by decide +kernel
theorem dX3_addRow_66 : decode cX3_addRow 66 = .ok (.iload 5, 2) := by decide +kernel
theorem dX3_addRow_68 : decode cX3_addRow 68 = .ok (.iload 6, 2) := by decide +kernel
theorem dX3_addRow_70 : decode cX3_addRow 70 = .ok (.invokevirtual 65, 3) := by decide +kernel
theorem dX3_addRow_73 : decode cX3_addRow 73 = .ok (.ireturn, 1) := by decide +kernel
theorem dX3_move_0 : decode cX3_move 0 = .ok (.aload_n 0, 1) := by decide +kernel
theorem dX3_move_1 : decode cX3_move 1 = .ok (.iload_n 1, 1) := by decide +kernel
theorem dX3_move_2 : decode cX3_move 2 = .ok (.invokevirtual 85, 3) := by decide +kernel
theorem dX3_move_5 : decode cX3_move 5 = .ok (.aload_n 0, 1) := by decide +kernel
theorem dX3_move_6 : decode cX3_move 6 = .ok (.invokevirtual 58, 3) := by decide +kernel
theorem dX3_move_9 : decode cX3_move 9 = .ok (.fload_n 2, 1) := by decide +kernel
theorem dX3_move_10 : decode cX3_move 10 = .ok (.fload_n 3, 1) := by decide +kernel
theorem dX3_move_11 : decode cX3_move 11 = .ok (.fload 4, 2) := by decide +kernel
theorem dX3_move_13 : decode cX3_move 13 = .ok (.invokestatic 76, 3) := by decide +kernel
theorem dX3_move_16 : decode cX3_move 16 = .ok (.aload_n 0, 1) := by decide +kernel
theorem dX3_move_17 : decode cX3_move 17 = .ok (.getfield 18, 3) := by decide +kernel
theorem dX3_move_20 : decode cX3_move 20 = .ok (.iload_n 1, 1) := by decide +kernel
theorem dX3_move_21 : decode cX3_move 21 = .ok (.aaload, 1) := by decide +kernel
theorem dX3_move_22 : decode cX3_move 22 = .ok (.aload_n 0, 1) := by decide +kernel
theorem dX3_move_23 : decode cX3_move 23 = .ok (.getfield 10, 3) := by decide +kernel
theorem dX3_move_26 : decode cX3_move 26 = .ok (.fload_n 2, 1) := by decide +kernel
theorem dX3_move_27 : decode cX3_move 27 = .ok (.fload_n 3, 1) := by decide +kernel
theorem dX3_move_28 : decode cX3_move 28 = .ok (.fload 4, 2) := by decide +kernel
theorem dX3_move_30 : decode cX3_move 30 = .ok (.invokevirtual 88, 3) := by decide +kernel
theorem dX3_move_33 : decode cX3_move 33 = .ok (.ireturn, 1) := by decide +kernel
theorem dX3_shift_0 : decode cX3_shift 0 = .ok (.iload_n 1, 1) := by decide +kernel
theorem dX3_shift_1 : decode cX3_shift 1 = .ok (.invokestatic 92, 3) := by decide +kernel
theorem dX3_shift_4 : decode cX3_shift 4 = .ok (.ifCond .eq 15, 3) := by decide +kernel
theorem dX3_shift_7 : decode cX3_shift 7 = .ok (.iload_n 2, 1) := by decide +kernel
theorem dX3_shift_8 : decode cX3_shift 8 = .ok (.invokestatic 92, 3) := by decide +kernel
theorem dX3_shift_11 : decode cX3_shift 11 = .ok (.ifCond .eq 8, 3) := by decide +kernel
theorem dX3_shift_14 : decode cX3_shift 14 = .ok (.iload_n 1, 1) := by decide +kernel
theorem dX3_shift_15 : decode cX3_shift 15 = .ok (.iload_n 2, 1) := by decide +kernel
theorem dX3_shift_16 : decode cX3_shift 16 = .ok (.if_icmp .le 13, 3) := by decide +kernel
theorem dX3_shift_19 : decode cX3_shift 19 = .ok (.new 96, 3) := by decide +kernel
theorem dX3_shift_22 : decode cX3_shift 22 = .ok (.dup, 1) := by decide +kernel
theorem dX3_shift_23 : decode cX3_shift 23 = .ok (.ldc 98, 2) := by decide +kernel
theorem dX3_shift_25 : decode cX3_shift 25 = .ok (.invokespecial 100, 3) := by decide +kernel
theorem dX3_shift_28 : decode cX3_shift 28 = .ok (.athrow, 1) := by decide +kernel
theorem dX3_shift_29 : decode cX3_shift 29 = .ok (.fload_n 3, 1) := by decide +kernel
theorem dX3_shift_30 : decode cX3_shift 30 = .ok (.fload 4, 2) := by decide +kernel
theorem dX3_shift_32 : decode cX3_shift 32 = .ok (.fload 5, 2) := by decide +kernel
theorem dX3_shift_34 : decode cX3_shift 34 = .ok (.invokestatic 76, 3) := by decide +kernel
theorem dX3_shift_37 : decode cX3_shift 37 = .ok (.iconst 0, 1) := by decide +kernel
theorem dX3_shift_38 : decode cX3_shift 38 = .ok (.istore 6, 2) := by decide +kernel
theorem dX3_shift_40 : decode cX3_shift 40 = .ok (.iload_n 1, 1) := by decide +kernel
theorem dX3_shift_41 : decode cX3_shift 41 = .ok (.istore 7, 2) := by decide +kernel
theorem dX3_shift_43 : decode cX3_shift 43 = .ok (.iload 7, 2) := by decide +kernel
theorem dX3_shift_45 : decode cX3_shift 45 = .ok (.iload_n 2, 1) := by decide +kernel
theorem dX3_shift_46 : decode cX3_shift 46 = .ok (.if_icmp .gt 44, 3) := by decide +kernel
theorem dX3_shift_49 : decode cX3_shift 49 = .ok (.aload_n 0, 1) := by decide +kernel
theorem dX3_shift_50 : decode cX3_shift 50 = .ok (.getfield 18, 3) := by decide +kernel
theorem dX3_shift_53 : decode cX3_shift 53 = .ok (.iload 7, 2) := by decide +kernel
theorem dX3_shift_55 : decode cX3_shift 55 = .ok (.aaload, 1) := by decide +kernel
theorem dX3_shift_56 : decode cX3_shift 56 = .ok (.getfield 101, 3) := by decide +kernel
theorem dX3_shift_59 : decode cX3_shift 59 = .ok (.ifCond .eq 25, 3) := by decide +kernel
theorem dX3_shift_62 : decode cX3_shift 62 = .ok (.aload_n 0, 1) := by decide +kernel
theorem dX3_shift_63 : decode cX3_shift 63 = .ok (.aload_n 0, 1) := by decide +kernel
theorem dX3_shift_64 : decode cX3_shift 64 = .ok (.getfield 18, 3) := by decide +kernel
theorem dX3_shift_67 : decode cX3_shift 67 = .ok (.iload 7, 2) := by decide +kernel
theorem dX3_shift_69 : decode cX3_shift 69 = .ok (.aaload, 1) := by decide +kernel
theorem dX3_shift_70 : decode cX3_shift 70 = .ok (.fload_n 3, 1) := by decide +kernel
theorem dX3_shift_71 : decode cX3_shift 71 = .ok (.fload 4, 2) := by decide +kernel
theorem dX3_shift_73 : decode cX3_shift 73 = .ok (.fload 5, 2) := by decide +kernel
theorem dX3_shift_75 : decode cX3_shift 75 = .ok (.invokevirtual 105, 3) := by decide +kernel
theorem dX3_shift_78 : decode cX3_shift 78 = .ok (.ifCond .eq 6, 3) := by decide +kernel
theorem dX3_shift_81 : decode cX3_shift 81 = .ok (.iinc 6 1, 3) := by decide +kernel
theorem dX3_shift_84 : decode cX3_shift 84 = .ok (.iinc 7 1, 3) := by decide +kernel
theorem dX3_shift_87 : decode cX3_shift 87 = .ok (.goto (-44), 3) := by decide +kernel
theorem dX3_shift_90 : decode cX3_shift 90 = .ok (.iload 6, 2) := by decide +kernel
theorem dX3_shift_92 : decode cX3_shift 92 = .ok (.ireturn, 1) := by decide +kernel
theorem dX3_filter_0 : decode cX3_filter 0 = .ok (.aload_n 0, 1) := by decide +kernel
theorem dX3_filter_1 : decode cX3_filter 1 = .ok (.iload_n 1, 1) := by decide +kernel
theorem dX3_filter_2 : decode cX3_filter 2 = .ok (.invokevirtual 85, 3) := by decide +kernel
theorem dX3_filter_5 : decode cX3_filter 5 = .ok (.aload_n 0, 1) := by decide +kernel
theorem dX3_filter_6 : decode cX3_filter 6 = .ok (.getfield 18, 3) := by decide +kernel
theorem dX3_filter_9 : decode cX3_filter 9 = .ok (.iload_n 1, 1) := by decide +kernel
theorem dX3_filter_10 : decode cX3_filter 10 = .ok (.aaload, 1) := by decide +kernel
theorem dX3_filter_11 : decode cX3_filter 11 = .ok (.iload_n 2, 1) := by decide +kernel
theorem dX3_filter_12 : decode cX3_filter 12 = .ok (.iload_n 3, 1) := by decide +kernel
theorem dX3_filter_13 : decode cX3_filter 13 = .ok (.invokevirtual 109, 3) := by decide +kernel
theorem dX3_filter_16 : decode cX3_filter 16 = .ok (.return_, 1) := by decide +kernel
theorem dX3_remove_0 : decode cX3_remove 0 = .ok (.aload_n 0, 1) := by decide +kernel
theorem dX3_remove_1 : decode cX3_remove 1 = .ok (.iload_n 1, 1) := by decide +kernel
theorem dX3_remove_2 : decode cX3_remove 2 = .ok (.invokevirtual 85, 3) := by decide +kernel
theorem dX3_remove_5 : decode cX3_remove 5 = .ok (.iconst 0, 1) := by decide +kernel
theorem dX3_remove_6 : decode cX3_remove 6 = .ok (.istore_n 2, 1) := by decide +kernel
theorem dX3_remove_7 : decode cX3_remove 7 = .ok (.iconst 0, 1) := by decide +kernel
theorem dX3_remove_8 : decode cX3_remove 8 = .ok (.istore_n 3, 1) := by decide +kernel
theorem dX3_remove_9 : decode cX3_remove 9 = .ok (.iload_n 3, 1) := by decide +kernel
theorem dX3_remove_10 : decode cX3_remove 10 = .ok (.sipush 512, 3) := by decide +kernel
theorem dX3_remove_13 : decode cX3_remove 13 = .ok (.if_icmp .ge 34, 3) := by decide +kernel
theorem dX3_remove_16 : decode cX3_remove 16 = .ok (.aload_n 0, 1) := by decide +kernel
theorem dX3_remove_17 : decode cX3_remove 17 = .ok (.iload_n 1, 1) := by decide +kernel
theorem dX3_remove_18 : decode cX3_remove 18 = .ok (.iload_n 3, 1) := by decide +kernel
theorem dX3_remove_19 : decode cX3_remove 19 = .ok (.invokevirtual 113, 3) := by decide +kernel
theorem dX3_remove_22 : decode cX3_remove 22 = .ok (.ifCond .eq 19, 3) := by decide +kernel
theorem dX3_remove_25 : decode cX3_remove 25 = .ok (.aload_n 0, 1) := by decide +kernel
theorem dX3_remove_26 : decode cX3_remove 26 = .ok (.getfield 26, 3) := by decide +kernel
theorem dX3_remove_29 : decode cX3_remove 29 = .ok (.iload_n 1, 1) := by decide +kernel
theorem dX3_remove_30 : decode cX3_remove 30 = .ok (.iload_n 3, 1) := by decide +kernel
theorem dX3_remove_31 : decode cX3_remove 31 = .ok (.invokestatic 117, 3) := by decide +kernel
theorem dX3_remove_34 : decode cX3_remove 34 = .ok (.iconst 0, 1) := by decide +kernel
theorem dX3_remove_35 : decode cX3_remove 35 = .ok (.invokevirtual 121, 3) := by decide +kernel
theorem dX3_remove_38 : decode cX3_remove 38 = .ok (.iinc 2 1, 3) := by decide +kernel
theorem dX3_remove_41 : decode cX3_remove 41 = .ok (.iinc 3 1, 3) := by decide +kernel
theorem dX3_remove_44 : decode cX3_remove 44 = .ok (.goto (-35), 3) := by decide +kernel
theorem dX3_remove_47 : decode cX3_remove 47 = .ok (.aload_n 0, 1) := by decide +kernel
theorem dX3_remove_48 : decode cX3_remove 48 = .ok (.getfield 18, 3) := by decide +kernel
theorem dX3_remove_51 : decode cX3_remove 51 = .ok (.iload_n 1, 1) := by decide +kernel
theorem dX3_remove_52 : decode cX3_remove 52 = .ok (.aaload, 1) := by decide +kernel
theorem dX3_remove_53 : decode cX3_remove 53 = .ok (.invokevirtual 125, 3) := by decide +kernel
theorem dX3_remove_56 : decode cX3_remove 56 = .ok (.aload_n 0, 1) := by decide +kernel
theorem dX3_remove_57 : decode cX3_remove 57 = .ok (.dup, 1) := by decide +kernel
theorem dX3_remove_58 : decode cX3_remove 58 = .ok (.getfield 128, 3) := by decide +kernel
theorem dX3_remove_61 : decode cX3_remove 61 = .ok (.iconst 1, 1) := by decide +kernel
theorem dX3_remove_62 : decode cX3_remove 62 = .ok (.isub, 1) := by decide +kernel
theorem dX3_remove_63 : decode cX3_remove 63 = .ok (.putfield 128, 3) := by decide +kernel
theorem dX3_remove_66 : decode cX3_remove 66 = .ok (.iload_n 2, 1) := by decide +kernel
theorem dX3_remove_67 : decode cX3_remove 67 = .ok (.ireturn, 1) := by decide +kernel
theorem dX3_update_0 : decode cX3_update 0 = .ok (.aload_n 0, 1) := by decide +kernel
theorem dX3_update_1 : decode cX3_update 1 = .ok (.getfield 30, 3) := by decide +kernel
theorem dX3_update_4 : decode cX3_update 4 = .ok (.aload_n 0, 1) := by decide +kernel
theorem dX3_update_5 : decode cX3_update 5 = .ok (.getfield 26, 3) := by decide +kernel
theorem dX3_update_8 : decode cX3_update 8 = .ok (.invokevirtual 132, 3) := by decide +kernel
theorem dX3_update_11 : decode cX3_update 11 = .ok (.iconst 0, 1) := by decide +kernel
theorem dX3_update_12 : decode cX3_update 12 = .ok (.istore_n 1, 1) := by decide +kernel
theorem dX3_update_13 : decode cX3_update 13 = .ok (.iload_n 1, 1) := by decide +kernel
theorem dX3_update_14 : decode cX3_update 14 = .ok (.sipush 512, 3) := by decide +kernel
theorem dX3_update_17 : decode cX3_update 17 = .ok (.if_icmp .ge 26, 3) := by decide +kernel
theorem dX3_update_20 : decode cX3_update 20 = .ok (.aload_n 0, 1) := by decide +kernel
theorem dX3_update_21 : decode cX3_update 21 = .ok (.getfield 18, 3) := by decide +kernel
theorem dX3_update_24 : decode cX3_update 24 = .ok (.iload_n 1, 1) := by decide +kernel
theorem dX3_update_25 : decode cX3_update 25 = .ok (.aaload, 1) := by decide +kernel
theorem dX3_update_26 : decode cX3_update 26 = .ok (.getfield 136, 3) := by decide +kernel
theorem dX3_update_29 : decode cX3_update 29 = .ok (.ifCond .eq 8, 3) := by decide +kernel
theorem dX3_update_32 : decode cX3_update 32 = .ok (.aload_n 0, 1) := by decide +kernel
theorem dX3_update_33 : decode cX3_update 33 = .ok (.iload_n 1, 1) := by decide +kernel
theorem dX3_update_34 : decode cX3_update 34 = .ok (.invokevirtual 139, 3) := by decide +kernel
theorem dX3_update_37 : decode cX3_update 37 = .ok (.iinc 1 1, 3) := by decide +kernel
theorem dX3_update_40 : decode cX3_update 40 = .ok (.goto (-27), 3) := by decide +kernel
theorem dX3_update_43 : decode cX3_update 43 = .ok (.aload_n 0, 1) := by decide +kernel
theorem dX3_update_44 : decode cX3_update 44 = .ok (.getfield 30, 3) := by decide +kernel
theorem dX3_update_47 : decode cX3_update 47 = .ok (.getfield 142, 3) := by decide +kernel
theorem dX3_update_50 : decode cX3_update 50 = .ok (.sipush 16384, 3) := by decide +kernel
theorem dX3_update_53 : decode cX3_update 53 = .ok (.if_icmp .le 13, 3) := by decide +kernel
theorem dX3_update_56 : decode cX3_update 56 = .ok (.new 145, 3) := by decide +kernel
theorem dX3_update_59 : decode cX3_update 59 = .ok (.dup, 1) := by decide +kernel
theorem dX3_update_60 : decode cX3_update 60 = .ok (.ldc 147, 2) := by decide +kernel
theorem dX3_update_62 : decode cX3_update 62 = .ok (.invokespecial 149, 3) := by decide +kernel
theorem dX3_update_65 : decode cX3_update 65 = .ok (.athrow, 1) := by decide +kernel
theorem dX3_update_66 : decode cX3_update 66 = .ok (.aload_n 0, 1) := by decide +kernel
theorem dX3_update_67 : decode cX3_update 67 = .ok (.getfield 33, 3) := by decide +kernel
theorem dX3_update_70 : decode cX3_update 70 = .ok (.aload_n 0, 1) := by decide +kernel
theorem dX3_update_71 : decode cX3_update 71 = .ok (.getfield 30, 3) := by decide +kernel
theorem dX3_update_74 : decode cX3_update 74 = .ok (.aload_n 0, 1) := by decide +kernel
theorem dX3_update_75 : decode cX3_update 75 = .ok (.getfield 26, 3) := by decide +kernel
theorem dX3_update_78 : decode cX3_update 78 = .ok (.invokevirtual 150, 3) := by decide +kernel
theorem dX3_update_81 : decode cX3_update 81 = .ok (.aload_n 0, 1) := by decide +kernel
theorem dX3_update_82 : decode cX3_update 82 = .ok (.getfield 36, 3) := by decide +kernel
theorem dX3_update_85 : decode cX3_update 85 = .ok (.aload_n 0, 1) := by decide +kernel
theorem dX3_update_86 : decode cX3_update 86 = .ok (.getfield 26, 3) := by decide +kernel
theorem dX3_update_89 : decode cX3_update 89 = .ok (.aload_n 0, 1) := by decide +kernel
theorem dX3_update_90 : decode cX3_update 90 = .ok (.getfield 30, 3) := by decide +kernel
theorem dX3_update_93 : decode cX3_update 93 = .ok (.invokevirtual 150, 3) := by decide +kernel
theorem dX3_update_96 : decode cX3_update 96 = .ok (.aload_n 0, 1) := by decide +kernel
theorem dX3_update_97 : decode cX3_update 97 = .ok (.getfield 26, 3) := by decide +kernel
theorem dX3_update_100 : decode cX3_update 100 = .ok (.astore_n 1, 1) := by decide +kernel
theorem dX3_update_101 : decode cX3_update 101 = .ok (.aload_n 0, 1) := by decide +kernel
theorem dX3_update_102 : decode cX3_update 102 = .ok (.aload_n 0, 1) := by decide +kernel
theorem dX3_update_103 : decode cX3_update 103 = .ok (.getfield 30, 3) := by decide +kernel
theorem dX3_update_106 : decode cX3_update 106 = .ok (.putfield 26, 3) := by decide +kernel
theorem dX3_update_109 : decode cX3_update 109 = .ok (.aload_n 0, 1) := by decide +kernel
theorem dX3_update_110 : decode cX3_update 110 = .ok (.aload_n 1, 1) := by decide +kernel
theorem dX3_update_111 : decode cX3_update 111 = .ok (.putfield 30, 3) := by decide +kernel
theorem dX3_update_114 : decode cX3_update 114 = .ok (.iconst 0, 1) := by decide +kernel
theorem dX3_update_115 : decode cX3_update 115 = .ok (.istore_n 2, 1) := by decide +kernel
theorem dX3_update_116 : decode cX3_update 116 = .ok (.iload_n 2, 1) := by decide +kernel
theorem dX3_update_117 : decode cX3_update 117 = .ok (.sipush 512, 3) := by decide +kernel
theorem dX3_update_120 : decode cX3_update 120 = .ok (.if_icmp .ge 19, 3) := by decide +kernel
theorem dX3_update_123 : decode cX3_update 123 = .ok (.aload_n 0, 1) := by decide +kernel
theorem dX3_update_124 : decode cX3_update 124 = .ok (.getfield 18, 3) := by decide +kernel
theorem dX3_update_127 : decode cX3_update 127 = .ok (.iload_n 2, 1) := by decide +kernel
theorem dX3_update_128 : decode cX3_update 128 = .ok (.aaload, 1) := by decide +kernel
theorem dX3_update_129 : decode cX3_update 129 = .ok (.iconst 0, 1) := by decide +kernel
theorem dX3_update_130 : decode cX3_update 130 = .ok (.putfield 136, 3) := by decide +kernel
theorem dX3_update_133 : decode cX3_update 133 = .ok (.iinc 2 1, 3) := by decide +kernel
theorem dX3_update_136 : decode cX3_update 136 = .ok (.goto (-20), 3) := by decide +kernel
theorem dX3_update_139 : decode cX3_update 139 = .ok (.aload_n 0, 1) := by decide +kernel
theorem dX3_update_140 : decode cX3_update 140 = .ok (.dup, 1) := by decide +kernel
theorem dX3_update_141 : decode cX3_update 141 = .ok (.getfield 154, 3) := by decide +kernel
theorem dX3_update_144 : decode cX3_update 144 = .ok (.iconst 1, 1) := by decide +kernel
theorem dX3_update_145 : decode cX3_update 145 = .ok (.iadd, 1) := by decide +kernel
theorem dX3_update_146 : decode cX3_update 146 = .ok (.putfield 154, 3) := by decide +kernel
theorem dX3_update_149 : decode cX3_update 149 = .ok (.aload_n 0, 1) := by decide +kernel
theorem dX3_update_150 : decode cX3_update 150 = .ok (.getfield 26, 3) := by decide +kernel
theorem dX3_update_153 : decode cX3_update 153 = .ok (.getfield 142, 3) := by decide +kernel
theorem dX3_update_156 : decode cX3_update 156 = .ok (.ireturn, 1) := by decide +kernel
theorem dX3_pair_0 : decode cX3_pair 0 = .ok (.iload_n 1, 1) := by decide +kernel
theorem dX3_pair_1 : decode cX3_pair 1 = .ok (.ifCond .lt 8, 3) := by decide +kernel
theorem dX3_pair_4 : decode cX3_pair 4 = .ok (.iload_n 1, 1) := by decide +kernel
theorem dX3_pair_5 : decode cX3_pair 5 = .ok (.iconst 2, 1) := by decide +kernel
theorem dX3_pair_6 : decode cX3_pair 6 = .ok (.if_icmp .le 13, 3) := by decide +kernel
theorem dX3_pair_9 : decode cX3_pair 9 = .ok (.new 96, 3) := by decide +kernel
theorem dX3_pair_12 : decode cX3_pair 12 = .ok (.dup, 1) := by decide +kernel
theorem dX3_pair_13 : decode cX3_pair 13 = .ok (.ldc 157, 2) := by decide +kernel
theorem dX3_pair_15 : decode cX3_pair 15 = .ok (.invokespecial 100, 3) := by decide +kernel
theorem dX3_pair_18 : decode cX3_pair 18 = .ok (.athrow, 1) := by decide +kernel
theorem dX3_pair_19 : decode cX3_pair 19 = .ok (.iload_n 1, 1) := by decide +kernel
theorem dX3_pair_20 : decode cX3_pair 20 = .ok (.ifCond .ne 10, 3) := by decide +kernel
theorem dX3_pair_23 : decode cX3_pair 23 = .ok (.aload_n 0, 1) := by decide +kernel
theorem dX3_pair_24 : decode cX3_pair 24 = .ok (.getfield 26, 3) := by decide +kernel
theorem dX3_pair_27 : decode cX3_pair 27 = .ok (.goto 19, 3) := by decide +kernel
theorem dX3_pair_30 : decode cX3_pair 30 = .ok (.iload_n 1, 1) := by decide +kernel
theorem dX3_pair_31 : decode cX3_pair 31 = .ok (.iconst 1, 1) := by decide +kernel
theorem dX3_pair_32 : decode cX3_pair 32 = .ok (.if_icmp .ne 10, 3) := by decide +kernel
theorem dX3_pair_35 : decode cX3_pair 35 = .ok (.aload_n 0, 1) := by decide +kernel
theorem dX3_pair_36 : decode cX3_pair 36 = .ok (.getfield 33, 3) := by decide +kernel
theorem dX3_pair_39 : decode cX3_pair 39 = .ok (.goto 7, 3) := by decide +kernel
theorem dX3_pair_42 : decode cX3_pair 42 = .ok (.aload_n 0, 1) := by decide +kernel
theorem dX3_pair_43 : decode cX3_pair 43 = .ok (.getfield 36, 3) := by decide +kernel
theorem dX3_pair_46 : decode cX3_pair 46 = .ok (.astore_n 3, 1) := by decide +kernel
theorem dX3_pair_47 : decode cX3_pair 47 = .ok (.iload_n 2, 1) := by decide +kernel
theorem dX3_pair_48 : decode cX3_pair 48 = .ok (.ifCond .lt 11, 3) := by decide +kernel
theorem dX3_pair_51 : decode cX3_pair 51 = .ok (.iload_n 2, 1) := by decide +kernel
theorem dX3_pair_52 : decode cX3_pair 52 = .ok (.aload_n 3, 1) := by decide +kernel
theorem dX3_pair_53 : decode cX3_pair 53 = .ok (.getfield 142, 3) := by decide +kernel
theorem dX3_pair_56 : decode cX3_pair 56 = .ok (.if_icmp .lt 13, 3) := by decide +kernel
theorem dX3_pair_59 : decode cX3_pair 59 = .ok (.new 96, 3) := by decide +kernel
theorem dX3_pair_62 : decode cX3_pair 62 = .ok (.dup, 1) := by decide +kernel
theorem dX3_pair_63 : decode cX3_pair 63 = .ok (.ldc 159, 2) := by decide +kernel
theorem dX3_pair_65 : decode cX3_pair 65 = .ok (.invokespecial 100, 3) := by decide +kernel
theorem dX3_pair_68 : decode cX3_pair 68 = .ok (.athrow, 1) := by decide +kernel
theorem dX3_pair_69 : decode cX3_pair 69 = .ok (.aload_n 3, 1) := by decide +kernel
theorem dX3_pair_70 : decode cX3_pair 70 = .ok (.iload_n 2, 1) := by decide +kernel
theorem dX3_pair_71 : decode cX3_pair 71 = .ok (.invokevirtual 161, 3) := by decide +kernel
theorem dX3_pair_74 : decode cX3_pair 74 = .ok (.ireturn, 1) := by decide +kernel
theorem dX3_paired_0 : decode cX3_paired 0 = .ok (.aload_n 0, 1) := by decide +kernel
theorem dX3_paired_1 : decode cX3_paired 1 = .ok (.iload_n 1, 1) := by decide +kernel
theorem dX3_paired_2 : decode cX3_paired 2 = .ok (.invokevirtual 85, 3) := by decide +kernel
theorem dX3_paired_5 : decode cX3_paired 5 = .ok (.aload_n 0, 1) := by decide +kernel
theorem dX3_paired_6 : decode cX3_paired 6 = .ok (.iload_n 2, 1) := by decide +kernel
theorem dX3_paired_7 : decode cX3_paired 7 = .ok (.invokevirtual 85, 3) := by decide +kernel
theorem dX3_paired_10 : decode cX3_paired 10 = .ok (.aload_n 0, 1) := by decide +kernel
theorem dX3_paired_11 : decode cX3_paired 11 = .ok (.iload_n 1, 1) := by decide +kernel
theorem dX3_paired_12 : decode cX3_paired 12 = .ok (.iload_n 2, 1) := by decide +kernel
theorem dX3_paired_13 : decode cX3_paired 13 = .ok (.invokevirtual 113, 3) := by decide +kernel
theorem dX3_paired_16 : decode cX3_paired 16 = .ok (.ireturn, 1) := by decide +kernel
theorem dX3_overlapping_0 : decode cX3_overlapping 0 = .ok (.aload_n 0, 1) := by decide +kernel
theorem dX3_overlapping_1 : decode cX3_overlapping 1 = .ok (.invokevirtual 58, 3) := by decide +kernel
theorem dX3_overlapping_4 : decode cX3_overlapping 4 = .ok (.aload_n 0, 1) := by decide +kernel
theorem dX3_overlapping_5 : decode cX3_overlapping 5 = .ok (.iconst 0, 1) := by decide +kernel
theorem dX3_overlapping_6 : decode cX3_overlapping 6 = .ok (.putfield 165, 3) := by decide +kernel
theorem dX3_overlapping_9 : decode cX3_overlapping 9 = .ok (.iconst 0, 1) := by decide +kernel
theorem dX3_overlapping_10 : decode cX3_overlapping 10 = .ok (.istore_n 2, 1) := by decide +kernel
theorem dX3_overlapping_11 : decode cX3_overlapping 11 = .ok (.iload_n 2, 1) := by decide +kernel
theorem dX3_overlapping_12 : decode cX3_overlapping 12 = .ok (.sipush 512, 3) := by decide +kernel
theorem dX3_overlapping_15 : decode cX3_overlapping 15 = .ok (.if_icmp .ge 52, 3) := by decide +kernel
theorem dX3_overlapping_18 : decode cX3_overlapping 18 = .ok (.aload_n 0, 1) := by decide +kernel
theorem dX3_overlapping_19 : decode cX3_overlapping 19 = .ok (.getfield 18, 3) := by decide +kernel
theorem dX3_overlapping_22 : decode cX3_overlapping 22 = .ok (.iload_n 2, 1) := by decide +kernel
theorem dX3_overlapping_23 : decode cX3_overlapping 23 = .ok (.aaload, 1) := by decide +kernel
theorem dX3_overlapping_24 : decode cX3_overlapping 24 = .ok (.astore_n 3, 1) := by decide +kernel
theorem dX3_overlapping_25 : decode cX3_overlapping 25 = .ok (.aload_n 3, 1) := by decide +kernel
theorem dX3_overlapping_26 : decode cX3_overlapping 26 = .ok (.getfield 101, 3) := by decide +kernel
theorem dX3_overlapping_29 : decode cX3_overlapping 29 = .ok (.ifCond .eq 32, 3) := by decide +kernel
theorem dX3_overlapping_32 : decode cX3_overlapping 32 = .ok (.aload_n 3, 1) := by decide +kernel
theorem dX3_overlapping_33 : decode cX3_overlapping 33 = .ok (.getfield 168, 3) := by decide +kernel
theorem dX3_overlapping_36 : decode cX3_overlapping 36 = .ok (.iload_n 1, 1) := by decide +kernel
theorem dX3_overlapping_37 : decode cX3_overlapping 37 = .ok (.iand, 1) := by decide +kernel
theorem dX3_overlapping_38 : decode cX3_overlapping 38 = .ok (.ifCond .eq 23, 3) := by decide +kernel
theorem dX3_overlapping_41 : decode cX3_overlapping 41 = .ok (.aload_n 3, 1) := by decide +kernel
theorem dX3_overlapping_42 : decode cX3_overlapping 42 = .ok (.getfield 171, 3) := by decide +kernel
theorem dX3_overlapping_45 : decode cX3_overlapping 45 = .ok (.aload_n 0, 1) := by decide +kernel
theorem dX3_overlapping_46 : decode cX3_overlapping 46 = .ok (.getfield 10, 3) := by decide +kernel
theorem dX3_overlapping_49 : decode cX3_overlapping 49 = .ok (.invokevirtual 174, 3) := by decide +kernel
theorem dX3_overlapping_52 : decode cX3_overlapping 52 = .ok (.ifCond .eq 9, 3) := by decide +kernel
theorem dX3_overlapping_55 : decode cX3_overlapping 55 = .ok (.aload_n 0, 1) := by decide +kernel
theorem dX3_overlapping_56 : decode cX3_overlapping 56 = .ok (.iload_n 2, 1) := by decide +kernel
theorem dX3_overlapping_57 : decode cX3_overlapping 57 = .ok (.fconst 0, 1) := by decide +kernel
theorem dX3_overlapping_58 : decode cX3_overlapping 58 = .ok (.invokevirtual 178, 3) := by decide +kernel
theorem dX3_overlapping_61 : decode cX3_overlapping 61 = .ok (.iinc 2 1, 3) := by decide +kernel
theorem dX3_overlapping_64 : decode cX3_overlapping 64 = .ok (.goto (-53), 3) := by decide +kernel
theorem dX3_overlapping_67 : decode cX3_overlapping 67 = .ok (.aload_n 0, 1) := by decide +kernel
theorem dX3_overlapping_68 : decode cX3_overlapping 68 = .ok (.getfield 165, 3) := by decide +kernel
theorem dX3_overlapping_71 : decode cX3_overlapping 71 = .ok (.ireturn, 1) := by decide +kernel
theorem dX3_meeting_0 : decode cX3_meeting 0 = .ok (.aload_n 0, 1) := by decide +kernel
theorem dX3_meeting_1 : decode cX3_meeting 1 = .ok (.iconst 0, 1) := by decide +kernel
theorem dX3_meeting_2 : decode cX3_meeting 2 = .ok (.putfield 165, 3) := by decide +kernel
theorem dX3_meeting_5 : decode cX3_meeting 5 = .ok (.iconst 0, 1) := by decide +kernel
theorem dX3_meeting_6 : decode cX3_meeting 6 = .ok (.istore_n 2, 1) := by decide +kernel
theorem dX3_meeting_7 : decode cX3_meeting 7 = .ok (.iload_n 2, 1) := by decide +kernel
theorem dX3_meeting_8 : decode cX3_meeting 8 = .ok (.sipush 512, 3) := by decide +kernel
theorem dX3_meeting_11 : decode cX3_meeting 11 = .ok (.if_icmp .ge 60, 3) := by decide +kernel
theorem dX3_meeting_14 : decode cX3_meeting 14 = .ok (.aload_n 0, 1) := by decide +kernel
theorem dX3_meeting_15 : decode cX3_meeting 15 = .ok (.getfield 18, 3) := by decide +kernel
theorem dX3_meeting_18 : decode cX3_meeting 18 = .ok (.iload_n 2, 1) := by decide +kernel
theorem dX3_meeting_19 : decode cX3_meeting 19 = .ok (.aaload, 1) := by decide +kernel
theorem dX3_meeting_20 : decode cX3_meeting 20 = .ok (.astore_n 3, 1) := by decide +kernel
theorem dX3_meeting_21 : decode cX3_meeting 21 = .ok (.aload_n 3, 1) := by decide +kernel
theorem dX3_meeting_22 : decode cX3_meeting 22 = .ok (.getfield 101, 3) := by decide +kernel
theorem dX3_meeting_25 : decode cX3_meeting 25 = .ok (.ifCond .eq 40, 3) := by decide +kernel
theorem dX3_meeting_28 : decode cX3_meeting 28 = .ok (.aload_n 3, 1) := by decide +kernel
theorem dX3_meeting_29 : decode cX3_meeting 29 = .ok (.getfield 168, 3) := by decide +kernel
theorem dX3_meeting_32 : decode cX3_meeting 32 = .ok (.iload_n 1, 1) := by decide +kernel
theorem dX3_meeting_33 : decode cX3_meeting 33 = .ok (.iand, 1) := by decide +kernel
theorem dX3_meeting_34 : decode cX3_meeting 34 = .ok (.ifCond .eq 31, 3) := by decide +kernel
theorem dX3_meeting_37 : decode cX3_meeting 37 = .ok (.aload_n 3, 1) := by decide +kernel
theorem dX3_meeting_38 : decode cX3_meeting 38 = .ok (.getfield 171, 3) := by decide +kernel
theorem dX3_meeting_41 : decode cX3_meeting 41 = .ok (.aload_n 0, 1) := by decide +kernel
theorem dX3_meeting_42 : decode cX3_meeting 42 = .ok (.getfield 10, 3) := by decide +kernel
theorem dX3_meeting_45 : decode cX3_meeting 45 = .ok (.invokevirtual 182, 3) := by decide +kernel
theorem dX3_meeting_48 : decode cX3_meeting 48 = .ok (.fstore 4, 2) := by decide +kernel
theorem dX3_meeting_50 : decode cX3_meeting 50 = .ok (.fload 4, 2) := by decide +kernel
theorem dX3_meeting_52 : decode cX3_meeting 52 = .ok (.ldc 186, 2) := by decide +kernel
theorem dX3_meeting_54 : decode cX3_meeting 54 = .ok (.fcmp .l, 1) := by decide +kernel
theorem dX3_meeting_55 : decode cX3_meeting 55 = .ok (.ifCond .eq 10, 3) := by decide +kernel
theorem dX3_meeting_58 : decode cX3_meeting 58 = .ok (.aload_n 0, 1) := by decide +kernel
theorem dX3_meeting_59 : decode cX3_meeting 59 = .ok (.iload_n 2, 1) := by decide +kernel
theorem dX3_meeting_60 : decode cX3_meeting 60 = .ok (.fload 4, 2) := by decide +kernel
theorem dX3_meeting_62 : decode cX3_meeting 62 = .ok (.invokevirtual 178, 3) := by decide +kernel
theorem dX3_meeting_65 : decode cX3_meeting 65 = .ok (.iinc 2 1, 3) := by decide +kernel
theorem dX3_meeting_68 : decode cX3_meeting 68 = .ok (.goto (-61), 3) := by decide +kernel
theorem dX3_meeting_71 : decode cX3_meeting 71 = .ok (.aload_n 0, 1) := by decide +kernel
theorem dX3_meeting_72 : decode cX3_meeting 72 = .ok (.getfield 165, 3) := by decide +kernel
theorem dX3_meeting_75 : decode cX3_meeting 75 = .ok (.ireturn, 1) := by decide +kernel
theorem dX3_found_0 : decode cX3_found 0 = .ok (.aload_n 0, 1) := by decide +kernel
theorem dX3_found_1 : decode cX3_found 1 = .ok (.iload_n 1, 1) := by decide +kernel
theorem dX3_found_2 : decode cX3_found 2 = .ok (.invokevirtual 187, 3) := by decide +kernel
theorem dX3_found_5 : decode cX3_found 5 = .ok (.aload_n 0, 1) := by decide +kernel
theorem dX3_found_6 : decode cX3_found 6 = .ok (.getfield 39, 3) := by decide +kernel
theorem dX3_found_9 : decode cX3_found 9 = .ok (.iload_n 1, 1) := by decide +kernel
theorem dX3_found_10 : decode cX3_found 10 = .ok (.iaload, 1) := by decide +kernel
theorem dX3_found_11 : decode cX3_found 11 = .ok (.ireturn, 1) := by decide +kernel
theorem dX3_where_0 : decode cX3_where 0 = .ok (.aload_n 0, 1) := by decide +kernel
theorem dX3_where_1 : decode cX3_where 1 = .ok (.iload_n 1, 1) := by decide +kernel
theorem dX3_where_2 : decode cX3_where 2 = .ok (.invokevirtual 187, 3) := by decide +kernel
theorem dX3_where_5 : decode cX3_where 5 = .ok (.aload_n 0, 1) := by decide +kernel
theorem dX3_where_6 : decode cX3_where 6 = .ok (.getfield 43, 3) := by decide +kernel
theorem dX3_where_9 : decode cX3_where 9 = .ok (.iload_n 1, 1) := by decide +kernel
theorem dX3_where_10 : decode cX3_where 10 = .ok (.faload, 1) := by decide +kernel
theorem dX3_where_11 : decode cX3_where 11 = .ok (.freturn, 1) := by decide +kernel
theorem dX3_nearest_0 : decode cX3_nearest 0 = .ok (.aload_n 0, 1) := by decide +kernel
theorem dX3_nearest_1 : decode cX3_nearest 1 = .ok (.getfield 165, 3) := by decide +kernel
theorem dX3_nearest_4 : decode cX3_nearest 4 = .ok (.ifCond .ne 5, 3) := by decide +kernel
theorem dX3_nearest_7 : decode cX3_nearest 7 = .ok (.iconst (-1), 1) := by decide +kernel
theorem dX3_nearest_8 : decode cX3_nearest 8 = .ok (.ireturn, 1) := by decide +kernel
theorem dX3_nearest_9 : decode cX3_nearest 9 = .ok (.iconst 0, 1) := by decide +kernel
theorem dX3_nearest_10 : decode cX3_nearest 10 = .ok (.istore_n 1, 1) := by decide +kernel
theorem dX3_nearest_11 : decode cX3_nearest 11 = .ok (.iconst 1, 1) := by decide +kernel
theorem dX3_nearest_12 : decode cX3_nearest 12 = .ok (.istore_n 2, 1) := by decide +kernel
theorem dX3_nearest_13 : decode cX3_nearest 13 = .ok (.iload_n 2, 1) := by decide +kernel
theorem dX3_nearest_14 : decode cX3_nearest 14 = .ok (.aload_n 0, 1) := by decide +kernel
theorem dX3_nearest_15 : decode cX3_nearest 15 = .ok (.getfield 165, 3) := by decide +kernel
theorem dX3_nearest_18 : decode cX3_nearest 18 = .ok (.if_icmp .ge 27, 3) := by decide +kernel
theorem dX3_nearest_21 : decode cX3_nearest 21 = .ok (.aload_n 0, 1) := by decide +kernel
theorem dX3_nearest_22 : decode cX3_nearest 22 = .ok (.getfield 43, 3) := by decide +kernel
theorem dX3_nearest_25 : decode cX3_nearest 25 = .ok (.iload_n 2, 1) := by decide +kernel
theorem dX3_nearest_26 : decode cX3_nearest 26 = .ok (.faload, 1) := by decide +kernel
theorem dX3_nearest_27 : decode cX3_nearest 27 = .ok (.aload_n 0, 1) := by decide +kernel
theorem dX3_nearest_28 : decode cX3_nearest 28 = .ok (.getfield 43, 3) := by decide +kernel
theorem dX3_nearest_31 : decode cX3_nearest 31 = .ok (.iload_n 1, 1) := by decide +kernel
theorem dX3_nearest_32 : decode cX3_nearest 32 = .ok (.faload, 1) := by decide +kernel
theorem dX3_nearest_33 : decode cX3_nearest 33 = .ok (.fcmp .g, 1) := by decide +kernel
theorem dX3_nearest_34 : decode cX3_nearest 34 = .ok (.ifCond .ge 5, 3) := by decide +kernel
theorem dX3_nearest_37 : decode cX3_nearest 37 = .ok (.iload_n 2, 1) := by decide +kernel
theorem dX3_nearest_38 : decode cX3_nearest 38 = .ok (.istore_n 1, 1) := by decide +kernel
theorem dX3_nearest_39 : decode cX3_nearest 39 = .ok (.iinc 2 1, 3) := by decide +kernel
theorem dX3_nearest_42 : decode cX3_nearest 42 = .ok (.goto (-29), 3) := by decide +kernel
theorem dX3_nearest_45 : decode cX3_nearest 45 = .ok (.aload_n 0, 1) := by decide +kernel
theorem dX3_nearest_46 : decode cX3_nearest 46 = .ok (.getfield 39, 3) := by decide +kernel
theorem dX3_nearest_49 : decode cX3_nearest 49 = .ok (.iload_n 1, 1) := by decide +kernel
theorem dX3_nearest_50 : decode cX3_nearest 50 = .ok (.iaload, 1) := by decide +kernel
theorem dX3_nearest_51 : decode cX3_nearest 51 = .ok (.ireturn, 1) := by decide +kernel
theorem dX3_corner_0 : decode cX3_corner 0 = .ok (.aload_n 0, 1) := by decide +kernel
theorem dX3_corner_1 : decode cX3_corner 1 = .ok (.iload_n 1, 1) := by decide +kernel
theorem dX3_corner_2 : decode cX3_corner 2 = .ok (.invokevirtual 85, 3) := by decide +kernel
theorem dX3_corner_5 : decode cX3_corner 5 = .ok (.iload_n 2, 1) := by decide +kernel
theorem dX3_corner_6 : decode cX3_corner 6 = .ok (.ifCond .lt 9, 3) := by decide +kernel
theorem dX3_corner_9 : decode cX3_corner 9 = .ok (.iload_n 2, 1) := by decide +kernel
theorem dX3_corner_10 : decode cX3_corner 10 = .ok (.bipush 12, 2) := by decide +kernel
theorem dX3_corner_12 : decode cX3_corner 12 = .ok (.if_icmp .lt 13, 3) := by decide +kernel
theorem dX3_corner_15 : decode cX3_corner 15 = .ok (.new 96, 3) := by decide +kernel
theorem dX3_corner_18 : decode cX3_corner 18 = .ok (.dup, 1) := by decide +kernel
theorem dX3_corner_19 : decode cX3_corner 19 = .ok (.ldc 190, 2) := by decide +kernel
theorem dX3_corner_21 : decode cX3_corner 21 = .ok (.invokespecial 100, 3) := by decide +kernel
theorem dX3_corner_24 : decode cX3_corner 24 = .ok (.athrow, 1) := by decide +kernel
theorem dX3_corner_25 : decode cX3_corner 25 = .ok (.iload_n 2, 1) := by decide +kernel
theorem dX3_corner_26 : decode cX3_corner 26 = .ok (.bipush 6, 2) := by decide +kernel
theorem dX3_corner_28 : decode cX3_corner 28 = .ok (.if_icmp .ge 18, 3) := by decide +kernel
theorem dX3_corner_31 : decode cX3_corner 31 = .ok (.aload_n 0, 1) := by decide +kernel
theorem dX3_corner_32 : decode cX3_corner 32 = .ok (.getfield 18, 3) := by decide +kernel
theorem dX3_corner_35 : decode cX3_corner 35 = .ok (.iload_n 1, 1) := by decide +kernel
theorem dX3_corner_36 : decode cX3_corner 36 = .ok (.aaload, 1) := by decide +kernel
theorem dX3_corner_37 : decode cX3_corner 37 = .ok (.getfield 171, 3) := by decide +kernel
theorem dX3_corner_40 : decode cX3_corner 40 = .ok (.getfield 192, 3) := by decide +kernel
theorem dX3_corner_43 : decode cX3_corner 43 = .ok (.iload_n 2, 1) := by decide +kernel
theorem dX3_corner_44 : decode cX3_corner 44 = .ok (.faload, 1) := by decide +kernel
theorem dX3_corner_45 : decode cX3_corner 45 = .ok (.freturn, 1) := by decide +kernel
theorem dX3_corner_46 : decode cX3_corner 46 = .ok (.aload_n 0, 1) := by decide +kernel
theorem dX3_corner_47 : decode cX3_corner 47 = .ok (.getfield 18, 3) := by decide +kernel
theorem dX3_corner_50 : decode cX3_corner 50 = .ok (.iload_n 1, 1) := by decide +kernel
theorem dX3_corner_51 : decode cX3_corner 51 = .ok (.aaload, 1) := by decide +kernel
theorem dX3_corner_52 : decode cX3_corner 52 = .ok (.getfield 195, 3) := by decide +kernel
theorem dX3_corner_55 : decode cX3_corner 55 = .ok (.getfield 192, 3) := by decide +kernel
theorem dX3_corner_58 : decode cX3_corner 58 = .ok (.iload_n 2, 1) := by decide +kernel
theorem dX3_corner_59 : decode cX3_corner 59 = .ok (.bipush 6, 2) := by decide +kernel
theorem dX3_corner_61 : decode cX3_corner 61 = .ok (.isub, 1) := by decide +kernel
theorem dX3_corner_62 : decode cX3_corner 62 = .ok (.faload, 1) := by decide +kernel
theorem dX3_corner_63 : decode cX3_corner 63 = .ok (.freturn, 1) := by decide +kernel
theorem dX3_about_0 : decode cX3_about 0 = .ok (.aload_n 0, 1) := by decide +kernel
theorem dX3_about_1 : decode cX3_about 1 = .ok (.iload_n 1, 1) := by decide +kernel
theorem dX3_about_2 : decode cX3_about 2 = .ok (.invokevirtual 85, 3) := by decide +kernel
theorem dX3_about_5 : decode cX3_about 5 = .ok (.iload_n 2, 1) := by decide +kernel
theorem dX3_about_6 : decode cX3_about 6 = .ok (.tableswitch 74 0 3 #[30, 40, 50, 56], 30) := by decide +kernel
theorem dX3_about_36 : decode cX3_about 36 = .ok (.aload_n 0, 1) := by decide +kernel
theorem dX3_about_37 : decode cX3_about 37 = .ok (.getfield 18, 3) := by decide +kernel
theorem dX3_about_40 : decode cX3_about 40 = .ok (.iload_n 1, 1) := by decide +kernel
theorem dX3_about_41 : decode cX3_about 41 = .ok (.aaload, 1) := by decide +kernel
theorem dX3_about_42 : decode cX3_about 42 = .ok (.getfield 168, 3) := by decide +kernel
theorem dX3_about_45 : decode cX3_about 45 = .ok (.ireturn, 1) := by decide +kernel
theorem dX3_about_46 : decode cX3_about 46 = .ok (.aload_n 0, 1) := by decide +kernel
theorem dX3_about_47 : decode cX3_about 47 = .ok (.getfield 18, 3) := by decide +kernel
theorem dX3_about_50 : decode cX3_about 50 = .ok (.iload_n 1, 1) := by decide +kernel
theorem dX3_about_51 : decode cX3_about 51 = .ok (.aaload, 1) := by decide +kernel
theorem dX3_about_52 : decode cX3_about 52 = .ok (.getfield 198, 3) := by decide +kernel
theorem dX3_about_55 : decode cX3_about 55 = .ok (.ireturn, 1) := by decide +kernel
theorem dX3_about_56 : decode cX3_about 56 = .ok (.aload_n 0, 1) := by decide +kernel
theorem dX3_about_57 : decode cX3_about 57 = .ok (.iload_n 1, 1) := by decide +kernel
theorem dX3_about_58 : decode cX3_about 58 = .ok (.invokevirtual 201, 3) := by decide +kernel
theorem dX3_about_61 : decode cX3_about 61 = .ok (.ireturn, 1) := by decide +kernel
theorem dX3_about_62 : decode cX3_about 62 = .ok (.aload_n 0, 1) := by decide +kernel
theorem dX3_about_63 : decode cX3_about 63 = .ok (.getfield 18, 3) := by decide +kernel
theorem dX3_about_66 : decode cX3_about 66 = .ok (.iload_n 1, 1) := by decide +kernel
theorem dX3_about_67 : decode cX3_about 67 = .ok (.aaload, 1) := by decide +kernel
theorem dX3_about_68 : decode cX3_about 68 = .ok (.getfield 136, 3) := by decide +kernel
theorem dX3_about_71 : decode cX3_about 71 = .ok (.ifCond .eq 7, 3) := by decide +kernel
theorem dX3_about_74 : decode cX3_about 74 = .ok (.iconst 1, 1) := by decide +kernel
theorem dX3_about_75 : decode cX3_about 75 = .ok (.goto 4, 3) := by decide +kernel
theorem dX3_about_78 : decode cX3_about 78 = .ok (.iconst 0, 1) := by decide +kernel
theorem dX3_about_79 : decode cX3_about 79 = .ok (.ireturn, 1) := by decide +kernel
theorem dX3_about_80 : decode cX3_about 80 = .ok (.new 96, 3) := by decide +kernel
theorem dX3_about_83 : decode cX3_about 83 = .ok (.dup, 1) := by decide +kernel
theorem dX3_about_84 : decode cX3_about 84 = .ok (.ldc 204, 2) := by decide +kernel
theorem dX3_about_86 : decode cX3_about 86 = .ok (.invokespecial 100, 3) := by decide +kernel
theorem dX3_about_89 : decode cX3_about 89 = .ok (.athrow, 1) := by decide +kernel
theorem dX3_count_0 : decode cX3_count 0 = .ok (.iload_n 1, 1) := by decide +kernel
theorem dX3_count_1 : decode cX3_count 1 = .ok (.tableswitch 87 0 6 #[43, 48, 56, 64, 72, 77, 82], 43) := by decide +kernel
theorem dX3_count_44 : decode cX3_count 44 = .ok (.aload_n 0, 1) := by decide +kernel
theorem dX3_count_45 : decode cX3_count 45 = .ok (.getfield 128, 3) := by decide +kernel
theorem dX3_count_48 : decode cX3_count 48 = .ok (.ireturn, 1) := by decide +kernel
theorem dX3_count_49 : decode cX3_count 49 = .ok (.aload_n 0, 1) := by decide +kernel
theorem dX3_count_50 : decode cX3_count 50 = .ok (.getfield 26, 3) := by decide +kernel
theorem dX3_count_53 : decode cX3_count 53 = .ok (.getfield 142, 3) := by decide +kernel
theorem dX3_count_56 : decode cX3_count 56 = .ok (.ireturn, 1) := by decide +kernel
theorem dX3_count_57 : decode cX3_count 57 = .ok (.aload_n 0, 1) := by decide +kernel
theorem dX3_count_58 : decode cX3_count 58 = .ok (.getfield 33, 3) := by decide +kernel
theorem dX3_count_61 : decode cX3_count 61 = .ok (.getfield 142, 3) := by decide +kernel
theorem dX3_count_64 : decode cX3_count 64 = .ok (.ireturn, 1) := by decide +kernel
theorem dX3_count_65 : decode cX3_count 65 = .ok (.aload_n 0, 1) := by decide +kernel
theorem dX3_count_66 : decode cX3_count 66 = .ok (.getfield 36, 3) := by decide +kernel
theorem dX3_count_69 : decode cX3_count 69 = .ok (.getfield 142, 3) := by decide +kernel
theorem dX3_count_72 : decode cX3_count 72 = .ok (.ireturn, 1) := by decide +kernel
theorem dX3_count_73 : decode cX3_count 73 = .ok (.aload_n 0, 1) := by decide +kernel
theorem dX3_count_74 : decode cX3_count 74 = .ok (.getfield 154, 3) := by decide +kernel
theorem dX3_count_77 : decode cX3_count 77 = .ok (.ireturn, 1) := by decide +kernel
theorem dX3_count_78 : decode cX3_count 78 = .ok (.aload_n 0, 1) := by decide +kernel
theorem dX3_count_79 : decode cX3_count 79 = .ok (.invokevirtual 206, 3) := by decide +kernel
theorem dX3_count_82 : decode cX3_count 82 = .ok (.ireturn, 1) := by decide +kernel
theorem dX3_count_83 : decode cX3_count 83 = .ok (.aload_n 0, 1) := by decide +kernel
theorem dX3_count_84 : decode cX3_count 84 = .ok (.getfield 165, 3) := by decide +kernel
theorem dX3_count_87 : decode cX3_count 87 = .ok (.ireturn, 1) := by decide +kernel
theorem dX3_count_88 : decode cX3_count 88 = .ok (.new 96, 3) := by decide +kernel
theorem dX3_count_91 : decode cX3_count 91 = .ok (.dup, 1) := by decide +kernel
theorem dX3_count_92 : decode cX3_count 92 = .ok (.ldc 210, 2) := by decide +kernel
theorem dX3_count_94 : decode cX3_count 94 = .ok (.invokespecial 100, 3) := by decide +kernel
theorem dX3_count_97 : decode cX3_count 97 = .ok (.athrow, 1) := by decide +kernel
theorem dX3_requireGood_0 : decode cX3_requireGood 0 = .ok (.fload_n 0, 1) := by decide +kernel
theorem dX3_requireGood_1 : decode cX3_requireGood 1 = .ok (.sipush 16384, 3) := by decide +kernel
theorem dX3_requireGood_4 : decode cX3_requireGood 4 = .ok (.invokestatic 212, 3) := by decide +kernel
theorem dX3_requireGood_7 : decode cX3_requireGood 7 = .ok (.ifCond .eq 23, 3) := by decide +kernel
theorem dX3_requireGood_10 : decode cX3_requireGood 10 = .ok (.fload_n 1, 1) := by decide +kernel
theorem dX3_requireGood_11 : decode cX3_requireGood 11 = .ok (.sipush 16384, 3) := by decide +kernel
theorem dX3_requireGood_14 : decode cX3_requireGood 14 = .ok (.invokestatic 212, 3) := by decide +kernel
theorem dX3_requireGood_17 : decode cX3_requireGood 17 = .ok (.ifCond .eq 13, 3) := by decide +kernel
theorem dX3_requireGood_20 : decode cX3_requireGood 20 = .ok (.fload_n 2, 1) := by decide +kernel
theorem dX3_requireGood_21 : decode cX3_requireGood 21 = .ok (.sipush 16384, 3) := by decide +kernel
theorem dX3_requireGood_24 : decode cX3_requireGood 24 = .ok (.invokestatic 212, 3) := by decide +kernel
theorem dX3_requireGood_27 : decode cX3_requireGood 27 = .ok (.ifCond .ne 13, 3) := by decide +kernel
theorem dX3_requireGood_30 : decode cX3_requireGood 30 = .ok (.new 69, 3) := by decide +kernel
theorem dX3_requireGood_33 : decode cX3_requireGood 33 = .ok (.dup, 1) := by decide +kernel
theorem dX3_requireGood_34 : decode cX3_requireGood 34 = .ok (.ldc 216, 2) := by decide +kernel
theorem dX3_requireGood_36 : decode cX3_requireGood 36 = .ok (.invokespecial 73, 3) := by decide +kernel
theorem dX3_requireGood_39 : decode cX3_requireGood 39 = .ok (.athrow, 1) := by decide +kernel
theorem dX3_requireGood_40 : decode cX3_requireGood 40 = .ok (.return_, 1) := by decide +kernel
theorem dX3_requireMovement_0 : decode cX3_requireMovement 0 = .ok (.fload_n 0, 1) := by decide +kernel
theorem dX3_requireMovement_1 : decode cX3_requireMovement 1 = .ok (.sipush 256, 3) := by decide +kernel
theorem dX3_requireMovement_4 : decode cX3_requireMovement 4 = .ok (.invokestatic 212, 3) := by decide +kernel
theorem dX3_requireMovement_7 : decode cX3_requireMovement 7 = .ok (.ifCond .eq 23, 3) := by decide +kernel
theorem dX3_requireMovement_10 : decode cX3_requireMovement 10 = .ok (.fload_n 1, 1) := by decide +kernel
theorem dX3_requireMovement_11 : decode cX3_requireMovement 11 = .ok (.sipush 256, 3) := by decide +kernel
theorem dX3_requireMovement_14 : decode cX3_requireMovement 14 = .ok (.invokestatic 212, 3) := by decide +kernel
theorem dX3_requireMovement_17 : decode cX3_requireMovement 17 = .ok (.ifCond .eq 13, 3) := by decide +kernel
theorem dX3_requireMovement_20 : decode cX3_requireMovement 20 = .ok (.fload_n 2, 1) := by decide +kernel
theorem dX3_requireMovement_21 : decode cX3_requireMovement 21 = .ok (.sipush 256, 3) := by decide +kernel
theorem dX3_requireMovement_24 : decode cX3_requireMovement 24 = .ok (.invokestatic 212, 3) := by decide +kernel
theorem dX3_requireMovement_27 : decode cX3_requireMovement 27 = .ok (.ifCond .ne 13, 3) := by decide +kernel
theorem dX3_requireMovement_30 : decode cX3_requireMovement 30 = .ok (.new 69, 3) := by decide +kernel
theorem dX3_requireMovement_33 : decode cX3_requireMovement 33 = .ok (.dup, 1) := by decide +kernel
theorem dX3_requireMovement_34 : decode cX3_requireMovement 34 = .ok (.ldc 218, 2) := by decide +kernel
theorem dX3_requireMovement_36 : decode cX3_requireMovement 36 = .ok (.invokespecial 73, 3) := by decide +kernel
theorem dX3_requireMovement_39 : decode cX3_requireMovement 39 = .ok (.athrow, 1) := by decide +kernel
theorem dX3_requireMovement_40 : decode cX3_requireMovement 40 = .ok (.return_, 1) := by decide +kernel
theorem dX3_requirePadIsBox_0 : decode cX3_requirePadIsBox 0 = .ok (.aload_n 0, 1) := by decide +kernel
theorem dX3_requirePadIsBox_1 : decode cX3_requirePadIsBox 1 = .ok (.getfield 10, 3) := by decide +kernel
theorem dX3_requirePadIsBox_4 : decode cX3_requirePadIsBox 4 = .ok (.invokevirtual 220, 3) := by decide +kernel
theorem dX3_requirePadIsBox_7 : decode cX3_requirePadIsBox 7 = .ok (.ifCond .ne 13, 3) := by decide +kernel
theorem dX3_requirePadIsBox_10 : decode cX3_requirePadIsBox 10 = .ok (.new 69, 3) := by decide +kernel
theorem dX3_requirePadIsBox_13 : decode cX3_requirePadIsBox 13 = .ok (.dup, 1) := by decide +kernel
theorem dX3_requirePadIsBox_14 : decode cX3_requirePadIsBox 14 = .ok (.ldc 224, 2) := by decide +kernel
theorem dX3_requirePadIsBox_16 : decode cX3_requirePadIsBox 16 = .ok (.invokespecial 73, 3) := by decide +kernel
theorem dX3_requirePadIsBox_19 : decode cX3_requirePadIsBox 19 = .ok (.athrow, 1) := by decide +kernel
theorem dX3_requirePadIsBox_20 : decode cX3_requirePadIsBox 20 = .ok (.return_, 1) := by decide +kernel
theorem dX3_requireRoomFor_0 : decode cX3_requireRoomFor 0 = .ok (.sipush 512, 3) := by decide +kernel
theorem dX3_requireRoomFor_3 : decode cX3_requireRoomFor 3 = .ok (.aload_n 0, 1) := by decide +kernel
theorem dX3_requireRoomFor_4 : decode cX3_requireRoomFor 4 = .ok (.getfield 128, 3) := by decide +kernel
theorem dX3_requireRoomFor_7 : decode cX3_requireRoomFor 7 = .ok (.isub, 1) := by decide +kernel
theorem dX3_requireRoomFor_8 : decode cX3_requireRoomFor 8 = .ok (.iload_n 1, 1) := by decide +kernel
theorem dX3_requireRoomFor_9 : decode cX3_requireRoomFor 9 = .ok (.if_icmp .ge 13, 3) := by decide +kernel
theorem dX3_requireRoomFor_12 : decode cX3_requireRoomFor 12 = .ok (.new 145, 3) := by decide +kernel
theorem dX3_requireRoomFor_15 : decode cX3_requireRoomFor 15 = .ok (.dup, 1) := by decide +kernel
theorem dX3_requireRoomFor_16 : decode cX3_requireRoomFor 16 = .ok (.ldc 226, 2) := by decide +kernel
theorem dX3_requireRoomFor_18 : decode cX3_requireRoomFor 18 = .ok (.invokespecial 149, 3) := by decide +kernel
theorem dX3_requireRoomFor_21 : decode cX3_requireRoomFor 21 = .ok (.athrow, 1) := by decide +kernel
theorem dX3_requireRoomFor_22 : decode cX3_requireRoomFor 22 = .ok (.return_, 1) := by decide +kernel
theorem dX3_requireThere_0 : decode cX3_requireThere 0 = .ok (.iload_n 1, 1) := by decide +kernel
theorem dX3_requireThere_1 : decode cX3_requireThere 1 = .ok (.invokestatic 92, 3) := by decide +kernel
theorem dX3_requireThere_4 : decode cX3_requireThere 4 = .ok (.ifCond .eq 15, 3) := by decide +kernel
theorem dX3_requireThere_7 : decode cX3_requireThere 7 = .ok (.aload_n 0, 1) := by decide +kernel
theorem dX3_requireThere_8 : decode cX3_requireThere 8 = .ok (.getfield 18, 3) := by decide +kernel
theorem dX3_requireThere_11 : decode cX3_requireThere 11 = .ok (.iload_n 1, 1) := by decide +kernel
theorem dX3_requireThere_12 : decode cX3_requireThere 12 = .ok (.aaload, 1) := by decide +kernel
theorem dX3_requireThere_13 : decode cX3_requireThere 13 = .ok (.getfield 101, 3) := by decide +kernel
theorem dX3_requireThere_16 : decode cX3_requireThere 16 = .ok (.ifCond .ne 13, 3) := by decide +kernel
theorem dX3_requireThere_19 : decode cX3_requireThere 19 = .ok (.new 96, 3) := by decide +kernel
theorem dX3_requireThere_22 : decode cX3_requireThere 22 = .ok (.dup, 1) := by decide +kernel
theorem dX3_requireThere_23 : decode cX3_requireThere 23 = .ok (.ldc 228, 2) := by decide +kernel
theorem dX3_requireThere_25 : decode cX3_requireThere 25 = .ok (.invokespecial 100, 3) := by decide +kernel
theorem dX3_requireThere_28 : decode cX3_requireThere 28 = .ok (.athrow, 1) := by decide +kernel
theorem dX3_requireThere_29 : decode cX3_requireThere 29 = .ok (.return_, 1) := by decide +kernel
theorem dX3_requireFound_0 : decode cX3_requireFound 0 = .ok (.iload_n 1, 1) := by decide +kernel
theorem dX3_requireFound_1 : decode cX3_requireFound 1 = .ok (.ifCond .lt 11, 3) := by decide +kernel
theorem dX3_requireFound_4 : decode cX3_requireFound 4 = .ok (.iload_n 1, 1) := by decide +kernel
theorem dX3_requireFound_5 : decode cX3_requireFound 5 = .ok (.aload_n 0, 1) := by decide +kernel
theorem dX3_requireFound_6 : decode cX3_requireFound 6 = .ok (.getfield 165, 3) := by decide +kernel
theorem dX3_requireFound_9 : decode cX3_requireFound 9 = .ok (.if_icmp .lt 13, 3) := by decide +kernel
theorem dX3_requireFound_12 : decode cX3_requireFound 12 = .ok (.new 96, 3) := by decide +kernel
theorem dX3_requireFound_15 : decode cX3_requireFound 15 = .ok (.dup, 1) := by decide +kernel
theorem dX3_requireFound_16 : decode cX3_requireFound 16 = .ok (.ldc 230, 2) := by decide +kernel
theorem dX3_requireFound_18 : decode cX3_requireFound 18 = .ok (.invokespecial 100, 3) := by decide +kernel
theorem dX3_requireFound_21 : decode cX3_requireFound 21 = .ok (.athrow, 1) := by decide +kernel
theorem dX3_requireFound_22 : decode cX3_requireFound 22 = .ok (.return_, 1) := by decide +kernel
theorem dX3_isWithin_0 : decode cX3_isWithin 0 = .ok (.fload_n 0, 1) := by decide +kernel
theorem dX3_isWithin_1 : decode cX3_isWithin 1 = .ok (.iload_n 1, 1) := by decide +kernel
theorem dX3_isWithin_2 : decode cX3_isWithin 2 = .ok (.ineg, 1) := by decide +kernel
theorem dX3_isWithin_3 : decode cX3_isWithin 3 = .ok (.i2f, 1) := by decide +kernel
theorem dX3_isWithin_4 : decode cX3_isWithin 4 = .ok (.fcmp .l, 1) := by decide +kernel
theorem dX3_isWithin_5 : decode cX3_isWithin 5 = .ok (.ifCond .lt 14, 3) := by decide +kernel
theorem dX3_isWithin_8 : decode cX3_isWithin 8 = .ok (.fload_n 0, 1) := by decide +kernel
theorem dX3_isWithin_9 : decode cX3_isWithin 9 = .ok (.iload_n 1, 1) := by decide +kernel
theorem dX3_isWithin_10 : decode cX3_isWithin 10 = .ok (.i2f, 1) := by decide +kernel
theorem dX3_isWithin_11 : decode cX3_isWithin 11 = .ok (.fcmp .g, 1) := by decide +kernel
theorem dX3_isWithin_12 : decode cX3_isWithin 12 = .ok (.ifCond .gt 7, 3) := by decide +kernel
theorem dX3_isWithin_15 : decode cX3_isWithin 15 = .ok (.iconst 1, 1) := by decide +kernel
theorem dX3_isWithin_16 : decode cX3_isWithin 16 = .ok (.goto 4, 3) := by decide +kernel
theorem dX3_isWithin_19 : decode cX3_isWithin 19 = .ok (.iconst 0, 1) := by decide +kernel
theorem dX3_isWithin_20 : decode cX3_isWithin 20 = .ok (.ireturn, 1) := by decide +kernel
theorem dX3_isBodyNumber_0 : decode cX3_isBodyNumber 0 = .ok (.iload_n 0, 1) := by decide +kernel
theorem dX3_isBodyNumber_1 : decode cX3_isBodyNumber 1 = .ok (.ifCond .lt 14, 3) := by decide +kernel
theorem dX3_isBodyNumber_4 : decode cX3_isBodyNumber 4 = .ok (.iload_n 0, 1) := by decide +kernel
theorem dX3_isBodyNumber_5 : decode cX3_isBodyNumber 5 = .ok (.sipush 512, 3) := by decide +kernel
theorem dX3_isBodyNumber_8 : decode cX3_isBodyNumber 8 = .ok (.if_icmp .ge 7, 3) := by decide +kernel
theorem dX3_isBodyNumber_11 : decode cX3_isBodyNumber 11 = .ok (.iconst 1, 1) := by decide +kernel
theorem dX3_isBodyNumber_12 : decode cX3_isBodyNumber 12 = .ok (.goto 4, 3) := by decide +kernel
theorem dX3_isBodyNumber_15 : decode cX3_isBodyNumber 15 = .ok (.iconst 0, 1) := by decide +kernel
theorem dX3_isBodyNumber_16 : decode cX3_isBodyNumber 16 = .ok (.ireturn, 1) := by decide +kernel
theorem dX3_rowStaysGood_0 : decode cX3_rowStaysGood 0 = .ok (.aload_n 0, 1) := by decide +kernel
theorem dX3_rowStaysGood_1 : decode cX3_rowStaysGood 1 = .ok (.getfield 47, 3) := by decide +kernel
theorem dX3_rowStaysGood_4 : decode cX3_rowStaysGood 4 = .ok (.aload_n 0, 1) := by decide +kernel
theorem dX3_rowStaysGood_5 : decode cX3_rowStaysGood 5 = .ok (.getfield 10, 3) := by decide +kernel
theorem dX3_rowStaysGood_8 : decode cX3_rowStaysGood 8 = .ok (.invokevirtual 232, 3) := by decide +kernel
theorem dX3_rowStaysGood_11 : decode cX3_rowStaysGood 11 = .ok (.iconst 1, 1) := by decide +kernel
theorem dX3_rowStaysGood_12 : decode cX3_rowStaysGood 12 = .ok (.istore 5, 2) := by decide +kernel
theorem dX3_rowStaysGood_14 : decode cX3_rowStaysGood 14 = .ok (.iload 5, 2) := by decide +kernel
theorem dX3_rowStaysGood_16 : decode cX3_rowStaysGood 16 = .ok (.iload_n 1, 1) := by decide +kernel
theorem dX3_rowStaysGood_17 : decode cX3_rowStaysGood 17 = .ok (.if_icmp .ge 32, 3) := by decide +kernel
theorem dX3_rowStaysGood_20 : decode cX3_rowStaysGood 20 = .ok (.aload_n 0, 1) := by decide +kernel
theorem dX3_rowStaysGood_21 : decode cX3_rowStaysGood 21 = .ok (.getfield 47, 3) := by decide +kernel
theorem dX3_rowStaysGood_24 : decode cX3_rowStaysGood 24 = .ok (.fload_n 2, 1) := by decide +kernel
theorem dX3_rowStaysGood_25 : decode cX3_rowStaysGood 25 = .ok (.fload_n 3, 1) := by decide +kernel
theorem dX3_rowStaysGood_26 : decode cX3_rowStaysGood 26 = .ok (.fload 4, 2) := by decide +kernel
theorem dX3_rowStaysGood_28 : decode cX3_rowStaysGood 28 = .ok (.invokevirtual 235, 3) := by decide +kernel
theorem dX3_rowStaysGood_31 : decode cX3_rowStaysGood 31 = .ok (.aload_n 0, 1) := by decide +kernel
theorem dX3_rowStaysGood_32 : decode cX3_rowStaysGood 32 = .ok (.getfield 47, 3) := by decide +kernel
theorem dX3_rowStaysGood_35 : decode cX3_rowStaysGood 35 = .ok (.invokevirtual 238, 3) := by decide +kernel
theorem dX3_rowStaysGood_38 : decode cX3_rowStaysGood 38 = .ok (.ifCond .ne 5, 3) := by decide +kernel
theorem dX3_rowStaysGood_41 : decode cX3_rowStaysGood 41 = .ok (.iconst 0, 1) := by decide +kernel
theorem dX3_rowStaysGood_42 : decode cX3_rowStaysGood 42 = .ok (.ireturn, 1) := by decide +kernel
theorem dX3_rowStaysGood_43 : decode cX3_rowStaysGood 43 = .ok (.iinc 5 1, 3) := by decide +kernel
theorem dX3_rowStaysGood_46 : decode cX3_rowStaysGood 46 = .ok (.goto (-32), 3) := by decide +kernel
theorem dX3_rowStaysGood_49 : decode cX3_rowStaysGood 49 = .ok (.iconst 1, 1) := by decide +kernel
theorem dX3_rowStaysGood_50 : decode cX3_rowStaysGood 50 = .ok (.ireturn, 1) := by decide +kernel
theorem dX3_addBodies_0 : decode cX3_addBodies 0 = .ok (.aload_n 0, 1) := by decide +kernel
theorem dX3_addBodies_1 : decode cX3_addBodies 1 = .ok (.getfield 47, 3) := by decide +kernel
theorem dX3_addBodies_4 : decode cX3_addBodies 4 = .ok (.aload_n 0, 1) := by decide +kernel
theorem dX3_addBodies_5 : decode cX3_addBodies 5 = .ok (.getfield 10, 3) := by decide +kernel
theorem dX3_addBodies_8 : decode cX3_addBodies 8 = .ok (.invokevirtual 232, 3) := by decide +kernel
theorem dX3_addBodies_11 : decode cX3_addBodies 11 = .ok (.iconst (-1), 1) := by decide +kernel
theorem dX3_addBodies_12 : decode cX3_addBodies 12 = .ok (.istore 7, 2) := by decide +kernel
theorem dX3_addBodies_14 : decode cX3_addBodies 14 = .ok (.iconst 0, 1) := by decide +kernel
theorem dX3_addBodies_15 : decode cX3_addBodies 15 = .ok (.istore 8, 2) := by decide +kernel
theorem dX3_addBodies_17 : decode cX3_addBodies 17 = .ok (.iconst 0, 1) := by decide +kernel
theorem dX3_addBodies_18 : decode cX3_addBodies 18 = .ok (.istore 9, 2) := by decide +kernel
theorem dX3_addBodies_20 : decode cX3_addBodies 20 = .ok (.iload 9, 2) := by decide +kernel
theorem dX3_addBodies_22 : decode cX3_addBodies 22 = .ok (.sipush 512, 3) := by decide +kernel
theorem dX3_addBodies_25 : decode cX3_addBodies 25 = .ok (.if_icmp .ge 69, 3) := by decide +kernel
theorem dX3_addBodies_28 : decode cX3_addBodies 28 = .ok (.iload 8, 2) := by decide +kernel
theorem dX3_addBodies_30 : decode cX3_addBodies 30 = .ok (.iload_n 1, 1) := by decide +kernel
theorem dX3_addBodies_31 : decode cX3_addBodies 31 = .ok (.if_icmp .ge 63, 3) := by decide +kernel
theorem dX3_addBodies_34 : decode cX3_addBodies 34 = .ok (.aload_n 0, 1) := by decide +kernel
theorem dX3_addBodies_35 : decode cX3_addBodies 35 = .ok (.getfield 18, 3) := by decide +kernel
theorem dX3_addBodies_38 : decode cX3_addBodies 38 = .ok (.iload 9, 2) := by decide +kernel
theorem dX3_addBodies_40 : decode cX3_addBodies 40 = .ok (.aaload, 1) := by decide +kernel
theorem dX3_addBodies_41 : decode cX3_addBodies 41 = .ok (.getfield 101, 3) := by decide +kernel
theorem dX3_addBodies_44 : decode cX3_addBodies 44 = .ok (.ifCond .ne 44, 3) := by decide +kernel
theorem dX3_addBodies_47 : decode cX3_addBodies 47 = .ok (.iload 8, 2) := by decide +kernel
theorem dX3_addBodies_49 : decode cX3_addBodies 49 = .ok (.ifCond .le 14, 3) := by decide +kernel
theorem dX3_addBodies_52 : decode cX3_addBodies 52 = .ok (.aload_n 0, 1) := by decide +kernel
theorem dX3_addBodies_53 : decode cX3_addBodies 53 = .ok (.getfield 47, 3) := by decide +kernel
theorem dX3_addBodies_56 : decode cX3_addBodies 56 = .ok (.fload_n 2, 1) := by decide +kernel
theorem dX3_addBodies_57 : decode cX3_addBodies 57 = .ok (.fload_n 3, 1) := by decide +kernel
theorem dX3_addBodies_58 : decode cX3_addBodies 58 = .ok (.fload 4, 2) := by decide +kernel
theorem dX3_addBodies_60 : decode cX3_addBodies 60 = .ok (.invokevirtual 235, 3) := by decide +kernel
theorem dX3_addBodies_63 : decode cX3_addBodies 63 = .ok (.aload_n 0, 1) := by decide +kernel
theorem dX3_addBodies_64 : decode cX3_addBodies 64 = .ok (.getfield 18, 3) := by decide +kernel
theorem dX3_addBodies_67 : decode cX3_addBodies 67 = .ok (.iload 9, 2) := by decide +kernel
theorem dX3_addBodies_69 : decode cX3_addBodies 69 = .ok (.aaload, 1) := by decide +kernel
theorem dX3_addBodies_70 : decode cX3_addBodies 70 = .ok (.aload_n 0, 1) := by decide +kernel
theorem dX3_addBodies_71 : decode cX3_addBodies 71 = .ok (.getfield 47, 3) := by decide +kernel
theorem dX3_addBodies_74 : decode cX3_addBodies 74 = .ok (.iload 5, 2) := by decide +kernel
theorem dX3_addBodies_76 : decode cX3_addBodies 76 = .ok (.iload 6, 2) := by decide +kernel
theorem dX3_addBodies_78 : decode cX3_addBodies 78 = .ok (.invokevirtual 241, 3) := by decide +kernel
theorem dX3_addBodies_81 : decode cX3_addBodies 81 = .ok (.iload 9, 2) := by decide +kernel
theorem dX3_addBodies_83 : decode cX3_addBodies 83 = .ok (.istore 7, 2) := by decide +kernel
theorem dX3_addBodies_85 : decode cX3_addBodies 85 = .ok (.iinc 8 1, 3) := by decide +kernel
theorem dX3_addBodies_88 : decode cX3_addBodies 88 = .ok (.iinc 9 1, 3) := by decide +kernel
theorem dX3_addBodies_91 : decode cX3_addBodies 91 = .ok (.goto (-71), 3) := by decide +kernel
theorem dX3_addBodies_94 : decode cX3_addBodies 94 = .ok (.aload_n 0, 1) := by decide +kernel
theorem dX3_addBodies_95 : decode cX3_addBodies 95 = .ok (.dup, 1) := by decide +kernel
theorem dX3_addBodies_96 : decode cX3_addBodies 96 = .ok (.getfield 128, 3) := by decide +kernel
theorem dX3_addBodies_99 : decode cX3_addBodies 99 = .ok (.iload 8, 2) := by decide +kernel
theorem dX3_addBodies_101 : decode cX3_addBodies 101 = .ok (.iadd, 1) := by decide +kernel
theorem dX3_addBodies_102 : decode cX3_addBodies 102 = .ok (.putfield 128, 3) := by decide +kernel
theorem dX3_addBodies_105 : decode cX3_addBodies 105 = .ok (.iload 7, 2) := by decide +kernel
theorem dX3_addBodies_107 : decode cX3_addBodies 107 = .ok (.ireturn, 1) := by decide +kernel
theorem dX3_shiftBody_0 : decode cX3_shiftBody 0 = .ok (.aload_n 0, 1) := by decide +kernel
theorem dX3_shiftBody_1 : decode cX3_shiftBody 1 = .ok (.getfield 47, 3) := by decide +kernel
theorem dX3_shiftBody_4 : decode cX3_shiftBody 4 = .ok (.aload_n 1, 1) := by decide +kernel
theorem dX3_shiftBody_5 : decode cX3_shiftBody 5 = .ok (.getfield 195, 3) := by decide +kernel
theorem dX3_shiftBody_8 : decode cX3_shiftBody 8 = .ok (.invokevirtual 232, 3) := by decide +kernel
theorem dX3_shiftBody_11 : decode cX3_shiftBody 11 = .ok (.aload_n 0, 1) := by decide +kernel
theorem dX3_shiftBody_12 : decode cX3_shiftBody 12 = .ok (.getfield 47, 3) := by decide +kernel
theorem dX3_shiftBody_15 : decode cX3_shiftBody 15 = .ok (.fload_n 2, 1) := by decide +kernel
theorem dX3_shiftBody_16 : decode cX3_shiftBody 16 = .ok (.fload_n 3, 1) := by decide +kernel
theorem dX3_shiftBody_17 : decode cX3_shiftBody 17 = .ok (.fload 4, 2) := by decide +kernel
theorem dX3_shiftBody_19 : decode cX3_shiftBody 19 = .ok (.invokevirtual 235, 3) := by decide +kernel
theorem dX3_shiftBody_22 : decode cX3_shiftBody 22 = .ok (.aload_n 0, 1) := by decide +kernel
theorem dX3_shiftBody_23 : decode cX3_shiftBody 23 = .ok (.getfield 47, 3) := by decide +kernel
theorem dX3_shiftBody_26 : decode cX3_shiftBody 26 = .ok (.invokevirtual 238, 3) := by decide +kernel
theorem dX3_shiftBody_29 : decode cX3_shiftBody 29 = .ok (.ifCond .eq 22, 3) := by decide +kernel
theorem dX3_shiftBody_32 : decode cX3_shiftBody 32 = .ok (.aload_n 1, 1) := by decide +kernel
theorem dX3_shiftBody_33 : decode cX3_shiftBody 33 = .ok (.aload_n 0, 1) := by decide +kernel
theorem dX3_shiftBody_34 : decode cX3_shiftBody 34 = .ok (.getfield 47, 3) := by decide +kernel
theorem dX3_shiftBody_37 : decode cX3_shiftBody 37 = .ok (.fload_n 2, 1) := by decide +kernel
theorem dX3_shiftBody_38 : decode cX3_shiftBody 38 = .ok (.fload_n 3, 1) := by decide +kernel
theorem dX3_shiftBody_39 : decode cX3_shiftBody 39 = .ok (.fload 4, 2) := by decide +kernel
theorem dX3_shiftBody_41 : decode cX3_shiftBody 41 = .ok (.invokevirtual 88, 3) := by decide +kernel
theorem dX3_shiftBody_44 : decode cX3_shiftBody 44 = .ok (.ifCond .eq 7, 3) := by decide +kernel
theorem dX3_shiftBody_47 : decode cX3_shiftBody 47 = .ok (.iconst 1, 1) := by decide +kernel
theorem dX3_shiftBody_48 : decode cX3_shiftBody 48 = .ok (.goto 4, 3) := by decide +kernel
theorem dX3_shiftBody_51 : decode cX3_shiftBody 51 = .ok (.iconst 0, 1) := by decide +kernel
theorem dX3_shiftBody_52 : decode cX3_shiftBody 52 = .ok (.ireturn, 1) := by decide +kernel
theorem dX3_reviewPairsOf_0 : decode cX3_reviewPairsOf 0 = .ok (.aload_n 0, 1) := by decide +kernel
theorem dX3_reviewPairsOf_1 : decode cX3_reviewPairsOf 1 = .ok (.getfield 18, 3) := by decide +kernel
theorem dX3_reviewPairsOf_4 : decode cX3_reviewPairsOf 4 = .ok (.iload_n 1, 1) := by decide +kernel
theorem dX3_reviewPairsOf_5 : decode cX3_reviewPairsOf 5 = .ok (.aaload, 1) := by decide +kernel
theorem dX3_reviewPairsOf_6 : decode cX3_reviewPairsOf 6 = .ok (.astore_n 2, 1) := by decide +kernel
theorem dX3_reviewPairsOf_7 : decode cX3_reviewPairsOf 7 = .ok (.iconst 0, 1) := by decide +kernel
theorem dX3_reviewPairsOf_8 : decode cX3_reviewPairsOf 8 = .ok (.istore_n 3, 1) := by decide +kernel
theorem dX3_reviewPairsOf_9 : decode cX3_reviewPairsOf 9 = .ok (.iload_n 3, 1) := by decide +kernel
theorem dX3_reviewPairsOf_10 : decode cX3_reviewPairsOf 10 = .ok (.sipush 512, 3) := by decide +kernel
theorem dX3_reviewPairsOf_13 : decode cX3_reviewPairsOf 13 = .ok (.if_icmp .ge 65, 3) := by decide +kernel
theorem dX3_reviewPairsOf_16 : decode cX3_reviewPairsOf 16 = .ok (.iload_n 3, 1) := by decide +kernel
theorem dX3_reviewPairsOf_17 : decode cX3_reviewPairsOf 17 = .ok (.iload_n 1, 1) := by decide +kernel
theorem dX3_reviewPairsOf_18 : decode cX3_reviewPairsOf 18 = .ok (.if_icmp .ge 19, 3) := by decide +kernel
theorem dX3_reviewPairsOf_21 : decode cX3_reviewPairsOf 21 = .ok (.aload_n 0, 1) := by decide +kernel
theorem dX3_reviewPairsOf_22 : decode cX3_reviewPairsOf 22 = .ok (.getfield 18, 3) := by decide +kernel
theorem dX3_reviewPairsOf_25 : decode cX3_reviewPairsOf 25 = .ok (.iload_n 3, 1) := by decide +kernel
theorem dX3_reviewPairsOf_26 : decode cX3_reviewPairsOf 26 = .ok (.aaload, 1) := by decide +kernel
theorem dX3_reviewPairsOf_27 : decode cX3_reviewPairsOf 27 = .ok (.getfield 136, 3) := by decide +kernel
theorem dX3_reviewPairsOf_30 : decode cX3_reviewPairsOf 30 = .ok (.ifCond .eq 7, 3) := by decide +kernel
theorem dX3_reviewPairsOf_33 : decode cX3_reviewPairsOf 33 = .ok (.iconst 1, 1) := by decide +kernel
theorem dX3_reviewPairsOf_34 : decode cX3_reviewPairsOf 34 = .ok (.goto 4, 3) := by decide +kernel
theorem dX3_reviewPairsOf_37 : decode cX3_reviewPairsOf 37 = .ok (.iconst 0, 1) := by decide +kernel
theorem dX3_reviewPairsOf_38 : decode cX3_reviewPairsOf 38 = .ok (.istore 4, 2) := by decide +kernel
theorem dX3_reviewPairsOf_40 : decode cX3_reviewPairsOf 40 = .ok (.iload_n 3, 1) := by decide +kernel
theorem dX3_reviewPairsOf_41 : decode cX3_reviewPairsOf 41 = .ok (.iload_n 1, 1) := by decide +kernel
theorem dX3_reviewPairsOf_42 : decode cX3_reviewPairsOf 42 = .ok (.if_icmp .eq 30, 3) := by decide +kernel
theorem dX3_reviewPairsOf_45 : decode cX3_reviewPairsOf 45 = .ok (.iload 4, 2) := by decide +kernel
theorem dX3_reviewPairsOf_47 : decode cX3_reviewPairsOf 47 = .ok (.ifCond .ne 25, 3) := by decide +kernel
theorem dX3_reviewPairsOf_50 : decode cX3_reviewPairsOf 50 = .ok (.aload_n 0, 1) := by decide +kernel
theorem dX3_reviewPairsOf_51 : decode cX3_reviewPairsOf 51 = .ok (.getfield 30, 3) := by decide +kernel
theorem dX3_reviewPairsOf_54 : decode cX3_reviewPairsOf 54 = .ok (.iload_n 1, 1) := by decide +kernel
theorem dX3_reviewPairsOf_55 : decode cX3_reviewPairsOf 55 = .ok (.iload_n 3, 1) := by decide +kernel
theorem dX3_reviewPairsOf_56 : decode cX3_reviewPairsOf 56 = .ok (.invokestatic 117, 3) := by decide +kernel
theorem dX3_reviewPairsOf_59 : decode cX3_reviewPairsOf 59 = .ok (.aload_n 2, 1) := by decide +kernel
theorem dX3_reviewPairsOf_60 : decode cX3_reviewPairsOf 60 = .ok (.aload_n 0, 1) := by decide +kernel
theorem dX3_reviewPairsOf_61 : decode cX3_reviewPairsOf 61 = .ok (.getfield 18, 3) := by decide +kernel
theorem dX3_reviewPairsOf_64 : decode cX3_reviewPairsOf 64 = .ok (.iload_n 3, 1) := by decide +kernel
theorem dX3_reviewPairsOf_65 : decode cX3_reviewPairsOf 65 = .ok (.aaload, 1) := by decide +kernel
theorem dX3_reviewPairsOf_66 : decode cX3_reviewPairsOf 66 = .ok (.invokevirtual 245, 3) := by decide +kernel
theorem dX3_reviewPairsOf_69 : decode cX3_reviewPairsOf 69 = .ok (.invokevirtual 121, 3) := by decide +kernel
theorem dX3_reviewPairsOf_72 : decode cX3_reviewPairsOf 72 = .ok (.iinc 3 1, 3) := by decide +kernel
theorem dX3_reviewPairsOf_75 : decode cX3_reviewPairsOf 75 = .ok (.goto (-66), 3) := by decide +kernel
theorem dX3_reviewPairsOf_78 : decode cX3_reviewPairsOf 78 = .ok (.return_, 1) := by decide +kernel
theorem dX3_arePair_0 : decode cX3_arePair 0 = .ok (.iload_n 1, 1) := by decide +kernel
theorem dX3_arePair_1 : decode cX3_arePair 1 = .ok (.iload_n 2, 1) := by decide +kernel
theorem dX3_arePair_2 : decode cX3_arePair 2 = .ok (.if_icmp .eq 22, 3) := by decide +kernel
theorem dX3_arePair_5 : decode cX3_arePair 5 = .ok (.aload_n 0, 1) := by decide +kernel
theorem dX3_arePair_6 : decode cX3_arePair 6 = .ok (.getfield 26, 3) := by decide +kernel
theorem dX3_arePair_9 : decode cX3_arePair 9 = .ok (.iload_n 1, 1) := by decide +kernel
theorem dX3_arePair_10 : decode cX3_arePair 10 = .ok (.iload_n 2, 1) := by decide +kernel
theorem dX3_arePair_11 : decode cX3_arePair 11 = .ok (.invokestatic 117, 3) := by decide +kernel
theorem dX3_arePair_14 : decode cX3_arePair 14 = .ok (.invokevirtual 249, 3) := by decide +kernel
theorem dX3_arePair_17 : decode cX3_arePair 17 = .ok (.ifCond .eq 7, 3) := by decide +kernel
theorem dX3_arePair_20 : decode cX3_arePair 20 = .ok (.iconst 1, 1) := by decide +kernel
theorem dX3_arePair_21 : decode cX3_arePair 21 = .ok (.goto 4, 3) := by decide +kernel
theorem dX3_arePair_24 : decode cX3_arePair 24 = .ok (.iconst 0, 1) := by decide +kernel
theorem dX3_arePair_25 : decode cX3_arePair 25 = .ok (.ireturn, 1) := by decide +kernel
theorem dX3_pairCode_0 : decode cX3_pairCode 0 = .ok (.iload_n 0, 1) := by decide +kernel
theorem dX3_pairCode_1 : decode cX3_pairCode 1 = .ok (.iload_n 1, 1) := by decide +kernel
theorem dX3_pairCode_2 : decode cX3_pairCode 2 = .ok (.if_icmp .ge 13, 3) := by decide +kernel
theorem dX3_pairCode_5 : decode cX3_pairCode 5 = .ok (.iload_n 0, 1) := by decide +kernel
theorem dX3_pairCode_6 : decode cX3_pairCode 6 = .ok (.sipush 512, 3) := by decide +kernel
theorem dX3_pairCode_9 : decode cX3_pairCode 9 = .ok (.imul, 1) := by decide +kernel
theorem dX3_pairCode_10 : decode cX3_pairCode 10 = .ok (.iload_n 1, 1) := by decide +kernel
theorem dX3_pairCode_11 : decode cX3_pairCode 11 = .ok (.iadd, 1) := by decide +kernel
theorem dX3_pairCode_12 : decode cX3_pairCode 12 = .ok (.goto 10, 3) := by decide +kernel
theorem dX3_pairCode_15 : decode cX3_pairCode 15 = .ok (.iload_n 1, 1) := by decide +kernel
theorem dX3_pairCode_16 : decode cX3_pairCode 16 = .ok (.sipush 512, 3) := by decide +kernel
theorem dX3_pairCode_19 : decode cX3_pairCode 19 = .ok (.imul, 1) := by decide +kernel
theorem dX3_pairCode_20 : decode cX3_pairCode 20 = .ok (.iload_n 0, 1) := by decide +kernel
theorem dX3_pairCode_21 : decode cX3_pairCode 21 = .ok (.iadd, 1) := by decide +kernel
theorem dX3_pairCode_22 : decode cX3_pairCode 22 = .ok (.ireturn, 1) := by decide +kernel
theorem dX3_pairsOf_0 : decode cX3_pairsOf 0 = .ok (.iconst 0, 1) := by decide +kernel
theorem dX3_pairsOf_1 : decode cX3_pairsOf 1 = .ok (.istore_n 2, 1) := by decide +kernel
theorem dX3_pairsOf_2 : decode cX3_pairsOf 2 = .ok (.iconst 0, 1) := by decide +kernel
theorem dX3_pairsOf_3 : decode cX3_pairsOf 3 = .ok (.istore_n 3, 1) := by decide +kernel
theorem dX3_pairsOf_4 : decode cX3_pairsOf 4 = .ok (.iload_n 3, 1) := by decide +kernel
theorem dX3_pairsOf_5 : decode cX3_pairsOf 5 = .ok (.sipush 512, 3) := by decide +kernel
theorem dX3_pairsOf_8 : decode cX3_pairsOf 8 = .ok (.if_icmp .ge 21, 3) := by decide +kernel
theorem dX3_pairsOf_11 : decode cX3_pairsOf 11 = .ok (.aload_n 0, 1) := by decide +kernel
theorem dX3_pairsOf_12 : decode cX3_pairsOf 12 = .ok (.iload_n 1, 1) := by decide +kernel
theorem dX3_pairsOf_13 : decode cX3_pairsOf 13 = .ok (.iload_n 3, 1) := by decide +kernel
theorem dX3_pairsOf_14 : decode cX3_pairsOf 14 = .ok (.invokevirtual 113, 3) := by decide +kernel
theorem dX3_pairsOf_17 : decode cX3_pairsOf 17 = .ok (.ifCond .eq 6, 3) := by decide +kernel
theorem dX3_pairsOf_20 : decode cX3_pairsOf 20 = .ok (.iinc 2 1, 3) := by decide +kernel
theorem dX3_pairsOf_23 : decode cX3_pairsOf 23 = .ok (.iinc 3 1, 3) := by decide +kernel
theorem dX3_pairsOf_26 : decode cX3_pairsOf 26 = .ok (.goto (-22), 3) := by decide +kernel
theorem dX3_pairsOf_29 : decode cX3_pairsOf 29 = .ok (.iload_n 2, 1) := by decide +kernel
theorem dX3_pairsOf_30 : decode cX3_pairsOf 30 = .ok (.ireturn, 1) := by decide +kernel
theorem dX3_touchedBodies_0 : decode cX3_touchedBodies 0 = .ok (.iconst 0, 1) := by decide +kernel
theorem dX3_touchedBodies_1 : decode cX3_touchedBodies 1 = .ok (.istore_n 1, 1) := by decide +kernel
theorem dX3_touchedBodies_2 : decode cX3_touchedBodies 2 = .ok (.iconst 0, 1) := by decide +kernel
theorem dX3_touchedBodies_3 : decode cX3_touchedBodies 3 = .ok (.istore_n 2, 1) := by decide +kernel
theorem dX3_touchedBodies_4 : decode cX3_touchedBodies 4 = .ok (.iload_n 2, 1) := by decide +kernel
theorem dX3_touchedBodies_5 : decode cX3_touchedBodies 5 = .ok (.sipush 512, 3) := by decide +kernel
theorem dX3_touchedBodies_8 : decode cX3_touchedBodies 8 = .ok (.if_icmp .ge 24, 3) := by decide +kernel
theorem dX3_touchedBodies_11 : decode cX3_touchedBodies 11 = .ok (.aload_n 0, 1) := by decide +kernel
theorem dX3_touchedBodies_12 : decode cX3_touchedBodies 12 = .ok (.getfield 18, 3) := by decide +kernel
theorem dX3_touchedBodies_15 : decode cX3_touchedBodies 15 = .ok (.iload_n 2, 1) := by decide +kernel
theorem dX3_touchedBodies_16 : decode cX3_touchedBodies 16 = .ok (.aaload, 1) := by decide +kernel
theorem dX3_touchedBodies_17 : decode cX3_touchedBodies 17 = .ok (.getfield 136, 3) := by decide +kernel
theorem dX3_touchedBodies_20 : decode cX3_touchedBodies 20 = .ok (.ifCond .eq 6, 3) := by decide +kernel
theorem dX3_touchedBodies_23 : decode cX3_touchedBodies 23 = .ok (.iinc 1 1, 3) := by decide +kernel
theorem dX3_touchedBodies_26 : decode cX3_touchedBodies 26 = .ok (.iinc 2 1, 3) := by decide +kernel
theorem dX3_touchedBodies_29 : decode cX3_touchedBodies 29 = .ok (.goto (-25), 3) := by decide +kernel
theorem dX3_touchedBodies_32 : decode cX3_touchedBodies 32 = .ok (.iload_n 1, 1) := by decide +kernel
theorem dX3_touchedBodies_33 : decode cX3_touchedBodies 33 = .ok (.ireturn, 1) := by decide +kernel
theorem dX3_appendFound_0 : decode cX3_appendFound 0 = .ok (.aload_n 0, 1) := by decide +kernel
theorem dX3_appendFound_1 : decode cX3_appendFound 1 = .ok (.getfield 165, 3) := by decide +kernel
theorem dX3_appendFound_4 : decode cX3_appendFound 4 = .ok (.sipush 512, 3) := by decide +kernel
theorem dX3_appendFound_7 : decode cX3_appendFound 7 = .ok (.if_icmp .ge 33, 3) := by decide +kernel
theorem dX3_appendFound_10 : decode cX3_appendFound 10 = .ok (.aload_n 0, 1) := by decide +kernel
theorem dX3_appendFound_11 : decode cX3_appendFound 11 = .ok (.getfield 39, 3) := by decide +kernel
theorem dX3_appendFound_14 : decode cX3_appendFound 14 = .ok (.aload_n 0, 1) := by decide +kernel
theorem dX3_appendFound_15 : decode cX3_appendFound 15 = .ok (.getfield 165, 3) := by decide +kernel
theorem dX3_appendFound_18 : decode cX3_appendFound 18 = .ok (.iload_n 1, 1) := by decide +kernel
theorem dX3_appendFound_19 : decode cX3_appendFound 19 = .ok (.iastore, 1) := by decide +kernel
theorem dX3_appendFound_20 : decode cX3_appendFound 20 = .ok (.aload_n 0, 1) := by decide +kernel
theorem dX3_appendFound_21 : decode cX3_appendFound 21 = .ok (.getfield 43, 3) := by decide +kernel
theorem dX3_appendFound_24 : decode cX3_appendFound 24 = .ok (.aload_n 0, 1) := by decide +kernel
theorem dX3_appendFound_25 : decode cX3_appendFound 25 = .ok (.getfield 165, 3) := by decide +kernel
theorem dX3_appendFound_28 : decode cX3_appendFound 28 = .ok (.fload_n 2, 1) := by decide +kernel
theorem dX3_appendFound_29 : decode cX3_appendFound 29 = .ok (.fastore, 1) := by decide +kernel
theorem dX3_appendFound_30 : decode cX3_appendFound 30 = .ok (.aload_n 0, 1) := by decide +kernel
theorem dX3_appendFound_31 : decode cX3_appendFound 31 = .ok (.dup, 1) := by decide +kernel
theorem dX3_appendFound_32 : decode cX3_appendFound 32 = .ok (.getfield 165, 3) := by decide +kernel
theorem dX3_appendFound_35 : decode cX3_appendFound 35 = .ok (.iconst 1, 1) := by decide +kernel
theorem dX3_appendFound_36 : decode cX3_appendFound 36 = .ok (.iadd, 1) := by decide +kernel
theorem dX3_appendFound_37 : decode cX3_appendFound 37 = .ok (.putfield 165, 3) := by decide +kernel
theorem dX3_appendFound_40 : decode cX3_appendFound 40 = .ok (.return_, 1) := by decide +kernel
theorem dJ13_bitCount_95d88_0 : decode cJ13_bitCount_95d88 0 = .ok (.lload_n 0, 1) := by decide +kernel
theorem dJ13_bitCount_95d88_1 : decode cJ13_bitCount_95d88 1 = .ok (.lload_n 0, 1) := by decide +kernel
theorem dJ13_bitCount_95d88_2 : decode cJ13_bitCount_95d88 2 = .ok (.iconst 1, 1) := by decide +kernel
theorem dJ13_bitCount_95d88_3 : decode cJ13_bitCount_95d88 3 = .ok (.lushr, 1) := by decide +kernel
theorem dJ13_bitCount_95d88_4 : decode cJ13_bitCount_95d88 4 = .ok (.ldc2_w 314, 3) := by decide +kernel
theorem dJ13_bitCount_95d88_7 : decode cJ13_bitCount_95d88 7 = .ok (.land, 1) := by decide +kernel
theorem dJ13_bitCount_95d88_8 : decode cJ13_bitCount_95d88 8 = .ok (.lsub, 1) := by decide +kernel
theorem dJ13_bitCount_95d88_9 : decode cJ13_bitCount_95d88 9 = .ok (.lstore_n 0, 1) := by decide +kernel
theorem dJ13_bitCount_95d88_10 : decode cJ13_bitCount_95d88 10 = .ok (.lload_n 0, 1) := by decide +kernel
theorem dJ13_bitCount_95d88_11 : decode cJ13_bitCount_95d88 11 = .ok (.ldc2_w 316, 3) := by decide +kernel
theorem dJ13_bitCount_95d88_14 : decode cJ13_bitCount_95d88 14 = .ok (.land, 1) := by decide +kernel
theorem dJ13_bitCount_95d88_15 : decode cJ13_bitCount_95d88 15 = .ok (.lload_n 0, 1) := by decide +kernel
theorem dJ13_bitCount_95d88_16 : decode cJ13_bitCount_95d88 16 = .ok (.iconst 2, 1) := by decide +kernel
theorem dJ13_bitCount_95d88_17 : decode cJ13_bitCount_95d88 17 = .ok (.lushr, 1) := by decide +kernel
theorem dJ13_bitCount_95d88_18 : decode cJ13_bitCount_95d88 18 = .ok (.ldc2_w 316, 3) := by decide +kernel
theorem dJ13_bitCount_95d88_21 : decode cJ13_bitCount_95d88 21 = .ok (.land, 1) := by decide +kernel
theorem dJ13_bitCount_95d88_22 : decode cJ13_bitCount_95d88 22 = .ok (.ladd, 1) := by decide +kernel
theorem dJ13_bitCount_95d88_23 : decode cJ13_bitCount_95d88 23 = .ok (.lstore_n 0, 1) := by decide +kernel
theorem dJ13_bitCount_95d88_24 : decode cJ13_bitCount_95d88 24 = .ok (.lload_n 0, 1) := by decide +kernel
theorem dJ13_bitCount_95d88_25 : decode cJ13_bitCount_95d88 25 = .ok (.lload_n 0, 1) := by decide +kernel
theorem dJ13_bitCount_95d88_26 : decode cJ13_bitCount_95d88 26 = .ok (.iconst 4, 1) := by decide +kernel
theorem dJ13_bitCount_95d88_27 : decode cJ13_bitCount_95d88 27 = .ok (.lushr, 1) := by decide +kernel
theorem dJ13_bitCount_95d88_28 : decode cJ13_bitCount_95d88 28 = .ok (.ladd, 1) := by decide +kernel
theorem dJ13_bitCount_95d88_29 : decode cJ13_bitCount_95d88 29 = .ok (.ldc2_w 318, 3) := by decide +kernel
theorem dJ13_bitCount_95d88_32 : decode cJ13_bitCount_95d88 32 = .ok (.land, 1) := by decide +kernel
theorem dJ13_bitCount_95d88_33 : decode cJ13_bitCount_95d88 33 = .ok (.lstore_n 0, 1) := by decide +kernel
theorem dJ13_bitCount_95d88_34 : decode cJ13_bitCount_95d88 34 = .ok (.lload_n 0, 1) := by decide +kernel
theorem dJ13_bitCount_95d88_35 : decode cJ13_bitCount_95d88 35 = .ok (.lload_n 0, 1) := by decide +kernel
theorem dJ13_bitCount_95d88_36 : decode cJ13_bitCount_95d88 36 = .ok (.bipush 8, 2) := by decide +kernel
theorem dJ13_bitCount_95d88_38 : decode cJ13_bitCount_95d88 38 = .ok (.lushr, 1) := by decide +kernel
theorem dJ13_bitCount_95d88_39 : decode cJ13_bitCount_95d88 39 = .ok (.ladd, 1) := by decide +kernel
theorem dJ13_bitCount_95d88_40 : decode cJ13_bitCount_95d88 40 = .ok (.lstore_n 0, 1) := by decide +kernel
theorem dJ13_bitCount_95d88_41 : decode cJ13_bitCount_95d88 41 = .ok (.lload_n 0, 1) := by decide +kernel
theorem dJ13_bitCount_95d88_42 : decode cJ13_bitCount_95d88 42 = .ok (.lload_n 0, 1) := by decide +kernel
theorem dJ13_bitCount_95d88_43 : decode cJ13_bitCount_95d88 43 = .ok (.bipush 16, 2) := by decide +kernel
theorem dJ13_bitCount_95d88_45 : decode cJ13_bitCount_95d88 45 = .ok (.lushr, 1) := by decide +kernel
theorem dJ13_bitCount_95d88_46 : decode cJ13_bitCount_95d88 46 = .ok (.ladd, 1) := by decide +kernel
theorem dJ13_bitCount_95d88_47 : decode cJ13_bitCount_95d88 47 = .ok (.lstore_n 0, 1) := by decide +kernel
theorem dJ13_bitCount_95d88_48 : decode cJ13_bitCount_95d88 48 = .ok (.lload_n 0, 1) := by decide +kernel
theorem dJ13_bitCount_95d88_49 : decode cJ13_bitCount_95d88 49 = .ok (.lload_n 0, 1) := by decide +kernel
theorem dJ13_bitCount_95d88_50 : decode cJ13_bitCount_95d88 50 = .ok (.bipush 32, 2) := by decide +kernel
theorem dJ13_bitCount_95d88_52 : decode cJ13_bitCount_95d88 52 = .ok (.lushr, 1) := by decide +kernel
theorem dJ13_bitCount_95d88_53 : decode cJ13_bitCount_95d88 53 = .ok (.ladd, 1) := by decide +kernel
theorem dJ13_bitCount_95d88_54 : decode cJ13_bitCount_95d88 54 = .ok (.lstore_n 0, 1) := by decide +kernel
theorem dJ13_bitCount_95d88_55 : decode cJ13_bitCount_95d88 55 = .ok (.lload_n 0, 1) := by decide +kernel
theorem dJ13_bitCount_95d88_56 : decode cJ13_bitCount_95d88 56 = .ok (.l2i, 1) := by decide +kernel
theorem dJ13_bitCount_95d88_57 : decode cJ13_bitCount_95d88 57 = .ok (.bipush 127, 2) := by decide +kernel
theorem dJ13_bitCount_95d88_59 : decode cJ13_bitCount_95d88 59 = .ok (.iand, 1) := by decide +kernel
theorem dJ13_bitCount_95d88_60 : decode cJ13_bitCount_95d88 60 = .ok (.ireturn, 1) := by decide +kernel
