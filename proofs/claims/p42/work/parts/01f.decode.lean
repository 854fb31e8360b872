theorem dX0_init_0 : decode cX0_init 0 = .ok (.aload_n 0, 1) := by decide +kernel
theorem dX0_init_1 : decode cX0_init 1 = .ok (.invokespecial 3, 3) := by decide +kernel
theorem dX0_init_4 : decode cX0_init 4 = .ok (.aload_n 0, 1) := by decide +kernel
theorem dX0_init_5 : decode cX0_init 5 = .ok (.iload_n 1, 1) := by decide +kernel
theorem dX0_init_6 : decode cX0_init 6 = .ok (.putfield 9, 3) := by decide +kernel
theorem dX0_init_9 : decode cX0_init 9 = .ok (.aload_n 0, 1) := by decide +kernel
theorem dX0_init_10 : decode cX0_init 10 = .ok (.iload_n 2, 1) := by decide +kernel
theorem dX0_init_11 : decode cX0_init 11 = .ok (.putfield 15, 3) := by decide +kernel
theorem dX0_init_14 : decode cX0_init 14 = .ok (.aload_n 0, 1) := by decide +kernel
theorem dX0_init_15 : decode cX0_init 15 = .ok (.iload_n 3, 1) := by decide +kernel
theorem dX0_init_16 : decode cX0_init 16 = .ok (.putfield 18, 3) := by decide +kernel
theorem dX0_init_19 : decode cX0_init 19 = .ok (.return_, 1) := by decide +kernel
theorem dX0_sumOfOneCent_0 : decode cX0_sumOfOneCent 0 = .ok (.ldc2_w 21, 3) := by decide +kernel
theorem dX0_sumOfOneCent_3 : decode cX0_sumOfOneCent 3 = .ok (.aload_n 0, 1) := by decide +kernel
theorem dX0_sumOfOneCent_4 : decode cX0_sumOfOneCent 4 = .ok (.getfield 15, 3) := by decide +kernel
theorem dX0_sumOfOneCent_7 : decode cX0_sumOfOneCent 7 = .ok (.invokestatic 23, 3) := by decide +kernel
theorem dX0_sumOfOneCent_10 : decode cX0_sumOfOneCent 10 = .ok (.i2l, 1) := by decide +kernel
theorem dX0_sumOfOneCent_11 : decode cX0_sumOfOneCent 11 = .ok (.lmul, 1) := by decide +kernel
theorem dX0_sumOfOneCent_12 : decode cX0_sumOfOneCent 12 = .ok (.lreturn, 1) := by decide +kernel
theorem dX1_daysOfYear_0 : decode cX1_daysOfYear 0 = .ok (.iload_n 0, 1) := by decide +kernel
theorem dX1_daysOfYear_1 : decode cX1_daysOfYear 1 = .ok (.ifCond .ne 9, 3) := by decide +kernel
theorem dX1_daysOfYear_4 : decode cX1_daysOfYear 4 = .ok (.sipush 365, 3) := by decide +kernel
theorem dX1_daysOfYear_7 : decode cX1_daysOfYear 7 = .ok (.goto 6, 3) := by decide +kernel
theorem dX1_daysOfYear_10 : decode cX1_daysOfYear 10 = .ok (.sipush 360, 3) := by decide +kernel
theorem dX1_daysOfYear_13 : decode cX1_daysOfYear 13 = .ok (.ireturn, 1) := by decide +kernel
theorem dX1_daysBetween_0 : decode cX1_daysBetween 0 = .ok (.iload_n 0, 1) := by decide +kernel
theorem dX1_daysBetween_1 : decode cX1_daysBetween 1 = .ok (.iconst 2, 1) := by decide +kernel
theorem dX1_daysBetween_2 : decode cX1_daysBetween 2 = .ok (.if_icmp .ne 13, 3) := by decide +kernel
theorem dX1_daysBetween_5 : decode cX1_daysBetween 5 = .ok (.iload_n 2, 1) := by decide +kernel
theorem dX1_daysBetween_6 : decode cX1_daysBetween 6 = .ok (.invokestatic 9, 3) := by decide +kernel
theorem dX1_daysBetween_9 : decode cX1_daysBetween 9 = .ok (.iload_n 1, 1) := by decide +kernel
theorem dX1_daysBetween_10 : decode cX1_daysBetween 10 = .ok (.invokestatic 9, 3) := by decide +kernel
theorem dX1_daysBetween_13 : decode cX1_daysBetween 13 = .ok (.isub, 1) := by decide +kernel
theorem dX1_daysBetween_14 : decode cX1_daysBetween 14 = .ok (.ireturn, 1) := by decide +kernel
theorem dX1_daysBetween_15 : decode cX1_daysBetween 15 = .ok (.iload_n 2, 1) := by decide +kernel
theorem dX1_daysBetween_16 : decode cX1_daysBetween 16 = .ok (.iload_n 1, 1) := by decide +kernel
theorem dX1_daysBetween_17 : decode cX1_daysBetween 17 = .ok (.isub, 1) := by decide +kernel
theorem dX1_daysBetween_18 : decode cX1_daysBetween 18 = .ok (.ireturn, 1) := by decide +kernel
theorem dX1_thirtyDayNumber_0 : decode cX1_thirtyDayNumber 0 = .ok (.iload_n 0, 1) := by decide +kernel
theorem dX1_thirtyDayNumber_1 : decode cX1_thirtyDayNumber 1 = .ok (.sipush 365, 3) := by decide +kernel
theorem dX1_thirtyDayNumber_4 : decode cX1_thirtyDayNumber 4 = .ok (.idiv, 1) := by decide +kernel
theorem dX1_thirtyDayNumber_5 : decode cX1_thirtyDayNumber 5 = .ok (.iconst 3, 1) := by decide +kernel
theorem dX1_thirtyDayNumber_6 : decode cX1_thirtyDayNumber 6 = .ok (.invokestatic 13, 3) := by decide +kernel
theorem dX1_thirtyDayNumber_9 : decode cX1_thirtyDayNumber 9 = .ok (.istore_n 1, 1) := by decide +kernel
theorem dX1_thirtyDayNumber_10 : decode cX1_thirtyDayNumber 10 = .ok (.iload_n 0, 1) := by decide +kernel
theorem dX1_thirtyDayNumber_11 : decode cX1_thirtyDayNumber 11 = .ok (.iload_n 1, 1) := by decide +kernel
theorem dX1_thirtyDayNumber_12 : decode cX1_thirtyDayNumber 12 = .ok (.sipush 365, 3) := by decide +kernel
theorem dX1_thirtyDayNumber_15 : decode cX1_thirtyDayNumber 15 = .ok (.imul, 1) := by decide +kernel
theorem dX1_thirtyDayNumber_16 : decode cX1_thirtyDayNumber 16 = .ok (.isub, 1) := by decide +kernel
theorem dX1_thirtyDayNumber_17 : decode cX1_thirtyDayNumber 17 = .ok (.istore_n 2, 1) := by decide +kernel
theorem dX1_thirtyDayNumber_18 : decode cX1_thirtyDayNumber 18 = .ok (.iconst 0, 1) := by decide +kernel
theorem dX1_thirtyDayNumber_19 : decode cX1_thirtyDayNumber 19 = .ok (.istore_n 3, 1) := by decide +kernel
theorem dX1_thirtyDayNumber_20 : decode cX1_thirtyDayNumber 20 = .ok (.iload_n 3, 1) := by decide +kernel
theorem dX1_thirtyDayNumber_21 : decode cX1_thirtyDayNumber 21 = .ok (.getstatic 19, 3) := by decide +kernel
theorem dX1_thirtyDayNumber_24 : decode cX1_thirtyDayNumber 24 = .ok (.arraylength, 1) := by decide +kernel
theorem dX1_thirtyDayNumber_25 : decode cX1_thirtyDayNumber 25 = .ok (.iconst 1, 1) := by decide +kernel
theorem dX1_thirtyDayNumber_26 : decode cX1_thirtyDayNumber 26 = .ok (.isub, 1) := by decide +kernel
theorem dX1_thirtyDayNumber_27 : decode cX1_thirtyDayNumber 27 = .ok (.if_icmp .ge 26, 3) := by decide +kernel
theorem dX1_thirtyDayNumber_30 : decode cX1_thirtyDayNumber 30 = .ok (.iload_n 2, 1) := by decide +kernel
theorem dX1_thirtyDayNumber_31 : decode cX1_thirtyDayNumber 31 = .ok (.iload_n 1, 1) := by decide +kernel
theorem dX1_thirtyDayNumber_32 : decode cX1_thirtyDayNumber 32 = .ok (.iload_n 3, 1) := by decide +kernel
theorem dX1_thirtyDayNumber_33 : decode cX1_thirtyDayNumber 33 = .ok (.invokestatic 23, 3) := by decide +kernel
theorem dX1_thirtyDayNumber_36 : decode cX1_thirtyDayNumber 36 = .ok (.if_icmp .lt 17, 3) := by decide +kernel
theorem dX1_thirtyDayNumber_39 : decode cX1_thirtyDayNumber 39 = .ok (.iload_n 2, 1) := by decide +kernel
theorem dX1_thirtyDayNumber_40 : decode cX1_thirtyDayNumber 40 = .ok (.iload_n 1, 1) := by decide +kernel
theorem dX1_thirtyDayNumber_41 : decode cX1_thirtyDayNumber 41 = .ok (.iload_n 3, 1) := by decide +kernel
theorem dX1_thirtyDayNumber_42 : decode cX1_thirtyDayNumber 42 = .ok (.invokestatic 23, 3) := by decide +kernel
theorem dX1_thirtyDayNumber_45 : decode cX1_thirtyDayNumber 45 = .ok (.isub, 1) := by decide +kernel
theorem dX1_thirtyDayNumber_46 : decode cX1_thirtyDayNumber 46 = .ok (.istore_n 2, 1) := by decide +kernel
theorem dX1_thirtyDayNumber_47 : decode cX1_thirtyDayNumber 47 = .ok (.iinc 3 1, 3) := by decide +kernel
theorem dX1_thirtyDayNumber_50 : decode cX1_thirtyDayNumber 50 = .ok (.goto (-30), 3) := by decide +kernel
theorem dX1_thirtyDayNumber_53 : decode cX1_thirtyDayNumber 53 = .ok (.sipush 360, 3) := by decide +kernel
theorem dX1_thirtyDayNumber_56 : decode cX1_thirtyDayNumber 56 = .ok (.iload_n 1, 1) := by decide +kernel
theorem dX1_thirtyDayNumber_57 : decode cX1_thirtyDayNumber 57 = .ok (.imul, 1) := by decide +kernel
theorem dX1_thirtyDayNumber_58 : decode cX1_thirtyDayNumber 58 = .ok (.bipush 30, 2) := by decide +kernel
theorem dX1_thirtyDayNumber_60 : decode cX1_thirtyDayNumber 60 = .ok (.iload_n 3, 1) := by decide +kernel
theorem dX1_thirtyDayNumber_61 : decode cX1_thirtyDayNumber 61 = .ok (.imul, 1) := by decide +kernel
theorem dX1_thirtyDayNumber_62 : decode cX1_thirtyDayNumber 62 = .ok (.iadd, 1) := by decide +kernel
theorem dX1_thirtyDayNumber_63 : decode cX1_thirtyDayNumber 63 = .ok (.iload_n 2, 1) := by decide +kernel
theorem dX1_thirtyDayNumber_64 : decode cX1_thirtyDayNumber 64 = .ok (.iconst 1, 1) := by decide +kernel
theorem dX1_thirtyDayNumber_65 : decode cX1_thirtyDayNumber 65 = .ok (.iadd, 1) := by decide +kernel
theorem dX1_thirtyDayNumber_66 : decode cX1_thirtyDayNumber 66 = .ok (.bipush 30, 2) := by decide +kernel
theorem dX1_thirtyDayNumber_68 : decode cX1_thirtyDayNumber 68 = .ok (.invokestatic 13, 3) := by decide +kernel
theorem dX1_thirtyDayNumber_71 : decode cX1_thirtyDayNumber 71 = .ok (.iadd, 1) := by decide +kernel
theorem dX1_thirtyDayNumber_72 : decode cX1_thirtyDayNumber 72 = .ok (.ireturn, 1) := by decide +kernel
theorem dX1_monthLength_0 : decode cX1_monthLength 0 = .ok (.iload_n 1, 1) := by decide +kernel
theorem dX1_monthLength_1 : decode cX1_monthLength 1 = .ok (.ifCond .lt 11, 3) := by decide +kernel
theorem dX1_monthLength_4 : decode cX1_monthLength 4 = .ok (.iload_n 1, 1) := by decide +kernel
theorem dX1_monthLength_5 : decode cX1_monthLength 5 = .ok (.getstatic 19, 3) := by decide +kernel
theorem dX1_monthLength_8 : decode cX1_monthLength 8 = .ok (.arraylength, 1) := by decide +kernel
theorem dX1_monthLength_9 : decode cX1_monthLength 9 = .ok (.if_icmp .lt 5, 3) := by decide +kernel
theorem dX1_monthLength_12 : decode cX1_monthLength 12 = .ok (.iconst 0, 1) := by decide +kernel
theorem dX1_monthLength_13 : decode cX1_monthLength 13 = .ok (.ireturn, 1) := by decide +kernel
theorem dX1_monthLength_14 : decode cX1_monthLength 14 = .ok (.iload_n 0, 1) := by decide +kernel
theorem dX1_monthLength_15 : decode cX1_monthLength 15 = .ok (.iconst 3, 1) := by decide +kernel
theorem dX1_monthLength_16 : decode cX1_monthLength 16 = .ok (.if_icmp .ne 12, 3) := by decide +kernel
theorem dX1_monthLength_19 : decode cX1_monthLength 19 = .ok (.iload_n 1, 1) := by decide +kernel
theorem dX1_monthLength_20 : decode cX1_monthLength 20 = .ok (.iconst 1, 1) := by decide +kernel
theorem dX1_monthLength_21 : decode cX1_monthLength 21 = .ok (.if_icmp .ne 7, 3) := by decide +kernel
theorem dX1_monthLength_24 : decode cX1_monthLength 24 = .ok (.iconst 1, 1) := by decide +kernel
theorem dX1_monthLength_25 : decode cX1_monthLength 25 = .ok (.goto 4, 3) := by decide +kernel
theorem dX1_monthLength_28 : decode cX1_monthLength 28 = .ok (.iconst 0, 1) := by decide +kernel
theorem dX1_monthLength_29 : decode cX1_monthLength 29 = .ok (.istore_n 2, 1) := by decide +kernel
theorem dX1_monthLength_30 : decode cX1_monthLength 30 = .ok (.iload_n 2, 1) := by decide +kernel
theorem dX1_monthLength_31 : decode cX1_monthLength 31 = .ok (.ifCond .eq 13, 3) := by decide +kernel
theorem dX1_monthLength_34 : decode cX1_monthLength 34 = .ok (.getstatic 19, 3) := by decide +kernel
theorem dX1_monthLength_37 : decode cX1_monthLength 37 = .ok (.iload_n 1, 1) := by decide +kernel
theorem dX1_monthLength_38 : decode cX1_monthLength 38 = .ok (.iaload, 1) := by decide +kernel
theorem dX1_monthLength_39 : decode cX1_monthLength 39 = .ok (.iconst 1, 1) := by decide +kernel
theorem dX1_monthLength_40 : decode cX1_monthLength 40 = .ok (.iadd, 1) := by decide +kernel
theorem dX1_monthLength_41 : decode cX1_monthLength 41 = .ok (.goto 8, 3) := by decide +kernel
theorem dX1_monthLength_44 : decode cX1_monthLength 44 = .ok (.getstatic 19, 3) := by decide +kernel
theorem dX1_monthLength_47 : decode cX1_monthLength 47 = .ok (.iload_n 1, 1) := by decide +kernel
theorem dX1_monthLength_48 : decode cX1_monthLength 48 = .ok (.iaload, 1) := by decide +kernel
theorem dX1_monthLength_49 : decode cX1_monthLength 49 = .ok (.ireturn, 1) := by decide +kernel
theorem dX2_init_0 : decode cX2_init 0 = .ok (.aload_n 0, 1) := by decide +kernel
theorem dX2_init_1 : decode cX2_init 1 = .ok (.invokespecial 3, 3) := by decide +kernel
theorem dX2_init_4 : decode cX2_init 4 = .ok (.aload_n 0, 1) := by decide +kernel
theorem dX2_init_5 : decode cX2_init 5 = .ok (.aload_n 1, 1) := by decide +kernel
theorem dX2_init_6 : decode cX2_init 6 = .ok (.putfield 9, 3) := by decide +kernel
theorem dX2_init_9 : decode cX2_init 9 = .ok (.aload_n 0, 1) := by decide +kernel
theorem dX2_init_10 : decode cX2_init 10 = .ok (.iload_n 2, 1) := by decide +kernel
theorem dX2_init_11 : decode cX2_init 11 = .ok (.putfield 15, 3) := by decide +kernel
theorem dX2_init_14 : decode cX2_init 14 = .ok (.aload_n 0, 1) := by decide +kernel
theorem dX2_init_15 : decode cX2_init 15 = .ok (.iload_n 3, 1) := by decide +kernel
theorem dX2_init_16 : decode cX2_init 16 = .ok (.putfield 19, 3) := by decide +kernel
theorem dX2_init_19 : decode cX2_init 19 = .ok (.aload_n 0, 1) := by decide +kernel
theorem dX2_init_20 : decode cX2_init 20 = .ok (.iload 4, 2) := by decide +kernel
theorem dX2_init_22 : decode cX2_init 22 = .ok (.putfield 22, 3) := by decide +kernel
theorem dX2_init_25 : decode cX2_init 25 = .ok (.return_, 1) := by decide +kernel
theorem dX2_openAmount_0 : decode cX2_openAmount 0 = .ok (.aload_n 0, 1) := by decide +kernel
theorem dX2_openAmount_1 : decode cX2_openAmount 1 = .ok (.getfield 15, 3) := by decide +kernel
theorem dX2_openAmount_4 : decode cX2_openAmount 4 = .ok (.aload_n 0, 1) := by decide +kernel
theorem dX2_openAmount_5 : decode cX2_openAmount 5 = .ok (.getfield 26, 3) := by decide +kernel
theorem dX2_openAmount_8 : decode cX2_openAmount 8 = .ok (.isub, 1) := by decide +kernel
theorem dX2_openAmount_9 : decode cX2_openAmount 9 = .ok (.aload_n 0, 1) := by decide +kernel
theorem dX2_openAmount_10 : decode cX2_openAmount 10 = .ok (.getfield 29, 3) := by decide +kernel
theorem dX2_openAmount_13 : decode cX2_openAmount 13 = .ok (.isub, 1) := by decide +kernel
theorem dX2_openAmount_14 : decode cX2_openAmount 14 = .ok (.ireturn, 1) := by decide +kernel
theorem dX2_clearAmount_0 : decode cX2_clearAmount 0 = .ok (.aload_n 0, 1) := by decide +kernel
theorem dX2_clearAmount_1 : decode cX2_clearAmount 1 = .ok (.invokevirtual 32, 3) := by decide +kernel
theorem dX2_clearAmount_4 : decode cX2_clearAmount 4 = .ok (.aload_n 0, 1) := by decide +kernel
theorem dX2_clearAmount_5 : decode cX2_clearAmount 5 = .ok (.getfield 36, 3) := by decide +kernel
theorem dX2_clearAmount_8 : decode cX2_clearAmount 8 = .ok (.isub, 1) := by decide +kernel
theorem dX2_clearAmount_9 : decode cX2_clearAmount 9 = .ok (.ireturn, 1) := by decide +kernel
theorem dX2_pay_0 : decode cX2_pay 0 = .ok (.aload_n 0, 1) := by decide +kernel
theorem dX2_pay_1 : decode cX2_pay 1 = .ok (.dup, 1) := by decide +kernel
theorem dX2_pay_2 : decode cX2_pay 2 = .ok (.getfield 29, 3) := by decide +kernel
theorem dX2_pay_5 : decode cX2_pay 5 = .ok (.iload_n 1, 1) := by decide +kernel
theorem dX2_pay_6 : decode cX2_pay 6 = .ok (.iadd, 1) := by decide +kernel
theorem dX2_pay_7 : decode cX2_pay 7 = .ok (.putfield 29, 3) := by decide +kernel
theorem dX2_pay_10 : decode cX2_pay 10 = .ok (.aload_n 0, 1) := by decide +kernel
theorem dX2_pay_11 : decode cX2_pay 11 = .ok (.aload_n 0, 1) := by decide +kernel
theorem dX2_pay_12 : decode cX2_pay 12 = .ok (.getfield 36, 3) := by decide +kernel
theorem dX2_pay_15 : decode cX2_pay 15 = .ok (.aload_n 0, 1) := by decide +kernel
theorem dX2_pay_16 : decode cX2_pay 16 = .ok (.invokevirtual 32, 3) := by decide +kernel
theorem dX2_pay_19 : decode cX2_pay 19 = .ok (.invokestatic 39, 3) := by decide +kernel
theorem dX2_pay_22 : decode cX2_pay 22 = .ok (.putfield 36, 3) := by decide +kernel
theorem dX2_pay_25 : decode cX2_pay 25 = .ok (.aload_n 0, 1) := by decide +kernel
theorem dX2_pay_26 : decode cX2_pay 26 = .ok (.iconst 0, 1) := by decide +kernel
theorem dX2_pay_27 : decode cX2_pay 27 = .ok (.putfield 45, 3) := by decide +kernel
theorem dX2_pay_30 : decode cX2_pay 30 = .ok (.aload_n 0, 1) := by decide +kernel
theorem dX2_pay_31 : decode cX2_pay 31 = .ok (.invokevirtual 48, 3) := by decide +kernel
theorem dX2_pay_34 : decode cX2_pay 34 = .ok (.return_, 1) := by decide +kernel
theorem dX2_unpay_0 : decode cX2_unpay 0 = .ok (.aload_n 0, 1) := by decide +kernel
theorem dX2_unpay_1 : decode cX2_unpay 1 = .ok (.dup, 1) := by decide +kernel
theorem dX2_unpay_2 : decode cX2_unpay 2 = .ok (.getfield 29, 3) := by decide +kernel
theorem dX2_unpay_5 : decode cX2_unpay 5 = .ok (.iload_n 1, 1) := by decide +kernel
theorem dX2_unpay_6 : decode cX2_unpay 6 = .ok (.isub, 1) := by decide +kernel
theorem dX2_unpay_7 : decode cX2_unpay 7 = .ok (.putfield 29, 3) := by decide +kernel
theorem dX2_unpay_10 : decode cX2_unpay 10 = .ok (.return_, 1) := by decide +kernel
theorem dX2_settleWith_0 : decode cX2_settleWith 0 = .ok (.aload_n 0, 1) := by decide +kernel
theorem dX2_settleWith_1 : decode cX2_settleWith 1 = .ok (.dup, 1) := by decide +kernel
theorem dX2_settleWith_2 : decode cX2_settleWith 2 = .ok (.getfield 26, 3) := by decide +kernel
theorem dX2_settleWith_5 : decode cX2_settleWith 5 = .ok (.iload_n 1, 1) := by decide +kernel
theorem dX2_settleWith_6 : decode cX2_settleWith 6 = .ok (.iadd, 1) := by decide +kernel
theorem dX2_settleWith_7 : decode cX2_settleWith 7 = .ok (.putfield 26, 3) := by decide +kernel
theorem dX2_settleWith_10 : decode cX2_settleWith 10 = .ok (.aload_n 0, 1) := by decide +kernel
theorem dX2_settleWith_11 : decode cX2_settleWith 11 = .ok (.iconst 0, 1) := by decide +kernel
theorem dX2_settleWith_12 : decode cX2_settleWith 12 = .ok (.putfield 36, 3) := by decide +kernel
theorem dX2_settleWith_15 : decode cX2_settleWith 15 = .ok (.aload_n 0, 1) := by decide +kernel
theorem dX2_settleWith_16 : decode cX2_settleWith 16 = .ok (.invokevirtual 48, 3) := by decide +kernel
theorem dX2_settleWith_19 : decode cX2_settleWith 19 = .ok (.return_, 1) := by decide +kernel
theorem dX2_forgetRemindersIfPaid_0 : decode cX2_forgetRemindersIfPaid 0 = .ok (.aload_n 0, 1) := by decide +kernel
theorem dX2_forgetRemindersIfPaid_1 : decode cX2_forgetRemindersIfPaid 1 = .ok (.invokevirtual 32, 3) := by decide +kernel
theorem dX2_forgetRemindersIfPaid_4 : decode cX2_forgetRemindersIfPaid 4 = .ok (.ifCond .ne 13, 3) := by decide +kernel
theorem dX2_forgetRemindersIfPaid_7 : decode cX2_forgetRemindersIfPaid 7 = .ok (.aload_n 0, 1) := by decide +kernel
theorem dX2_forgetRemindersIfPaid_8 : decode cX2_forgetRemindersIfPaid 8 = .ok (.iconst 0, 1) := by decide +kernel
theorem dX2_forgetRemindersIfPaid_9 : decode cX2_forgetRemindersIfPaid 9 = .ok (.putfield 51, 3) := by decide +kernel
theorem dX2_forgetRemindersIfPaid_12 : decode cX2_forgetRemindersIfPaid 12 = .ok (.aload_n 0, 1) := by decide +kernel
theorem dX2_forgetRemindersIfPaid_13 : decode cX2_forgetRemindersIfPaid 13 = .ok (.iconst 0, 1) := by decide +kernel
theorem dX2_forgetRemindersIfPaid_14 : decode cX2_forgetRemindersIfPaid 14 = .ok (.putfield 45, 3) := by decide +kernel
theorem dX2_forgetRemindersIfPaid_17 : decode cX2_forgetRemindersIfPaid 17 = .ok (.return_, 1) := by decide +kernel
theorem dX2_accrueOn_0 : decode cX2_accrueOn 0 = .ok (.aload_n 0, 1) := by decide +kernel
theorem dX2_accrueOn_1 : decode cX2_accrueOn 1 = .ok (.getfield 22, 3) := by decide +kernel
theorem dX2_accrueOn_4 : decode cX2_accrueOn 4 = .ok (.ifCond .ne 52, 3) := by decide +kernel
theorem dX2_accrueOn_7 : decode cX2_accrueOn 7 = .ok (.aload_n 0, 1) := by decide +kernel
theorem dX2_accrueOn_8 : decode cX2_accrueOn 8 = .ok (.getfield 19, 3) := by decide +kernel
theorem dX2_accrueOn_11 : decode cX2_accrueOn 11 = .ok (.iload_n 1, 1) := by decide +kernel
theorem dX2_accrueOn_12 : decode cX2_accrueOn 12 = .ok (.if_icmp .gt 44, 3) := by decide +kernel
theorem dX2_accrueOn_15 : decode cX2_accrueOn 15 = .ok (.aload_n 0, 1) := by decide +kernel
theorem dX2_accrueOn_16 : decode cX2_accrueOn 16 = .ok (.getfield 9, 3) := by decide +kernel
theorem dX2_accrueOn_19 : decode cX2_accrueOn 19 = .ok (.getfield 54, 3) := by decide +kernel
theorem dX2_accrueOn_22 : decode cX2_accrueOn 22 = .ok (.iload_n 1, 1) := by decide +kernel
theorem dX2_accrueOn_23 : decode cX2_accrueOn 23 = .ok (.iload_n 1, 1) := by decide +kernel
theorem dX2_accrueOn_24 : decode cX2_accrueOn 24 = .ok (.iconst 1, 1) := by decide +kernel
theorem dX2_accrueOn_25 : decode cX2_accrueOn 25 = .ok (.iadd, 1) := by decide +kernel
theorem dX2_accrueOn_26 : decode cX2_accrueOn 26 = .ok (.invokestatic 59, 3) := by decide +kernel
theorem dX2_accrueOn_29 : decode cX2_accrueOn 29 = .ok (.istore_n 2, 1) := by decide +kernel
theorem dX2_accrueOn_30 : decode cX2_accrueOn 30 = .ok (.aload_n 0, 1) := by decide +kernel
theorem dX2_accrueOn_31 : decode cX2_accrueOn 31 = .ok (.dup, 1) := by decide +kernel
theorem dX2_accrueOn_32 : decode cX2_accrueOn 32 = .ok (.getfield 65, 3) := by decide +kernel
theorem dX2_accrueOn_35 : decode cX2_accrueOn 35 = .ok (.aload_n 0, 1) := by decide +kernel
theorem dX2_accrueOn_36 : decode cX2_accrueOn 36 = .ok (.invokevirtual 69, 3) := by decide +kernel
theorem dX2_accrueOn_39 : decode cX2_accrueOn 39 = .ok (.i2l, 1) := by decide +kernel
theorem dX2_accrueOn_40 : decode cX2_accrueOn 40 = .ok (.aload_n 0, 1) := by decide +kernel
theorem dX2_accrueOn_41 : decode cX2_accrueOn 41 = .ok (.getfield 9, 3) := by decide +kernel
theorem dX2_accrueOn_44 : decode cX2_accrueOn 44 = .ok (.getfield 72, 3) := by decide +kernel
theorem dX2_accrueOn_47 : decode cX2_accrueOn 47 = .ok (.i2l, 1) := by decide +kernel
theorem dX2_accrueOn_48 : decode cX2_accrueOn 48 = .ok (.lmul, 1) := by decide +kernel
theorem dX2_accrueOn_49 : decode cX2_accrueOn 49 = .ok (.iload_n 2, 1) := by decide +kernel
theorem dX2_accrueOn_50 : decode cX2_accrueOn 50 = .ok (.i2l, 1) := by decide +kernel
theorem dX2_accrueOn_51 : decode cX2_accrueOn 51 = .ok (.lmul, 1) := by decide +kernel
theorem dX2_accrueOn_52 : decode cX2_accrueOn 52 = .ok (.ladd, 1) := by decide +kernel
theorem dX2_accrueOn_53 : decode cX2_accrueOn 53 = .ok (.putfield 65, 3) := by decide +kernel
theorem dX2_accrueOn_56 : decode cX2_accrueOn 56 = .ok (.return_, 1) := by decide +kernel
theorem dX2_accruedCents_0 : decode cX2_accruedCents 0 = .ok (.aload_n 0, 1) := by decide +kernel
theorem dX2_accruedCents_1 : decode cX2_accruedCents 1 = .ok (.getfield 9, 3) := by decide +kernel
theorem dX2_accruedCents_4 : decode cX2_accruedCents 4 = .ok (.invokevirtual 75, 3) := by decide +kernel
theorem dX2_accruedCents_7 : decode cX2_accruedCents 7 = .ok (.lstore_n 1, 1) := by decide +kernel
theorem dX2_accruedCents_8 : decode cX2_accruedCents 8 = .ok (.lload_n 1, 1) := by decide +kernel
theorem dX2_accruedCents_9 : decode cX2_accruedCents 9 = .ok (.lconst 0, 1) := by decide +kernel
theorem dX2_accruedCents_10 : decode cX2_accruedCents 10 = .ok (.lcmp, 1) := by decide +kernel
theorem dX2_accruedCents_11 : decode cX2_accruedCents 11 = .ok (.ifCond .le 13, 3) := by decide +kernel
theorem dX2_accruedCents_14 : decode cX2_accruedCents 14 = .ok (.aload_n 0, 1) := by decide +kernel
theorem dX2_accruedCents_15 : decode cX2_accruedCents 15 = .ok (.getfield 65, 3) := by decide +kernel
theorem dX2_accruedCents_18 : decode cX2_accruedCents 18 = .ok (.lload_n 1, 1) := by decide +kernel
theorem dX2_accruedCents_19 : decode cX2_accruedCents 19 = .ok (.ldiv, 1) := by decide +kernel
theorem dX2_accruedCents_20 : decode cX2_accruedCents 20 = .ok (.l2i, 1) := by decide +kernel
theorem dX2_accruedCents_21 : decode cX2_accruedCents 21 = .ok (.goto 4, 3) := by decide +kernel
theorem dX2_accruedCents_24 : decode cX2_accruedCents 24 = .ok (.iconst 0, 1) := by decide +kernel
theorem dX2_accruedCents_25 : decode cX2_accruedCents 25 = .ok (.ireturn, 1) := by decide +kernel
theorem dX2_dropAccruedCents_0 : decode cX2_dropAccruedCents 0 = .ok (.aload_n 0, 1) := by decide +kernel
theorem dX2_dropAccruedCents_1 : decode cX2_dropAccruedCents 1 = .ok (.dup, 1) := by decide +kernel
theorem dX2_dropAccruedCents_2 : decode cX2_dropAccruedCents 2 = .ok (.getfield 65, 3) := by decide +kernel
theorem dX2_dropAccruedCents_5 : decode cX2_dropAccruedCents 5 = .ok (.aload_n 0, 1) := by decide +kernel
theorem dX2_dropAccruedCents_6 : decode cX2_dropAccruedCents 6 = .ok (.invokevirtual 79, 3) := by decide +kernel
theorem dX2_dropAccruedCents_9 : decode cX2_dropAccruedCents 9 = .ok (.i2l, 1) := by decide +kernel
theorem dX2_dropAccruedCents_10 : decode cX2_dropAccruedCents 10 = .ok (.aload_n 0, 1) := by decide +kernel
theorem dX2_dropAccruedCents_11 : decode cX2_dropAccruedCents 11 = .ok (.getfield 9, 3) := by decide +kernel
theorem dX2_dropAccruedCents_14 : decode cX2_dropAccruedCents 14 = .ok (.invokevirtual 75, 3) := by decide +kernel
theorem dX2_dropAccruedCents_17 : decode cX2_dropAccruedCents 17 = .ok (.lmul, 1) := by decide +kernel
theorem dX2_dropAccruedCents_18 : decode cX2_dropAccruedCents 18 = .ok (.lsub, 1) := by decide +kernel
theorem dX2_dropAccruedCents_19 : decode cX2_dropAccruedCents 19 = .ok (.putfield 65, 3) := by decide +kernel
theorem dX2_dropAccruedCents_22 : decode cX2_dropAccruedCents 22 = .ok (.return_, 1) := by decide +kernel
theorem dX2_waitOn_0 : decode cX2_waitOn 0 = .ok (.aload_n 0, 1) := by decide +kernel
theorem dX2_waitOn_1 : decode cX2_waitOn 1 = .ok (.invokevirtual 82, 3) := by decide +kernel
theorem dX2_waitOn_4 : decode cX2_waitOn 4 = .ok (.ifCond .eq 58, 3) := by decide +kernel
theorem dX2_waitOn_7 : decode cX2_waitOn 7 = .ok (.aload_n 0, 1) := by decide +kernel
theorem dX2_waitOn_8 : decode cX2_waitOn 8 = .ok (.getfield 19, 3) := by decide +kernel
theorem dX2_waitOn_11 : decode cX2_waitOn 11 = .ok (.iload_n 1, 1) := by decide +kernel
theorem dX2_waitOn_12 : decode cX2_waitOn 12 = .ok (.if_icmp .gt 50, 3) := by decide +kernel
theorem dX2_waitOn_15 : decode cX2_waitOn 15 = .ok (.aload_n 0, 1) := by decide +kernel
theorem dX2_waitOn_16 : decode cX2_waitOn 16 = .ok (.getfield 9, 3) := by decide +kernel
theorem dX2_waitOn_19 : decode cX2_waitOn 19 = .ok (.getfield 86, 3) := by decide +kernel
theorem dX2_waitOn_22 : decode cX2_waitOn 22 = .ok (.iload_n 1, 1) := by decide +kernel
theorem dX2_waitOn_23 : decode cX2_waitOn 23 = .ok (.if_icmp .gt 39, 3) := by decide +kernel
theorem dX2_waitOn_26 : decode cX2_waitOn 26 = .ok (.aload_n 0, 1) := by decide +kernel
theorem dX2_waitOn_27 : decode cX2_waitOn 27 = .ok (.dup, 1) := by decide +kernel
theorem dX2_waitOn_28 : decode cX2_waitOn 28 = .ok (.getfield 45, 3) := by decide +kernel
theorem dX2_waitOn_31 : decode cX2_waitOn 31 = .ok (.iconst 1, 1) := by decide +kernel
theorem dX2_waitOn_32 : decode cX2_waitOn 32 = .ok (.iadd, 1) := by decide +kernel
theorem dX2_waitOn_33 : decode cX2_waitOn 33 = .ok (.putfield 45, 3) := by decide +kernel
theorem dX2_waitOn_36 : decode cX2_waitOn 36 = .ok (.aload_n 0, 1) := by decide +kernel
theorem dX2_waitOn_37 : decode cX2_waitOn 37 = .ok (.getfield 45, 3) := by decide +kernel
theorem dX2_waitOn_40 : decode cX2_waitOn 40 = .ok (.aload_n 0, 1) := by decide +kernel
theorem dX2_waitOn_41 : decode cX2_waitOn 41 = .ok (.invokevirtual 89, 3) := by decide +kernel
theorem dX2_waitOn_44 : decode cX2_waitOn 44 = .ok (.if_icmp .lt 18, 3) := by decide +kernel
theorem dX2_waitOn_47 : decode cX2_waitOn 47 = .ok (.aload_n 0, 1) := by decide +kernel
theorem dX2_waitOn_48 : decode cX2_waitOn 48 = .ok (.dup, 1) := by decide +kernel
theorem dX2_waitOn_49 : decode cX2_waitOn 49 = .ok (.getfield 51, 3) := by decide +kernel
theorem dX2_waitOn_52 : decode cX2_waitOn 52 = .ok (.iconst 1, 1) := by decide +kernel
theorem dX2_waitOn_53 : decode cX2_waitOn 53 = .ok (.iadd, 1) := by decide +kernel
theorem dX2_waitOn_54 : decode cX2_waitOn 54 = .ok (.putfield 51, 3) := by decide +kernel
theorem dX2_waitOn_57 : decode cX2_waitOn 57 = .ok (.aload_n 0, 1) := by decide +kernel
theorem dX2_waitOn_58 : decode cX2_waitOn 58 = .ok (.iconst 0, 1) := by decide +kernel
theorem dX2_waitOn_59 : decode cX2_waitOn 59 = .ok (.putfield 45, 3) := by decide +kernel
theorem dX2_waitOn_62 : decode cX2_waitOn 62 = .ok (.return_, 1) := by decide +kernel
theorem dX2_daysToNextLevel_0 : decode cX2_daysToNextLevel 0 = .ok (.aload_n 0, 1) := by decide +kernel
theorem dX2_daysToNextLevel_1 : decode cX2_daysToNextLevel 1 = .ok (.invokevirtual 82, 3) := by decide +kernel
theorem dX2_daysToNextLevel_4 : decode cX2_daysToNextLevel 4 = .ok (.ifCond .ne 5, 3) := by decide +kernel
theorem dX2_daysToNextLevel_7 : decode cX2_daysToNextLevel 7 = .ok (.iconst (-1), 1) := by decide +kernel
theorem dX2_daysToNextLevel_8 : decode cX2_daysToNextLevel 8 = .ok (.ireturn, 1) := by decide +kernel
theorem dX2_daysToNextLevel_9 : decode cX2_daysToNextLevel 9 = .ok (.iload_n 1, 1) := by decide +kernel
theorem dX2_daysToNextLevel_10 : decode cX2_daysToNextLevel 10 = .ok (.aload_n 0, 1) := by decide +kernel
theorem dX2_daysToNextLevel_11 : decode cX2_daysToNextLevel 11 = .ok (.getfield 19, 3) := by decide +kernel
theorem dX2_daysToNextLevel_14 : decode cX2_daysToNextLevel 14 = .ok (.aload_n 0, 1) := by decide +kernel
theorem dX2_daysToNextLevel_15 : decode cX2_daysToNextLevel 15 = .ok (.getfield 9, 3) := by decide +kernel
theorem dX2_daysToNextLevel_18 : decode cX2_daysToNextLevel 18 = .ok (.getfield 86, 3) := by decide +kernel
theorem dX2_daysToNextLevel_21 : decode cX2_daysToNextLevel 21 = .ok (.invokestatic 92, 3) := by decide +kernel
theorem dX2_daysToNextLevel_24 : decode cX2_daysToNextLevel 24 = .ok (.invokestatic 92, 3) := by decide +kernel
theorem dX2_daysToNextLevel_27 : decode cX2_daysToNextLevel 27 = .ok (.istore_n 2, 1) := by decide +kernel
theorem dX2_daysToNextLevel_28 : decode cX2_daysToNextLevel 28 = .ok (.iload_n 2, 1) := by decide +kernel
theorem dX2_daysToNextLevel_29 : decode cX2_daysToNextLevel 29 = .ok (.iload_n 1, 1) := by decide +kernel
theorem dX2_daysToNextLevel_30 : decode cX2_daysToNextLevel 30 = .ok (.isub, 1) := by decide +kernel
theorem dX2_daysToNextLevel_31 : decode cX2_daysToNextLevel 31 = .ok (.aload_n 0, 1) := by decide +kernel
theorem dX2_daysToNextLevel_32 : decode cX2_daysToNextLevel 32 = .ok (.invokevirtual 89, 3) := by decide +kernel
theorem dX2_daysToNextLevel_35 : decode cX2_daysToNextLevel 35 = .ok (.iadd, 1) := by decide +kernel
theorem dX2_daysToNextLevel_36 : decode cX2_daysToNextLevel 36 = .ok (.aload_n 0, 1) := by decide +kernel
theorem dX2_daysToNextLevel_37 : decode cX2_daysToNextLevel 37 = .ok (.getfield 45, 3) := by decide +kernel
theorem dX2_daysToNextLevel_40 : decode cX2_daysToNextLevel 40 = .ok (.isub, 1) := by decide +kernel
theorem dX2_daysToNextLevel_41 : decode cX2_daysToNextLevel 41 = .ok (.ireturn, 1) := by decide +kernel
theorem dX2_canBeReminded_0 : decode cX2_canBeReminded 0 = .ok (.aload_n 0, 1) := by decide +kernel
theorem dX2_canBeReminded_1 : decode cX2_canBeReminded 1 = .ok (.getfield 51, 3) := by decide +kernel
theorem dX2_canBeReminded_4 : decode cX2_canBeReminded 4 = .ok (.iconst 4, 1) := by decide +kernel
theorem dX2_canBeReminded_5 : decode cX2_canBeReminded 5 = .ok (.if_icmp .ge 21, 3) := by decide +kernel
theorem dX2_canBeReminded_8 : decode cX2_canBeReminded 8 = .ok (.aload_n 0, 1) := by decide +kernel
theorem dX2_canBeReminded_9 : decode cX2_canBeReminded 9 = .ok (.invokevirtual 32, 3) := by decide +kernel
theorem dX2_canBeReminded_12 : decode cX2_canBeReminded 12 = .ok (.ifCond .le 14, 3) := by decide +kernel
theorem dX2_canBeReminded_15 : decode cX2_canBeReminded 15 = .ok (.aload_n 0, 1) := by decide +kernel
theorem dX2_canBeReminded_16 : decode cX2_canBeReminded 16 = .ok (.getfield 36, 3) := by decide +kernel
theorem dX2_canBeReminded_19 : decode cX2_canBeReminded 19 = .ok (.ifCond .ne 7, 3) := by decide +kernel
theorem dX2_canBeReminded_22 : decode cX2_canBeReminded 22 = .ok (.iconst 1, 1) := by decide +kernel
theorem dX2_canBeReminded_23 : decode cX2_canBeReminded 23 = .ok (.goto 4, 3) := by decide +kernel
theorem dX2_canBeReminded_26 : decode cX2_canBeReminded 26 = .ok (.iconst 0, 1) := by decide +kernel
theorem dX2_canBeReminded_27 : decode cX2_canBeReminded 27 = .ok (.ireturn, 1) := by decide +kernel
theorem dX2_waitOfLevel_0 : decode cX2_waitOfLevel 0 = .ok (.aload_n 0, 1) := by decide +kernel
theorem dX2_waitOfLevel_1 : decode cX2_waitOfLevel 1 = .ok (.getfield 51, 3) := by decide +kernel
theorem dX2_waitOfLevel_4 : decode cX2_waitOfLevel 4 = .ok (.ifCond .ne 6, 3) := by decide +kernel
theorem dX2_waitOfLevel_7 : decode cX2_waitOfLevel 7 = .ok (.bipush 7, 2) := by decide +kernel
theorem dX2_waitOfLevel_9 : decode cX2_waitOfLevel 9 = .ok (.ireturn, 1) := by decide +kernel
theorem dX2_waitOfLevel_10 : decode cX2_waitOfLevel 10 = .ok (.aload_n 0, 1) := by decide +kernel
theorem dX2_waitOfLevel_11 : decode cX2_waitOfLevel 11 = .ok (.getfield 51, 3) := by decide +kernel
theorem dX2_waitOfLevel_14 : decode cX2_waitOfLevel 14 = .ok (.iconst 3, 1) := by decide +kernel
theorem dX2_waitOfLevel_15 : decode cX2_waitOfLevel 15 = .ok (.if_icmp .ge 8, 3) := by decide +kernel
theorem dX2_waitOfLevel_18 : decode cX2_waitOfLevel 18 = .ok (.bipush 14, 2) := by decide +kernel
theorem dX2_waitOfLevel_20 : decode cX2_waitOfLevel 20 = .ok (.goto 5, 3) := by decide +kernel
theorem dX2_waitOfLevel_23 : decode cX2_waitOfLevel 23 = .ok (.bipush 21, 2) := by decide +kernel
theorem dX2_waitOfLevel_25 : decode cX2_waitOfLevel 25 = .ok (.ireturn, 1) := by decide +kernel
theorem dX2_bucketOn_0 : decode cX2_bucketOn 0 = .ok (.iload_n 1, 1) := by decide +kernel
theorem dX2_bucketOn_1 : decode cX2_bucketOn 1 = .ok (.aload_n 0, 1) := by decide +kernel
theorem dX2_bucketOn_2 : decode cX2_bucketOn 2 = .ok (.getfield 19, 3) := by decide +kernel
theorem dX2_bucketOn_5 : decode cX2_bucketOn 5 = .ok (.isub, 1) := by decide +kernel
theorem dX2_bucketOn_6 : decode cX2_bucketOn 6 = .ok (.istore_n 2, 1) := by decide +kernel
theorem dX2_bucketOn_7 : decode cX2_bucketOn 7 = .ok (.iload_n 2, 1) := by decide +kernel
theorem dX2_bucketOn_8 : decode cX2_bucketOn 8 = .ok (.ifCond .gt 5, 3) := by decide +kernel
theorem dX2_bucketOn_11 : decode cX2_bucketOn 11 = .ok (.iconst 0, 1) := by decide +kernel
theorem dX2_bucketOn_12 : decode cX2_bucketOn 12 = .ok (.ireturn, 1) := by decide +kernel
theorem dX2_bucketOn_13 : decode cX2_bucketOn 13 = .ok (.iload_n 2, 1) := by decide +kernel
theorem dX2_bucketOn_14 : decode cX2_bucketOn 14 = .ok (.bipush 30, 2) := by decide +kernel
theorem dX2_bucketOn_16 : decode cX2_bucketOn 16 = .ok (.if_icmp .gt 5, 3) := by decide +kernel
theorem dX2_bucketOn_19 : decode cX2_bucketOn 19 = .ok (.iconst 1, 1) := by decide +kernel
theorem dX2_bucketOn_20 : decode cX2_bucketOn 20 = .ok (.ireturn, 1) := by decide +kernel
theorem dX2_bucketOn_21 : decode cX2_bucketOn 21 = .ok (.iload_n 2, 1) := by decide +kernel
theorem dX2_bucketOn_22 : decode cX2_bucketOn 22 = .ok (.bipush 60, 2) := by decide +kernel
theorem dX2_bucketOn_24 : decode cX2_bucketOn 24 = .ok (.if_icmp .gt 5, 3) := by decide +kernel
theorem dX2_bucketOn_27 : decode cX2_bucketOn 27 = .ok (.iconst 2, 1) := by decide +kernel
theorem dX2_bucketOn_28 : decode cX2_bucketOn 28 = .ok (.ireturn, 1) := by decide +kernel
theorem dX2_bucketOn_29 : decode cX2_bucketOn 29 = .ok (.iload_n 2, 1) := by decide +kernel
theorem dX2_bucketOn_30 : decode cX2_bucketOn 30 = .ok (.bipush 90, 2) := by decide +kernel
theorem dX2_bucketOn_32 : decode cX2_bucketOn 32 = .ok (.if_icmp .gt 7, 3) := by decide +kernel
theorem dX2_bucketOn_35 : decode cX2_bucketOn 35 = .ok (.iconst 3, 1) := by decide +kernel
theorem dX2_bucketOn_36 : decode cX2_bucketOn 36 = .ok (.goto 4, 3) := by decide +kernel
theorem dX2_bucketOn_39 : decode cX2_bucketOn 39 = .ok (.iconst 4, 1) := by decide +kernel
theorem dX2_bucketOn_40 : decode cX2_bucketOn 40 = .ok (.ireturn, 1) := by decide +kernel
theorem dX3_init_0 : decode cX3_init 0 = .ok (.aload_n 0, 1) := by decide +kernel
theorem dX3_init_1 : decode cX3_init 1 = .ok (.invokespecial 1, 3) := by decide +kernel
theorem dX3_init_4 : decode cX3_init 4 = .ok (.aload_n 0, 1) := by decide +kernel
theorem dX3_init_5 : decode cX3_init 5 = .ok (.bipush 64, 2) := by decide +kernel
theorem dX3_init_7 : decode cX3_init 7 = .ok (.newarray .int, 2) := by decide +kernel
theorem dX3_init_9 : decode cX3_init 9 = .ok (.putfield 9, 3) := by decide +kernel
theorem dX3_init_12 : decode cX3_init 12 = .ok (.aload_n 0, 1) := by decide +kernel
theorem dX3_init_13 : decode cX3_init 13 = .ok (.bipush 64, 2) := by decide +kernel
theorem dX3_init_15 : decode cX3_init 15 = .ok (.newarray .int, 2) := by decide +kernel
theorem dX3_init_17 : decode cX3_init 17 = .ok (.putfield 13, 3) := by decide +kernel
theorem dX3_init_20 : decode cX3_init 20 = .ok (.return_, 1) := by decide +kernel
theorem dX3_write_0 : decode cX3_write 0 = .ok (.iload_n 2, 1) := by decide +kernel
theorem dX3_write_1 : decode cX3_write 1 = .ok (.ifCond .eq 13, 3) := by decide +kernel
theorem dX3_write_4 : decode cX3_write 4 = .ok (.aload_n 0, 1) := by decide +kernel
theorem dX3_write_5 : decode cX3_write 5 = .ok (.getfield 16, 3) := by decide +kernel
theorem dX3_write_8 : decode cX3_write 8 = .ok (.sipush 16384, 3) := by decide +kernel
theorem dX3_write_11 : decode cX3_write 11 = .ok (.if_icmp .lt 4, 3) := by decide +kernel
theorem dX3_write_14 : decode cX3_write 14 = .ok (.return_, 1) := by decide +kernel
theorem dX3_write_15 : decode cX3_write 15 = .ok (.aload_n 0, 1) := by decide +kernel
theorem dX3_write_16 : decode cX3_write 16 = .ok (.invokevirtual 20, 3) := by decide +kernel
theorem dX3_write_19 : decode cX3_write 19 = .ok (.ifCond .ne 7, 3) := by decide +kernel
theorem dX3_write_22 : decode cX3_write 22 = .ok (.aload_n 0, 1) := by decide +kernel
theorem dX3_write_23 : decode cX3_write 23 = .ok (.invokevirtual 24, 3) := by decide +kernel
theorem dX3_write_26 : decode cX3_write 26 = .ok (.aload_n 0, 1) := by decide +kernel
theorem dX3_write_27 : decode cX3_write 27 = .ok (.invokevirtual 20, 3) := by decide +kernel
theorem dX3_write_30 : decode cX3_write 30 = .ok (.ifCond .eq 33, 3) := by decide +kernel
theorem dX3_write_33 : decode cX3_write 33 = .ok (.aload_n 0, 1) := by decide +kernel
theorem dX3_write_34 : decode cX3_write 34 = .ok (.getfield 9, 3) := by decide +kernel
theorem dX3_write_37 : decode cX3_write 37 = .ok (.aload_n 0, 1) := by decide +kernel
theorem dX3_write_38 : decode cX3_write 38 = .ok (.getfield 16, 3) := by decide +kernel
theorem dX3_write_41 : decode cX3_write 41 = .ok (.iload_n 1, 1) := by decide +kernel
theorem dX3_write_42 : decode cX3_write 42 = .ok (.iastore, 1) := by decide +kernel
theorem dX3_write_43 : decode cX3_write 43 = .ok (.aload_n 0, 1) := by decide +kernel
theorem dX3_write_44 : decode cX3_write 44 = .ok (.getfield 13, 3) := by decide +kernel
theorem dX3_write_47 : decode cX3_write 47 = .ok (.aload_n 0, 1) := by decide +kernel
theorem dX3_write_48 : decode cX3_write 48 = .ok (.getfield 16, 3) := by decide +kernel
theorem dX3_write_51 : decode cX3_write 51 = .ok (.iload_n 2, 1) := by decide +kernel
theorem dX3_write_52 : decode cX3_write 52 = .ok (.iastore, 1) := by decide +kernel
theorem dX3_write_53 : decode cX3_write 53 = .ok (.aload_n 0, 1) := by decide +kernel
theorem dX3_write_54 : decode cX3_write 54 = .ok (.dup, 1) := by decide +kernel
theorem dX3_write_55 : decode cX3_write 55 = .ok (.getfield 16, 3) := by decide +kernel
theorem dX3_write_58 : decode cX3_write 58 = .ok (.iconst 1, 1) := by decide +kernel
theorem dX3_write_59 : decode cX3_write 59 = .ok (.iadd, 1) := by decide +kernel
theorem dX3_write_60 : decode cX3_write 60 = .ok (.putfield 16, 3) := by decide +kernel
theorem dX3_write_63 : decode cX3_write 63 = .ok (.return_, 1) := by decide +kernel
theorem dX3_hasRoom_0 : decode cX3_hasRoom 0 = .ok (.aload_n 0, 1) := by decide +kernel
theorem dX3_hasRoom_1 : decode cX3_hasRoom 1 = .ok (.getfield 16, 3) := by decide +kernel
theorem dX3_hasRoom_4 : decode cX3_hasRoom 4 = .ok (.ifCond .lt 31, 3) := by decide +kernel
theorem dX3_hasRoom_7 : decode cX3_hasRoom 7 = .ok (.aload_n 0, 1) := by decide +kernel
theorem dX3_hasRoom_8 : decode cX3_hasRoom 8 = .ok (.getfield 16, 3) := by decide +kernel
theorem dX3_hasRoom_11 : decode cX3_hasRoom 11 = .ok (.aload_n 0, 1) := by decide +kernel
theorem dX3_hasRoom_12 : decode cX3_hasRoom 12 = .ok (.getfield 9, 3) := by decide +kernel
theorem dX3_hasRoom_15 : decode cX3_hasRoom 15 = .ok (.arraylength, 1) := by decide +kernel
theorem dX3_hasRoom_16 : decode cX3_hasRoom 16 = .ok (.if_icmp .ge 19, 3) := by decide +kernel
theorem dX3_hasRoom_19 : decode cX3_hasRoom 19 = .ok (.aload_n 0, 1) := by decide +kernel
theorem dX3_hasRoom_20 : decode cX3_hasRoom 20 = .ok (.getfield 16, 3) := by decide +kernel
theorem dX3_hasRoom_23 : decode cX3_hasRoom 23 = .ok (.aload_n 0, 1) := by decide +kernel
theorem dX3_hasRoom_24 : decode cX3_hasRoom 24 = .ok (.getfield 13, 3) := by decide +kernel
theorem dX3_hasRoom_27 : decode cX3_hasRoom 27 = .ok (.arraylength, 1) := by decide +kernel
theorem dX3_hasRoom_28 : decode cX3_hasRoom 28 = .ok (.if_icmp .ge 7, 3) := by decide +kernel
theorem dX3_hasRoom_31 : decode cX3_hasRoom 31 = .ok (.iconst 1, 1) := by decide +kernel
theorem dX3_hasRoom_32 : decode cX3_hasRoom 32 = .ok (.goto 4, 3) := by decide +kernel
theorem dX3_hasRoom_35 : decode cX3_hasRoom 35 = .ok (.iconst 0, 1) := by decide +kernel
theorem dX3_hasRoom_36 : decode cX3_hasRoom 36 = .ok (.ireturn, 1) := by decide +kernel
theorem dX3_doubleRoom_0 : decode cX3_doubleRoom 0 = .ok (.iconst 2, 1) := by decide +kernel
theorem dX3_doubleRoom_1 : decode cX3_doubleRoom 1 = .ok (.aload_n 0, 1) := by decide +kernel
theorem dX3_doubleRoom_2 : decode cX3_doubleRoom 2 = .ok (.getfield 16, 3) := by decide +kernel
theorem dX3_doubleRoom_5 : decode cX3_doubleRoom 5 = .ok (.imul, 1) := by decide +kernel
theorem dX3_doubleRoom_6 : decode cX3_doubleRoom 6 = .ok (.sipush 16384, 3) := by decide +kernel
theorem dX3_doubleRoom_9 : decode cX3_doubleRoom 9 = .ok (.invokestatic 27, 3) := by decide +kernel
theorem dX3_doubleRoom_12 : decode cX3_doubleRoom 12 = .ok (.istore_n 1, 1) := by decide +kernel
theorem dX3_doubleRoom_13 : decode cX3_doubleRoom 13 = .ok (.iload_n 1, 1) := by decide +kernel
theorem dX3_doubleRoom_14 : decode cX3_doubleRoom 14 = .ok (.aload_n 0, 1) := by decide +kernel
theorem dX3_doubleRoom_15 : decode cX3_doubleRoom 15 = .ok (.getfield 16, 3) := by decide +kernel
theorem dX3_doubleRoom_18 : decode cX3_doubleRoom 18 = .ok (.if_icmp .le 27, 3) := by decide +kernel
theorem dX3_doubleRoom_21 : decode cX3_doubleRoom 21 = .ok (.aload_n 0, 1) := by decide +kernel
theorem dX3_doubleRoom_22 : decode cX3_doubleRoom 22 = .ok (.aload_n 0, 1) := by decide +kernel
theorem dX3_doubleRoom_23 : decode cX3_doubleRoom 23 = .ok (.getfield 9, 3) := by decide +kernel
theorem dX3_doubleRoom_26 : decode cX3_doubleRoom 26 = .ok (.iload_n 1, 1) := by decide +kernel
theorem dX3_doubleRoom_27 : decode cX3_doubleRoom 27 = .ok (.invokestatic 33, 3) := by decide +kernel
theorem dX3_doubleRoom_30 : decode cX3_doubleRoom 30 = .ok (.putfield 9, 3) := by decide +kernel
theorem dX3_doubleRoom_33 : decode cX3_doubleRoom 33 = .ok (.aload_n 0, 1) := by decide +kernel
theorem dX3_doubleRoom_34 : decode cX3_doubleRoom 34 = .ok (.aload_n 0, 1) := by decide +kernel
theorem dX3_doubleRoom_35 : decode cX3_doubleRoom 35 = .ok (.getfield 13, 3) := by decide +kernel
theorem dX3_doubleRoom_38 : decode cX3_doubleRoom 38 = .ok (.iload_n 1, 1) := by decide +kernel
theorem dX3_doubleRoom_39 : decode cX3_doubleRoom 39 = .ok (.invokestatic 33, 3) := by decide +kernel
theorem dX3_doubleRoom_42 : decode cX3_doubleRoom 42 = .ok (.putfield 13, 3) := by decide +kernel
theorem dX3_doubleRoom_45 : decode cX3_doubleRoom 45 = .ok (.return_, 1) := by decide +kernel
theorem dX3_sumOf_0 : decode cX3_sumOf 0 = .ok (.iconst 0, 1) := by decide +kernel
theorem dX3_sumOf_1 : decode cX3_sumOf 1 = .ok (.istore_n 2, 1) := by decide +kernel
theorem dX3_sumOf_2 : decode cX3_sumOf 2 = .ok (.iconst 0, 1) := by decide +kernel
theorem dX3_sumOf_3 : decode cX3_sumOf 3 = .ok (.istore_n 3, 1) := by decide +kernel
theorem dX3_sumOf_4 : decode cX3_sumOf 4 = .ok (.iload_n 3, 1) := by decide +kernel
theorem dX3_sumOf_5 : decode cX3_sumOf 5 = .ok (.aload_n 0, 1) := by decide +kernel
theorem dX3_sumOf_6 : decode cX3_sumOf 6 = .ok (.getfield 16, 3) := by decide +kernel
theorem dX3_sumOf_9 : decode cX3_sumOf 9 = .ok (.if_icmp .ge 26, 3) := by decide +kernel
theorem dX3_sumOf_12 : decode cX3_sumOf 12 = .ok (.aload_n 0, 1) := by decide +kernel
theorem dX3_sumOf_13 : decode cX3_sumOf 13 = .ok (.iload_n 3, 1) := by decide +kernel
theorem dX3_sumOf_14 : decode cX3_sumOf 14 = .ok (.invokevirtual 39, 3) := by decide +kernel
theorem dX3_sumOf_17 : decode cX3_sumOf 17 = .ok (.iload_n 1, 1) := by decide +kernel
theorem dX3_sumOf_18 : decode cX3_sumOf 18 = .ok (.if_icmp .ne 11, 3) := by decide +kernel
theorem dX3_sumOf_21 : decode cX3_sumOf 21 = .ok (.iload_n 2, 1) := by decide +kernel
theorem dX3_sumOf_22 : decode cX3_sumOf 22 = .ok (.aload_n 0, 1) := by decide +kernel
theorem dX3_sumOf_23 : decode cX3_sumOf 23 = .ok (.iload_n 3, 1) := by decide +kernel
theorem dX3_sumOf_24 : decode cX3_sumOf 24 = .ok (.invokevirtual 43, 3) := by decide +kernel
theorem dX3_sumOf_27 : decode cX3_sumOf 27 = .ok (.iadd, 1) := by decide +kernel
theorem dX3_sumOf_28 : decode cX3_sumOf 28 = .ok (.istore_n 2, 1) := by decide +kernel
theorem dX3_sumOf_29 : decode cX3_sumOf 29 = .ok (.iinc 3 1, 3) := by decide +kernel
theorem dX3_sumOf_32 : decode cX3_sumOf 32 = .ok (.goto (-28), 3) := by decide +kernel
theorem dX3_sumOf_35 : decode cX3_sumOf 35 = .ok (.iload_n 2, 1) := by decide +kernel
theorem dX3_sumOf_36 : decode cX3_sumOf 36 = .ok (.ireturn, 1) := by decide +kernel
theorem dX3_invoiceIn_0 : decode cX3_invoiceIn 0 = .ok (.iload_n 1, 1) := by decide +kernel
theorem dX3_invoiceIn_1 : decode cX3_invoiceIn 1 = .ok (.ifCond .lt 21, 3) := by decide +kernel
theorem dX3_invoiceIn_4 : decode cX3_invoiceIn 4 = .ok (.iload_n 1, 1) := by decide +kernel
theorem dX3_invoiceIn_5 : decode cX3_invoiceIn 5 = .ok (.aload_n 0, 1) := by decide +kernel
theorem dX3_invoiceIn_6 : decode cX3_invoiceIn 6 = .ok (.getfield 9, 3) := by decide +kernel
theorem dX3_invoiceIn_9 : decode cX3_invoiceIn 9 = .ok (.arraylength, 1) := by decide +kernel
theorem dX3_invoiceIn_10 : decode cX3_invoiceIn 10 = .ok (.if_icmp .ge 12, 3) := by decide +kernel
theorem dX3_invoiceIn_13 : decode cX3_invoiceIn 13 = .ok (.aload_n 0, 1) := by decide +kernel
theorem dX3_invoiceIn_14 : decode cX3_invoiceIn 14 = .ok (.getfield 9, 3) := by decide +kernel
theorem dX3_invoiceIn_17 : decode cX3_invoiceIn 17 = .ok (.iload_n 1, 1) := by decide +kernel
theorem dX3_invoiceIn_18 : decode cX3_invoiceIn 18 = .ok (.iaload, 1) := by decide +kernel
theorem dX3_invoiceIn_19 : decode cX3_invoiceIn 19 = .ok (.goto 4, 3) := by decide +kernel
theorem dX3_invoiceIn_22 : decode cX3_invoiceIn 22 = .ok (.iconst 0, 1) := by decide +kernel
theorem dX3_invoiceIn_23 : decode cX3_invoiceIn 23 = .ok (.ireturn, 1) := by decide +kernel
theorem dX3_amountIn_0 : decode cX3_amountIn 0 = .ok (.iload_n 1, 1) := by decide +kernel
theorem dX3_amountIn_1 : decode cX3_amountIn 1 = .ok (.ifCond .lt 21, 3) := by decide +kernel
theorem dX3_amountIn_4 : decode cX3_amountIn 4 = .ok (.iload_n 1, 1) := by decide +kernel
theorem dX3_amountIn_5 : decode cX3_amountIn 5 = .ok (.aload_n 0, 1) := by decide +kernel
theorem dX3_amountIn_6 : decode cX3_amountIn 6 = .ok (.getfield 13, 3) := by decide +kernel
theorem dX3_amountIn_9 : decode cX3_amountIn 9 = .ok (.arraylength, 1) := by decide +kernel
theorem dX3_amountIn_10 : decode cX3_amountIn 10 = .ok (.if_icmp .ge 12, 3) := by decide +kernel
theorem dX3_amountIn_13 : decode cX3_amountIn 13 = .ok (.aload_n 0, 1) := by decide +kernel
theorem dX3_amountIn_14 : decode cX3_amountIn 14 = .ok (.getfield 13, 3) := by decide +kernel
theorem dX3_amountIn_17 : decode cX3_amountIn 17 = .ok (.iload_n 1, 1) := by decide +kernel
theorem dX3_amountIn_18 : decode cX3_amountIn 18 = .ok (.iaload, 1) := by decide +kernel
theorem dX3_amountIn_19 : decode cX3_amountIn 19 = .ok (.goto 4, 3) := by decide +kernel
theorem dX3_amountIn_22 : decode cX3_amountIn 22 = .ok (.iconst 0, 1) := by decide +kernel
theorem dX3_amountIn_23 : decode cX3_amountIn 23 = .ok (.ireturn, 1) := by decide +kernel
theorem dX4_init_0 : decode cX4_init 0 = .ok (.aload_n 0, 1) := by decide +kernel
theorem dX4_init_1 : decode cX4_init 1 = .ok (.invokespecial 3, 3) := by decide +kernel
theorem dX4_init_4 : decode cX4_init 4 = .ok (.aload_n 0, 1) := by decide +kernel
theorem dX4_init_5 : decode cX4_init 5 = .ok (.bipush 24, 2) := by decide +kernel
theorem dX4_init_7 : decode cX4_init 7 = .ok (.newarray .int, 2) := by decide +kernel
theorem dX4_init_9 : decode cX4_init 9 = .ok (.putfield 9, 3) := by decide +kernel
theorem dX4_init_12 : decode cX4_init 12 = .ok (.aload_n 0, 1) := by decide +kernel
theorem dX4_init_13 : decode cX4_init 13 = .ok (.aload_n 1, 1) := by decide +kernel
theorem dX4_init_14 : decode cX4_init 14 = .ok (.putfield 15, 3) := by decide +kernel
theorem dX4_init_17 : decode cX4_init 17 = .ok (.aload_n 0, 1) := by decide +kernel
theorem dX4_init_18 : decode cX4_init 18 = .ok (.iload_n 2, 1) := by decide +kernel
theorem dX4_init_19 : decode cX4_init 19 = .ok (.putfield 19, 3) := by decide +kernel
theorem dX4_init_22 : decode cX4_init 22 = .ok (.return_, 1) := by decide +kernel
theorem dX4_unspent_0 : decode cX4_unspent 0 = .ok (.aload_n 0, 1) := by decide +kernel
theorem dX4_unspent_1 : decode cX4_unspent 1 = .ok (.getfield 23, 3) := by decide +kernel
theorem dX4_unspent_4 : decode cX4_unspent 4 = .ok (.ifCond .eq 7, 3) := by decide +kernel
theorem dX4_unspent_7 : decode cX4_unspent 7 = .ok (.iconst 0, 1) := by decide +kernel
theorem dX4_unspent_8 : decode cX4_unspent 8 = .ok (.goto 12, 3) := by decide +kernel
theorem dX4_unspent_11 : decode cX4_unspent 11 = .ok (.aload_n 0, 1) := by decide +kernel
theorem dX4_unspent_12 : decode cX4_unspent 12 = .ok (.getfield 19, 3) := by decide +kernel
theorem dX4_unspent_15 : decode cX4_unspent 15 = .ok (.aload_n 0, 1) := by decide +kernel
theorem dX4_unspent_16 : decode cX4_unspent 16 = .ok (.getfield 27, 3) := by decide +kernel
theorem dX4_unspent_19 : decode cX4_unspent 19 = .ok (.isub, 1) := by decide +kernel
theorem dX4_unspent_20 : decode cX4_unspent 20 = .ok (.ireturn, 1) := by decide +kernel
theorem dX4_spentOn_0 : decode cX4_spentOn 0 = .ok (.iload_n 1, 1) := by decide +kernel
theorem dX4_spentOn_1 : decode cX4_spentOn 1 = .ok (.ifCond .lt 12, 3) := by decide +kernel
theorem dX4_spentOn_4 : decode cX4_spentOn 4 = .ok (.iload_n 1, 1) := by decide +kernel
theorem dX4_spentOn_5 : decode cX4_spentOn 5 = .ok (.aload_n 0, 1) := by decide +kernel
theorem dX4_spentOn_6 : decode cX4_spentOn 6 = .ok (.getfield 9, 3) := by decide +kernel
theorem dX4_spentOn_9 : decode cX4_spentOn 9 = .ok (.arraylength, 1) := by decide +kernel
theorem dX4_spentOn_10 : decode cX4_spentOn 10 = .ok (.if_icmp .lt 5, 3) := by decide +kernel
theorem dX4_spentOn_13 : decode cX4_spentOn 13 = .ok (.iconst 0, 1) := by decide +kernel
theorem dX4_spentOn_14 : decode cX4_spentOn 14 = .ok (.ireturn, 1) := by decide +kernel
theorem dX4_spentOn_15 : decode cX4_spentOn 15 = .ok (.aload_n 0, 1) := by decide +kernel
theorem dX4_spentOn_16 : decode cX4_spentOn 16 = .ok (.getfield 9, 3) := by decide +kernel
theorem dX4_spentOn_19 : decode cX4_spentOn 19 = .ok (.iload_n 1, 1) := by decide +kernel
theorem dX4_spentOn_20 : decode cX4_spentOn 20 = .ok (.iaload, 1) := by decide +kernel
theorem dX4_spentOn_21 : decode cX4_spentOn 21 = .ok (.ireturn, 1) := by decide +kernel
theorem dX4_spend_0 : decode cX4_spend 0 = .ok (.iload_n 1, 1) := by decide +kernel
theorem dX4_spend_1 : decode cX4_spend 1 = .ok (.ifCond .lt 32, 3) := by decide +kernel
theorem dX4_spend_4 : decode cX4_spend 4 = .ok (.iload_n 1, 1) := by decide +kernel
theorem dX4_spend_5 : decode cX4_spend 5 = .ok (.aload_n 0, 1) := by decide +kernel
theorem dX4_spend_6 : decode cX4_spend 6 = .ok (.getfield 9, 3) := by decide +kernel
theorem dX4_spend_9 : decode cX4_spend 9 = .ok (.arraylength, 1) := by decide +kernel
theorem dX4_spend_10 : decode cX4_spend 10 = .ok (.if_icmp .ge 23, 3) := by decide +kernel
theorem dX4_spend_13 : decode cX4_spend 13 = .ok (.aload_n 0, 1) := by decide +kernel
theorem dX4_spend_14 : decode cX4_spend 14 = .ok (.getfield 9, 3) := by decide +kernel
theorem dX4_spend_17 : decode cX4_spend 17 = .ok (.iload_n 1, 1) := by decide +kernel
theorem dX4_spend_18 : decode cX4_spend 18 = .ok (.dup2, 1) := by decide +kernel
theorem dX4_spend_19 : decode cX4_spend 19 = .ok (.iaload, 1) := by decide +kernel
theorem dX4_spend_20 : decode cX4_spend 20 = .ok (.iload_n 2, 1) := by decide +kernel
theorem dX4_spend_21 : decode cX4_spend 21 = .ok (.iadd, 1) := by decide +kernel
theorem dX4_spend_22 : decode cX4_spend 22 = .ok (.iastore, 1) := by decide +kernel
theorem dX4_spend_23 : decode cX4_spend 23 = .ok (.aload_n 0, 1) := by decide +kernel
theorem dX4_spend_24 : decode cX4_spend 24 = .ok (.dup, 1) := by decide +kernel
theorem dX4_spend_25 : decode cX4_spend 25 = .ok (.getfield 27, 3) := by decide +kernel
theorem dX4_spend_28 : decode cX4_spend 28 = .ok (.iload_n 2, 1) := by decide +kernel
theorem dX4_spend_29 : decode cX4_spend 29 = .ok (.iadd, 1) := by decide +kernel
theorem dX4_spend_30 : decode cX4_spend 30 = .ok (.putfield 27, 3) := by decide +kernel
theorem dX4_spend_33 : decode cX4_spend 33 = .ok (.return_, 1) := by decide +kernel
theorem dX5_init_0 : decode cX5_init 0 = .ok (.aload_n 0, 1) := by decide +kernel
theorem dX5_init_1 : decode cX5_init 1 = .ok (.invokespecial 3, 3) := by decide +kernel
theorem dX5_init_4 : decode cX5_init 4 = .ok (.aload_n 0, 1) := by decide +kernel
theorem dX5_init_5 : decode cX5_init 5 = .ok (.bipush 24, 2) := by decide +kernel
theorem dX5_init_7 : decode cX5_init 7 = .ok (.newarray .int, 2) := by decide +kernel
theorem dX5_init_9 : decode cX5_init 9 = .ok (.putfield 9, 3) := by decide +kernel
theorem dX5_init_12 : decode cX5_init 12 = .ok (.aload_n 0, 1) := by decide +kernel
theorem dX5_init_13 : decode cX5_init 13 = .ok (.bipush 24, 2) := by decide +kernel
theorem dX5_init_15 : decode cX5_init 15 = .ok (.newarray .int, 2) := by decide +kernel
theorem dX5_init_17 : decode cX5_init 17 = .ok (.putfield 15, 3) := by decide +kernel
theorem dX5_init_20 : decode cX5_init 20 = .ok (.aload_n 0, 1) := by decide +kernel
theorem dX5_init_21 : decode cX5_init 21 = .ok (.bipush 24, 2) := by decide +kernel
theorem dX5_init_23 : decode cX5_init 23 = .ok (.newarray .long, 2) := by decide +kernel
theorem dX5_init_25 : decode cX5_init 25 = .ok (.putfield 18, 3) := by decide +kernel
theorem dX5_init_28 : decode cX5_init 28 = .ok (.return_, 1) := by decide +kernel
theorem dX5_reset_0 : decode cX5_reset 0 = .ok (.aload_n 0, 1) := by decide +kernel
theorem dX5_reset_1 : decode cX5_reset 1 = .ok (.getfield 9, 3) := by decide +kernel
theorem dX5_reset_4 : decode cX5_reset 4 = .ok (.iconst 0, 1) := by decide +kernel
theorem dX5_reset_5 : decode cX5_reset 5 = .ok (.invokestatic 22, 3) := by decide +kernel
theorem dX5_reset_8 : decode cX5_reset 8 = .ok (.aload_n 0, 1) := by decide +kernel
theorem dX5_reset_9 : decode cX5_reset 9 = .ok (.getfield 15, 3) := by decide +kernel
theorem dX5_reset_12 : decode cX5_reset 12 = .ok (.iconst 0, 1) := by decide +kernel
theorem dX5_reset_13 : decode cX5_reset 13 = .ok (.invokestatic 22, 3) := by decide +kernel
theorem dX5_reset_16 : decode cX5_reset 16 = .ok (.return_, 1) := by decide +kernel
theorem dX5_has_0 : decode cX5_has 0 = .ok (.iload_n 1, 1) := by decide +kernel
theorem dX5_has_1 : decode cX5_has 1 = .ok (.ifCond .lt 34, 3) := by decide +kernel
theorem dX5_has_4 : decode cX5_has 4 = .ok (.iload_n 1, 1) := by decide +kernel
theorem dX5_has_5 : decode cX5_has 5 = .ok (.aload_n 0, 1) := by decide +kernel
theorem dX5_has_6 : decode cX5_has 6 = .ok (.getfield 9, 3) := by decide +kernel
theorem dX5_has_9 : decode cX5_has 9 = .ok (.arraylength, 1) := by decide +kernel
theorem dX5_has_10 : decode cX5_has 10 = .ok (.if_icmp .ge 25, 3) := by decide +kernel
theorem dX5_has_13 : decode cX5_has 13 = .ok (.iload_n 1, 1) := by decide +kernel
theorem dX5_has_14 : decode cX5_has 14 = .ok (.aload_n 0, 1) := by decide +kernel
theorem dX5_has_15 : decode cX5_has 15 = .ok (.getfield 15, 3) := by decide +kernel
theorem dX5_has_18 : decode cX5_has 18 = .ok (.arraylength, 1) := by decide +kernel
theorem dX5_has_19 : decode cX5_has 19 = .ok (.if_icmp .ge 16, 3) := by decide +kernel
theorem dX5_has_22 : decode cX5_has 22 = .ok (.iload_n 1, 1) := by decide +kernel
theorem dX5_has_23 : decode cX5_has 23 = .ok (.aload_n 0, 1) := by decide +kernel
theorem dX5_has_24 : decode cX5_has 24 = .ok (.getfield 18, 3) := by decide +kernel
theorem dX5_has_27 : decode cX5_has 27 = .ok (.arraylength, 1) := by decide +kernel
theorem dX5_has_28 : decode cX5_has 28 = .ok (.if_icmp .ge 7, 3) := by decide +kernel
theorem dX5_has_31 : decode cX5_has 31 = .ok (.iconst 1, 1) := by decide +kernel
theorem dX5_has_32 : decode cX5_has 32 = .ok (.goto 4, 3) := by decide +kernel
theorem dX5_has_35 : decode cX5_has 35 = .ok (.iconst 0, 1) := by decide +kernel
theorem dX5_has_36 : decode cX5_has 36 = .ok (.ireturn, 1) := by decide +kernel
theorem dX5_setWeight_0 : decode cX5_setWeight 0 = .ok (.aload_n 0, 1) := by decide +kernel
theorem dX5_setWeight_1 : decode cX5_setWeight 1 = .ok (.iload_n 1, 1) := by decide +kernel
theorem dX5_setWeight_2 : decode cX5_setWeight 2 = .ok (.invokevirtual 28, 3) := by decide +kernel
theorem dX5_setWeight_5 : decode cX5_setWeight 5 = .ok (.ifCond .eq 10, 3) := by decide +kernel
theorem dX5_setWeight_8 : decode cX5_setWeight 8 = .ok (.aload_n 0, 1) := by decide +kernel
theorem dX5_setWeight_9 : decode cX5_setWeight 9 = .ok (.getfield 9, 3) := by decide +kernel
theorem dX5_setWeight_12 : decode cX5_setWeight 12 = .ok (.iload_n 1, 1) := by decide +kernel
theorem dX5_setWeight_13 : decode cX5_setWeight 13 = .ok (.iload_n 2, 1) := by decide +kernel
theorem dX5_setWeight_14 : decode cX5_setWeight 14 = .ok (.iastore, 1) := by decide +kernel
theorem dX5_setWeight_15 : decode cX5_setWeight 15 = .ok (.return_, 1) := by decide +kernel
theorem dX5_partOf_0 : decode cX5_partOf 0 = .ok (.aload_n 0, 1) := by decide +kernel
theorem dX5_partOf_1 : decode cX5_partOf 1 = .ok (.iload_n 1, 1) := by decide +kernel
theorem dX5_partOf_2 : decode cX5_partOf 2 = .ok (.invokevirtual 28, 3) := by decide +kernel
theorem dX5_partOf_5 : decode cX5_partOf 5 = .ok (.ifCond .eq 12, 3) := by decide +kernel
theorem dX5_partOf_8 : decode cX5_partOf 8 = .ok (.aload_n 0, 1) := by decide +kernel
theorem dX5_partOf_9 : decode cX5_partOf 9 = .ok (.getfield 15, 3) := by decide +kernel
theorem dX5_partOf_12 : decode cX5_partOf 12 = .ok (.iload_n 1, 1) := by decide +kernel
theorem dX5_partOf_13 : decode cX5_partOf 13 = .ok (.iaload, 1) := by decide +kernel
theorem dX5_partOf_14 : decode cX5_partOf 14 = .ok (.goto 4, 3) := by decide +kernel
theorem dX5_partOf_17 : decode cX5_partOf 17 = .ok (.iconst 0, 1) := by decide +kernel
theorem dX5_partOf_18 : decode cX5_partOf 18 = .ok (.ireturn, 1) := by decide +kernel
theorem dX5_wantsPart_0 : decode cX5_wantsPart 0 = .ok (.aload_n 0, 1) := by decide +kernel
theorem dX5_wantsPart_1 : decode cX5_wantsPart 1 = .ok (.iload_n 1, 1) := by decide +kernel
theorem dX5_wantsPart_2 : decode cX5_wantsPart 2 = .ok (.invokevirtual 28, 3) := by decide +kernel
theorem dX5_wantsPart_5 : decode cX5_wantsPart 5 = .ok (.ifCond .eq 25, 3) := by decide +kernel
theorem dX5_wantsPart_8 : decode cX5_wantsPart 8 = .ok (.aload_n 0, 1) := by decide +kernel
theorem dX5_wantsPart_9 : decode cX5_wantsPart 9 = .ok (.getfield 9, 3) := by decide +kernel
theorem dX5_wantsPart_12 : decode cX5_wantsPart 12 = .ok (.iload_n 1, 1) := by decide +kernel
theorem dX5_wantsPart_13 : decode cX5_wantsPart 13 = .ok (.iaload, 1) := by decide +kernel
theorem dX5_wantsPart_14 : decode cX5_wantsPart 14 = .ok (.ifCond .le 16, 3) := by decide +kernel
theorem dX5_wantsPart_17 : decode cX5_wantsPart 17 = .ok (.aload_n 0, 1) := by decide +kernel
theorem dX5_wantsPart_18 : decode cX5_wantsPart 18 = .ok (.getfield 15, 3) := by decide +kernel
theorem dX5_wantsPart_21 : decode cX5_wantsPart 21 = .ok (.iload_n 1, 1) := by decide +kernel
theorem dX5_wantsPart_22 : decode cX5_wantsPart 22 = .ok (.iaload, 1) := by decide +kernel
theorem dX5_wantsPart_23 : decode cX5_wantsPart 23 = .ok (.ifCond .ne 7, 3) := by decide +kernel
theorem dX5_wantsPart_26 : decode cX5_wantsPart 26 = .ok (.iconst 1, 1) := by decide +kernel
theorem dX5_wantsPart_27 : decode cX5_wantsPart 27 = .ok (.goto 4, 3) := by decide +kernel
theorem dX5_wantsPart_30 : decode cX5_wantsPart 30 = .ok (.iconst 0, 1) := by decide +kernel
theorem dX5_wantsPart_31 : decode cX5_wantsPart 31 = .ok (.ireturn, 1) := by decide +kernel
theorem dX5_fill_0 : decode cX5_fill 0 = .ok (.aload_n 0, 1) := by decide +kernel
theorem dX5_fill_1 : decode cX5_fill 1 = .ok (.iload_n 1, 1) := by decide +kernel
theorem dX5_fill_2 : decode cX5_fill 2 = .ok (.invokevirtual 28, 3) := by decide +kernel
theorem dX5_fill_5 : decode cX5_fill 5 = .ok (.ifCond .ne 5, 3) := by decide +kernel
theorem dX5_fill_8 : decode cX5_fill 8 = .ok (.iconst 0, 1) := by decide +kernel
theorem dX5_fill_9 : decode cX5_fill 9 = .ok (.ireturn, 1) := by decide +kernel
theorem dX5_fill_10 : decode cX5_fill 10 = .ok (.aload_n 0, 1) := by decide +kernel
theorem dX5_fill_11 : decode cX5_fill 11 = .ok (.getfield 15, 3) := by decide +kernel
theorem dX5_fill_14 : decode cX5_fill 14 = .ok (.iload_n 1, 1) := by decide +kernel
theorem dX5_fill_15 : decode cX5_fill 15 = .ok (.aload_n 0, 1) := by decide +kernel
theorem dX5_fill_16 : decode cX5_fill 16 = .ok (.getfield 9, 3) := by decide +kernel
theorem dX5_fill_19 : decode cX5_fill 19 = .ok (.iload_n 1, 1) := by decide +kernel
theorem dX5_fill_20 : decode cX5_fill 20 = .ok (.iaload, 1) := by decide +kernel
theorem dX5_fill_21 : decode cX5_fill 21 = .ok (.iload_n 2, 1) := by decide +kernel
theorem dX5_fill_22 : decode cX5_fill 22 = .ok (.invokestatic 32, 3) := by decide +kernel
theorem dX5_fill_25 : decode cX5_fill 25 = .ok (.iastore, 1) := by decide +kernel
theorem dX5_fill_26 : decode cX5_fill 26 = .ok (.aload_n 0, 1) := by decide +kernel
theorem dX5_fill_27 : decode cX5_fill 27 = .ok (.getfield 15, 3) := by decide +kernel
theorem dX5_fill_30 : decode cX5_fill 30 = .ok (.iload_n 1, 1) := by decide +kernel
theorem dX5_fill_31 : decode cX5_fill 31 = .ok (.iaload, 1) := by decide +kernel
theorem dX5_fill_32 : decode cX5_fill 32 = .ok (.ireturn, 1) := by decide +kernel
theorem dX5_sumOfWeights_0 : decode cX5_sumOfWeights 0 = .ok (.lconst 0, 1) := by decide +kernel
theorem dX5_sumOfWeights_1 : decode cX5_sumOfWeights 1 = .ok (.lstore_n 1, 1) := by decide +kernel
theorem dX5_sumOfWeights_2 : decode cX5_sumOfWeights 2 = .ok (.iconst 0, 1) := by decide +kernel
theorem dX5_sumOfWeights_3 : decode cX5_sumOfWeights 3 = .ok (.istore_n 3, 1) := by decide +kernel
theorem dX5_sumOfWeights_4 : decode cX5_sumOfWeights 4 = .ok (.iload_n 3, 1) := by decide +kernel
theorem dX5_sumOfWeights_5 : decode cX5_sumOfWeights 5 = .ok (.aload_n 0, 1) := by decide +kernel
theorem dX5_sumOfWeights_6 : decode cX5_sumOfWeights 6 = .ok (.getfield 9, 3) := by decide +kernel
theorem dX5_sumOfWeights_9 : decode cX5_sumOfWeights 9 = .ok (.arraylength, 1) := by decide +kernel
theorem dX5_sumOfWeights_10 : decode cX5_sumOfWeights 10 = .ok (.if_icmp .ge 19, 3) := by decide +kernel
theorem dX5_sumOfWeights_13 : decode cX5_sumOfWeights 13 = .ok (.lload_n 1, 1) := by decide +kernel
theorem dX5_sumOfWeights_14 : decode cX5_sumOfWeights 14 = .ok (.aload_n 0, 1) := by decide +kernel
theorem dX5_sumOfWeights_15 : decode cX5_sumOfWeights 15 = .ok (.getfield 9, 3) := by decide +kernel
theorem dX5_sumOfWeights_18 : decode cX5_sumOfWeights 18 = .ok (.iload_n 3, 1) := by decide +kernel
theorem dX5_sumOfWeights_19 : decode cX5_sumOfWeights 19 = .ok (.iaload, 1) := by decide +kernel
theorem dX5_sumOfWeights_20 : decode cX5_sumOfWeights 20 = .ok (.i2l, 1) := by decide +kernel
theorem dX5_sumOfWeights_21 : decode cX5_sumOfWeights 21 = .ok (.ladd, 1) := by decide +kernel
theorem dX5_sumOfWeights_22 : decode cX5_sumOfWeights 22 = .ok (.lstore_n 1, 1) := by decide +kernel
theorem dX5_sumOfWeights_23 : decode cX5_sumOfWeights 23 = .ok (.iinc 3 1, 3) := by decide +kernel
theorem dX5_sumOfWeights_26 : decode cX5_sumOfWeights 26 = .ok (.goto (-22), 3) := by decide +kernel
theorem dX5_sumOfWeights_29 : decode cX5_sumOfWeights 29 = .ok (.lload_n 1, 1) := by decide +kernel
theorem dX5_sumOfWeights_30 : decode cX5_sumOfWeights 30 = .ok (.lreturn, 1) := by decide +kernel
theorem dX5_splitUpToWeights_0 : decode cX5_splitUpToWeights 0 = .ok (.aload_n 0, 1) := by decide +kernel
theorem dX5_splitUpToWeights_1 : decode cX5_splitUpToWeights 1 = .ok (.iload_n 1, 1) := by decide +kernel
theorem dX5_splitUpToWeights_2 : decode cX5_splitUpToWeights 2 = .ok (.i2l, 1) := by decide +kernel
theorem dX5_splitUpToWeights_3 : decode cX5_splitUpToWeights 3 = .ok (.aload_n 0, 1) := by decide +kernel
theorem dX5_splitUpToWeights_4 : decode cX5_splitUpToWeights 4 = .ok (.invokevirtual 38, 3) := by decide +kernel
theorem dX5_splitUpToWeights_7 : decode cX5_splitUpToWeights 7 = .ok (.invokestatic 42, 3) := by decide +kernel
theorem dX5_splitUpToWeights_10 : decode cX5_splitUpToWeights 10 = .ok (.l2i, 1) := by decide +kernel
theorem dX5_splitUpToWeights_11 : decode cX5_splitUpToWeights 11 = .ok (.invokevirtual 45, 3) := by decide +kernel
theorem dX5_splitUpToWeights_14 : decode cX5_splitUpToWeights 14 = .ok (.return_, 1) := by decide +kernel
theorem dX5_splitInProportion_0 : decode cX5_splitInProportion 0 = .ok (.aload_n 0, 1) := by decide +kernel
theorem dX5_splitInProportion_1 : decode cX5_splitInProportion 1 = .ok (.invokevirtual 38, 3) := by decide +kernel
theorem dX5_splitInProportion_4 : decode cX5_splitInProportion 4 = .ok (.lstore_n 2, 1) := by decide +kernel
theorem dX5_splitInProportion_5 : decode cX5_splitInProportion 5 = .ok (.lload_n 2, 1) := by decide +kernel
theorem dX5_splitInProportion_6 : decode cX5_splitInProportion 6 = .ok (.lconst 0, 1) := by decide +kernel
theorem dX5_splitInProportion_7 : decode cX5_splitInProportion 7 = .ok (.lcmp, 1) := by decide +kernel
theorem dX5_splitInProportion_8 : decode cX5_splitInProportion 8 = .ok (.ifCond .gt 4, 3) := by decide +kernel
theorem dX5_splitInProportion_11 : decode cX5_splitInProportion 11 = .ok (.return_, 1) := by decide +kernel
theorem dX5_splitInProportion_12 : decode cX5_splitInProportion 12 = .ok (.iload_n 1, 1) := by decide +kernel
theorem dX5_splitInProportion_13 : decode cX5_splitInProportion 13 = .ok (.istore 4, 2) := by decide +kernel
theorem dX5_splitInProportion_15 : decode cX5_splitInProportion 15 = .ok (.iconst 0, 1) := by decide +kernel
theorem dX5_splitInProportion_16 : decode cX5_splitInProportion 16 = .ok (.istore 5, 2) := by decide +kernel
theorem dX5_splitInProportion_18 : decode cX5_splitInProportion 18 = .ok (.iload 5, 2) := by decide +kernel
theorem dX5_splitInProportion_20 : decode cX5_splitInProportion 20 = .ok (.bipush 24, 2) := by decide +kernel
theorem dX5_splitInProportion_22 : decode cX5_splitInProportion 22 = .ok (.if_icmp .ge 66, 3) := by decide +kernel
theorem dX5_splitInProportion_25 : decode cX5_splitInProportion 25 = .ok (.aload_n 0, 1) := by decide +kernel
theorem dX5_splitInProportion_26 : decode cX5_splitInProportion 26 = .ok (.iload 5, 2) := by decide +kernel
theorem dX5_splitInProportion_28 : decode cX5_splitInProportion 28 = .ok (.invokevirtual 28, 3) := by decide +kernel
theorem dX5_splitInProportion_31 : decode cX5_splitInProportion 31 = .ok (.ifCond .eq 57, 3) := by decide +kernel
theorem dX5_splitInProportion_34 : decode cX5_splitInProportion 34 = .ok (.iload_n 1, 1) := by decide +kernel
theorem dX5_splitInProportion_35 : decode cX5_splitInProportion 35 = .ok (.i2l, 1) := by decide +kernel
theorem dX5_splitInProportion_36 : decode cX5_splitInProportion 36 = .ok (.aload_n 0, 1) := by decide +kernel
theorem dX5_splitInProportion_37 : decode cX5_splitInProportion 37 = .ok (.getfield 9, 3) := by decide +kernel
theorem dX5_splitInProportion_40 : decode cX5_splitInProportion 40 = .ok (.iload 5, 2) := by decide +kernel
theorem dX5_splitInProportion_42 : decode cX5_splitInProportion 42 = .ok (.iaload, 1) := by decide +kernel
theorem dX5_splitInProportion_43 : decode cX5_splitInProportion 43 = .ok (.i2l, 1) := by decide +kernel
theorem dX5_splitInProportion_44 : decode cX5_splitInProportion 44 = .ok (.lmul, 1) := by decide +kernel
theorem dX5_splitInProportion_45 : decode cX5_splitInProportion 45 = .ok (.lstore 6, 2) := by decide +kernel
theorem dX5_splitInProportion_47 : decode cX5_splitInProportion 47 = .ok (.aload_n 0, 1) := by decide +kernel
theorem dX5_splitInProportion_48 : decode cX5_splitInProportion 48 = .ok (.getfield 15, 3) := by decide +kernel
theorem dX5_splitInProportion_51 : decode cX5_splitInProportion 51 = .ok (.iload 5, 2) := by decide +kernel
theorem dX5_splitInProportion_53 : decode cX5_splitInProportion 53 = .ok (.lload 6, 2) := by decide +kernel
theorem dX5_splitInProportion_55 : decode cX5_splitInProportion 55 = .ok (.lload_n 2, 1) := by decide +kernel
theorem dX5_splitInProportion_56 : decode cX5_splitInProportion 56 = .ok (.ldiv, 1) := by decide +kernel
theorem dX5_splitInProportion_57 : decode cX5_splitInProportion 57 = .ok (.l2i, 1) := by decide +kernel
theorem dX5_splitInProportion_58 : decode cX5_splitInProportion 58 = .ok (.iastore, 1) := by decide +kernel
theorem dX5_splitInProportion_59 : decode cX5_splitInProportion 59 = .ok (.aload_n 0, 1) := by decide +kernel
theorem dX5_splitInProportion_60 : decode cX5_splitInProportion 60 = .ok (.getfield 18, 3) := by decide +kernel
theorem dX5_splitInProportion_63 : decode cX5_splitInProportion 63 = .ok (.iload 5, 2) := by decide +kernel
theorem dX5_splitInProportion_65 : decode cX5_splitInProportion 65 = .ok (.lload 6, 2) := by decide +kernel
theorem dX5_splitInProportion_67 : decode cX5_splitInProportion 67 = .ok (.lload_n 2, 1) := by decide +kernel
theorem dX5_splitInProportion_68 : decode cX5_splitInProportion 68 = .ok (.lrem, 1) := by decide +kernel
theorem dX5_splitInProportion_69 : decode cX5_splitInProportion 69 = .ok (.lastore, 1) := by decide +kernel
theorem dX5_splitInProportion_70 : decode cX5_splitInProportion 70 = .ok (.iload 4, 2) := by decide +kernel
theorem dX5_splitInProportion_72 : decode cX5_splitInProportion 72 = .ok (.aload_n 0, 1) := by decide +kernel
theorem dX5_splitInProportion_73 : decode cX5_splitInProportion 73 = .ok (.getfield 15, 3) := by decide +kernel
theorem dX5_splitInProportion_76 : decode cX5_splitInProportion 76 = .ok (.iload 5, 2) := by decide +kernel
theorem dX5_splitInProportion_78 : decode cX5_splitInProportion 78 = .ok (.iaload, 1) := by decide +kernel
theorem dX5_splitInProportion_79 : decode cX5_splitInProportion 79 = .ok (.isub, 1) := by decide +kernel
theorem dX5_splitInProportion_80 : decode cX5_splitInProportion 80 = .ok (.istore 4, 2) := by decide +kernel
theorem dX5_splitInProportion_82 : decode cX5_splitInProportion 82 = .ok (.iinc 5 1, 3) := by decide +kernel
theorem dX5_splitInProportion_85 : decode cX5_splitInProportion 85 = .ok (.goto (-67), 3) := by decide +kernel
theorem dX5_splitInProportion_88 : decode cX5_splitInProportion 88 = .ok (.iconst 0, 1) := by decide +kernel
theorem dX5_splitInProportion_89 : decode cX5_splitInProportion 89 = .ok (.istore 5, 2) := by decide +kernel
theorem dX5_splitInProportion_91 : decode cX5_splitInProportion 91 = .ok (.iload 5, 2) := by decide +kernel
theorem dX5_splitInProportion_93 : decode cX5_splitInProportion 93 = .ok (.iload 4, 2) := by decide +kernel
theorem dX5_splitInProportion_95 : decode cX5_splitInProportion 95 = .ok (.if_icmp .ge 13, 3) := by decide +kernel
theorem dX5_splitInProportion_98 : decode cX5_splitInProportion 98 = .ok (.aload_n 0, 1) := by decide +kernel
theorem dX5_splitInProportion_99 : decode cX5_splitInProportion 99 = .ok (.invokevirtual 49, 3) := by decide +kernel
theorem dX5_splitInProportion_102 : decode cX5_splitInProportion 102 = .ok (.iinc 5 1, 3) := by decide +kernel
theorem dX5_splitInProportion_105 : decode cX5_splitInProportion 105 = .ok (.goto (-14), 3) := by decide +kernel
theorem dX5_splitInProportion_108 : decode cX5_splitInProportion 108 = .ok (.return_, 1) := by decide +kernel
theorem dX5_giveCentToGreatestRemainder_0 : decode cX5_giveCentToGreatestRemainder 0 = .ok (.iconst (-1), 1) := by decide +kernel
theorem dX5_giveCentToGreatestRemainder_1 : decode cX5_giveCentToGreatestRemainder 1 = .ok (.istore_n 1, 1) := by decide +kernel
theorem dX5_giveCentToGreatestRemainder_2 : decode cX5_giveCentToGreatestRemainder 2 = .ok (.lconst 0, 1) := by decide +kernel
theorem dX5_giveCentToGreatestRemainder_3 : decode cX5_giveCentToGreatestRemainder 3 = .ok (.lstore_n 2, 1) := by decide +kernel
theorem dX5_giveCentToGreatestRemainder_4 : decode cX5_giveCentToGreatestRemainder 4 = .ok (.iconst 0, 1) := by decide +kernel
theorem dX5_giveCentToGreatestRemainder_5 : decode cX5_giveCentToGreatestRemainder 5 = .ok (.istore 4, 2) := by decide +kernel
theorem dX5_giveCentToGreatestRemainder_7 : decode cX5_giveCentToGreatestRemainder 7 = .ok (.iload 4, 2) := by decide +kernel
theorem dX5_giveCentToGreatestRemainder_9 : decode cX5_giveCentToGreatestRemainder 9 = .ok (.aload_n 0, 1) := by decide +kernel
theorem dX5_giveCentToGreatestRemainder_10 : decode cX5_giveCentToGreatestRemainder 10 = .ok (.getfield 18, 3) := by decide +kernel
theorem dX5_giveCentToGreatestRemainder_13 : decode cX5_giveCentToGreatestRemainder 13 = .ok (.arraylength, 1) := by decide +kernel
theorem dX5_giveCentToGreatestRemainder_14 : decode cX5_giveCentToGreatestRemainder 14 = .ok (.if_icmp .ge 32, 3) := by decide +kernel
theorem dX5_giveCentToGreatestRemainder_17 : decode cX5_giveCentToGreatestRemainder 17 = .ok (.aload_n 0, 1) := by decide +kernel
theorem dX5_giveCentToGreatestRemainder_18 : decode cX5_giveCentToGreatestRemainder 18 = .ok (.getfield 18, 3) := by decide +kernel
theorem dX5_giveCentToGreatestRemainder_21 : decode cX5_giveCentToGreatestRemainder 21 = .ok (.iload 4, 2) := by decide +kernel
theorem dX5_giveCentToGreatestRemainder_23 : decode cX5_giveCentToGreatestRemainder 23 = .ok (.laload, 1) := by decide +kernel
theorem dX5_giveCentToGreatestRemainder_24 : decode cX5_giveCentToGreatestRemainder 24 = .ok (.lload_n 2, 1) := by decide +kernel
theorem dX5_giveCentToGreatestRemainder_25 : decode cX5_giveCentToGreatestRemainder 25 = .ok (.lcmp, 1) := by decide +kernel
theorem dX5_giveCentToGreatestRemainder_26 : decode cX5_giveCentToGreatestRemainder 26 = .ok (.ifCond .le 14, 3) := by decide +kernel
theorem dX5_giveCentToGreatestRemainder_29 : decode cX5_giveCentToGreatestRemainder 29 = .ok (.iload 4, 2) := by decide +kernel
theorem dX5_giveCentToGreatestRemainder_31 : decode cX5_giveCentToGreatestRemainder 31 = .ok (.istore_n 1, 1) := by decide +kernel
theorem dX5_giveCentToGreatestRemainder_32 : decode cX5_giveCentToGreatestRemainder 32 = .ok (.aload_n 0, 1) := by decide +kernel
theorem dX5_giveCentToGreatestRemainder_33 : decode cX5_giveCentToGreatestRemainder 33 = .ok (.getfield 18, 3) := by decide +kernel
theorem dX5_giveCentToGreatestRemainder_36 : decode cX5_giveCentToGreatestRemainder 36 = .ok (.iload 4, 2) := by decide +kernel
theorem dX5_giveCentToGreatestRemainder_38 : decode cX5_giveCentToGreatestRemainder 38 = .ok (.laload, 1) := by decide +kernel
theorem dX5_giveCentToGreatestRemainder_39 : decode cX5_giveCentToGreatestRemainder 39 = .ok (.lstore_n 2, 1) := by decide +kernel
theorem dX5_giveCentToGreatestRemainder_40 : decode cX5_giveCentToGreatestRemainder 40 = .ok (.iinc 4 1, 3) := by decide +kernel
theorem dX5_giveCentToGreatestRemainder_43 : decode cX5_giveCentToGreatestRemainder 43 = .ok (.goto (-36), 3) := by decide +kernel
theorem dX5_giveCentToGreatestRemainder_46 : decode cX5_giveCentToGreatestRemainder 46 = .ok (.aload_n 0, 1) := by decide +kernel
theorem dX5_giveCentToGreatestRemainder_47 : decode cX5_giveCentToGreatestRemainder 47 = .ok (.iload_n 1, 1) := by decide +kernel
theorem dX5_giveCentToGreatestRemainder_48 : decode cX5_giveCentToGreatestRemainder 48 = .ok (.invokevirtual 28, 3) := by decide +kernel
theorem dX5_giveCentToGreatestRemainder_51 : decode cX5_giveCentToGreatestRemainder 51 = .ok (.ifCond .eq 20, 3) := by decide +kernel
theorem dX5_giveCentToGreatestRemainder_54 : decode cX5_giveCentToGreatestRemainder 54 = .ok (.aload_n 0, 1) := by decide +kernel
theorem dX5_giveCentToGreatestRemainder_55 : decode cX5_giveCentToGreatestRemainder 55 = .ok (.getfield 15, 3) := by decide +kernel
theorem dX5_giveCentToGreatestRemainder_58 : decode cX5_giveCentToGreatestRemainder 58 = .ok (.iload_n 1, 1) := by decide +kernel
theorem dX5_giveCentToGreatestRemainder_59 : decode cX5_giveCentToGreatestRemainder 59 = .ok (.dup2, 1) := by decide +kernel
theorem dX5_giveCentToGreatestRemainder_60 : decode cX5_giveCentToGreatestRemainder 60 = .ok (.iaload, 1) := by decide +kernel
theorem dX5_giveCentToGreatestRemainder_61 : decode cX5_giveCentToGreatestRemainder 61 = .ok (.iconst 1, 1) := by decide +kernel
theorem dX5_giveCentToGreatestRemainder_62 : decode cX5_giveCentToGreatestRemainder 62 = .ok (.iadd, 1) := by decide +kernel
theorem dX5_giveCentToGreatestRemainder_63 : decode cX5_giveCentToGreatestRemainder 63 = .ok (.iastore, 1) := by decide +kernel
theorem dX5_giveCentToGreatestRemainder_64 : decode cX5_giveCentToGreatestRemainder 64 = .ok (.aload_n 0, 1) := by decide +kernel
theorem dX5_giveCentToGreatestRemainder_65 : decode cX5_giveCentToGreatestRemainder 65 = .ok (.getfield 18, 3) := by decide +kernel
theorem dX5_giveCentToGreatestRemainder_68 : decode cX5_giveCentToGreatestRemainder 68 = .ok (.iload_n 1, 1) := by decide +kernel
theorem dX5_giveCentToGreatestRemainder_69 : decode cX5_giveCentToGreatestRemainder 69 = .ok (.lconst 0, 1) := by decide +kernel
theorem dX5_giveCentToGreatestRemainder_70 : decode cX5_giveCentToGreatestRemainder 70 = .ok (.lastore, 1) := by decide +kernel
theorem dX5_giveCentToGreatestRemainder_71 : decode cX5_giveCentToGreatestRemainder 71 = .ok (.return_, 1) := by decide +kernel
theorem dJ9_max_7cf53_0 : decode cJ9_max_7cf53 0 = .ok (.iload_n 0, 1) := by decide +kernel
theorem dJ9_max_7cf53_1 : decode cJ9_max_7cf53 1 = .ok (.iload_n 1, 1) := by decide +kernel
theorem dJ9_max_7cf53_2 : decode cJ9_max_7cf53 2 = .ok (.if_icmp .lt 7, 3) := by decide +kernel
theorem dJ9_max_7cf53_5 : decode cJ9_max_7cf53 5 = .ok (.iload_n 0, 1) := by decide +kernel
theorem dJ9_max_7cf53_6 : decode cJ9_max_7cf53 6 = .ok (.goto 4, 3) := by decide +kernel
theorem dJ9_max_7cf53_9 : decode cJ9_max_7cf53 9 = .ok (.iload_n 1, 1) := by decide +kernel
theorem dJ9_max_7cf53_10 : decode cJ9_max_7cf53 10 = .ok (.ireturn, 1) := by decide +kernel
theorem dJ9_min_7cf53_0 : decode cJ9_min_7cf53 0 = .ok (.iload_n 0, 1) := by decide +kernel
theorem dJ9_min_7cf53_1 : decode cJ9_min_7cf53 1 = .ok (.iload_n 1, 1) := by decide +kernel
theorem dJ9_min_7cf53_2 : decode cJ9_min_7cf53 2 = .ok (.if_icmp .gt 7, 3) := by decide +kernel
theorem dJ9_min_7cf53_5 : decode cJ9_min_7cf53 5 = .ok (.iload_n 0, 1) := by decide +kernel
theorem dJ9_min_7cf53_6 : decode cJ9_min_7cf53 6 = .ok (.goto 4, 3) := by decide +kernel
theorem dJ9_min_7cf53_9 : decode cJ9_min_7cf53 9 = .ok (.iload_n 1, 1) := by decide +kernel
theorem dJ9_min_7cf53_10 : decode cJ9_min_7cf53 10 = .ok (.ireturn, 1) := by decide +kernel
theorem dJ9_min_f86c9_0 : decode cJ9_min_f86c9 0 = .ok (.lload_n 0, 1) := by decide +kernel
theorem dJ9_min_f86c9_1 : decode cJ9_min_f86c9 1 = .ok (.lload_n 2, 1) := by decide +kernel
theorem dJ9_min_f86c9_2 : decode cJ9_min_f86c9 2 = .ok (.lcmp, 1) := by decide +kernel
theorem dJ9_min_f86c9_3 : decode cJ9_min_f86c9 3 = .ok (.ifCond .gt 7, 3) := by decide +kernel
theorem dJ9_min_f86c9_6 : decode cJ9_min_f86c9 6 = .ok (.lload_n 0, 1) := by decide +kernel
theorem dJ9_min_f86c9_7 : decode cJ9_min_f86c9 7 = .ok (.goto 4, 3) := by decide +kernel
theorem dJ9_min_f86c9_10 : decode cJ9_min_f86c9 10 = .ok (.lload_n 2, 1) := by decide +kernel
theorem dJ9_min_f86c9_11 : decode cJ9_min_f86c9 11 = .ok (.lreturn, 1) := by decide +kernel
theorem dJxa1e45_init_da8c8_0 : decode cJxa1e45_init_da8c8 0 = .ok (.aload_n 0, 1) := by decide +kernel
theorem dJxa1e45_init_da8c8_1 : decode cJxa1e45_init_da8c8 1 = .ok (.invokespecial 1, 3) := by decide +kernel
theorem dJxa1e45_init_da8c8_4 : decode cJxa1e45_init_da8c8 4 = .ok (.return_, 1) := by decide +kernel
theorem dJxc12de_init_da8c8_0 : decode cJxc12de_init_da8c8 0 = .ok (.aload_n 0, 1) := by decide +kernel
theorem dJxc12de_init_da8c8_1 : decode cJxc12de_init_da8c8 1 = .ok (.invokespecial 1, 3) := by decide +kernel
theorem dJxc12de_init_da8c8_4 : decode cJxc12de_init_da8c8 4 = .ok (.aload_n 0, 1) := by decide +kernel
theorem dJxc12de_init_da8c8_5 : decode cJxc12de_init_da8c8 5 = .ok (.iconst 0, 1) := by decide +kernel
theorem dJxc12de_init_da8c8_6 : decode cJxc12de_init_da8c8 6 = .ok (.putfield 7, 3) := by decide +kernel
theorem dJxc12de_init_da8c8_9 : decode cJxc12de_init_da8c8 9 = .ok (.return_, 1) := by decide +kernel
theorem dJx4a65c_init_da8c8_0 : decode cJx4a65c_init_da8c8 0 = .ok (.aload_n 0, 1) := by decide +kernel
theorem dJx4a65c_init_da8c8_1 : decode cJx4a65c_init_da8c8 1 = .ok (.invokespecial 1, 3) := by decide +kernel
theorem dJx4a65c_init_da8c8_4 : decode cJx4a65c_init_da8c8 4 = .ok (.aload_n 0, 1) := by decide +kernel
theorem dJx4a65c_init_da8c8_5 : decode cJx4a65c_init_da8c8 5 = .ok (.getstatic 39, 3) := by decide +kernel
theorem dJx4a65c_init_da8c8_8 : decode cJx4a65c_init_da8c8 8 = .ok (.putfield 9, 3) := by decide +kernel
theorem dJx4a65c_init_da8c8_11 : decode cJx4a65c_init_da8c8 11 = .ok (.return_, 1) := by decide +kernel
theorem dJx4a65c_grow_92f84_0 : decode cJx4a65c_grow_92f84 0 = .ok (.aload_n 0, 1) := by decide +kernel
theorem dJx4a65c_grow_92f84_1 : decode cJx4a65c_grow_92f84 1 = .ok (.getfield 9, 3) := by decide +kernel
theorem dJx4a65c_grow_92f84_4 : decode cJx4a65c_grow_92f84 4 = .ok (.arraylength, 1) := by decide +kernel
theorem dJx4a65c_grow_92f84_5 : decode cJx4a65c_grow_92f84 5 = .ok (.istore_n 2, 1) := by decide +kernel
theorem dJx4a65c_grow_92f84_6 : decode cJx4a65c_grow_92f84 6 = .ok (.iload_n 2, 1) := by decide +kernel
theorem dJx4a65c_grow_92f84_7 : decode cJx4a65c_grow_92f84 7 = .ok (.ifCond .gt 13, 3) := by decide +kernel
theorem dJx4a65c_grow_92f84_10 : decode cJx4a65c_grow_92f84 10 = .ok (.aload_n 0, 1) := by decide +kernel
theorem dJx4a65c_grow_92f84_11 : decode cJx4a65c_grow_92f84 11 = .ok (.getfield 9, 3) := by decide +kernel
theorem dJx4a65c_grow_92f84_14 : decode cJx4a65c_grow_92f84 14 = .ok (.getstatic 39, 3) := by decide +kernel
theorem dJx4a65c_grow_92f84_17 : decode cJx4a65c_grow_92f84 17 = .ok (.if_acmp .eq 28, 3) := by decide +kernel
theorem dJx4a65c_grow_92f84_20 : decode cJx4a65c_grow_92f84 20 = .ok (.iload_n 2, 1) := by decide +kernel
theorem dJx4a65c_grow_92f84_21 : decode cJx4a65c_grow_92f84 21 = .ok (.iload_n 1, 1) := by decide +kernel
theorem dJx4a65c_grow_92f84_22 : decode cJx4a65c_grow_92f84 22 = .ok (.iload_n 2, 1) := by decide +kernel
theorem dJx4a65c_grow_92f84_23 : decode cJx4a65c_grow_92f84 23 = .ok (.isub, 1) := by decide +kernel
theorem dJx4a65c_grow_92f84_24 : decode cJx4a65c_grow_92f84 24 = .ok (.iload_n 2, 1) := by decide +kernel
theorem dJx4a65c_grow_92f84_25 : decode cJx4a65c_grow_92f84 25 = .ok (.iconst 1, 1) := by decide +kernel
theorem dJx4a65c_grow_92f84_26 : decode cJx4a65c_grow_92f84 26 = .ok (.ishr, 1) := by decide +kernel
theorem dJx4a65c_grow_92f84_27 : decode cJx4a65c_grow_92f84 27 = .ok (.invokestatic 73, 3) := by decide +kernel
theorem dJx4a65c_grow_92f84_30 : decode cJx4a65c_grow_92f84 30 = .ok (.istore_n 3, 1) := by decide +kernel
theorem dJx4a65c_grow_92f84_31 : decode cJx4a65c_grow_92f84 31 = .ok (.aload_n 0, 1) := by decide +kernel
theorem dJx4a65c_grow_92f84_32 : decode cJx4a65c_grow_92f84 32 = .ok (.aload_n 0, 1) := by decide +kernel
theorem dJx4a65c_grow_92f84_33 : decode cJx4a65c_grow_92f84 33 = .ok (.getfield 9, 3) := by decide +kernel
theorem dJx4a65c_grow_92f84_36 : decode cJx4a65c_grow_92f84 36 = .ok (.iload_n 3, 1) := by decide +kernel
theorem dJx4a65c_grow_92f84_37 : decode cJx4a65c_grow_92f84 37 = .ok (.invokestatic 66, 3) := by decide +kernel
theorem dJx4a65c_grow_92f84_40 : decode cJx4a65c_grow_92f84 40 = .ok (.dup_x1, 1) := by decide +kernel
theorem dJx4a65c_grow_92f84_41 : decode cJx4a65c_grow_92f84 41 = .ok (.putfield 9, 3) := by decide +kernel
theorem dJx4a65c_grow_92f84_44 : decode cJx4a65c_grow_92f84 44 = .ok (.areturn, 1) := by decide +kernel
theorem dJx4a65c_grow_92f84_45 : decode cJx4a65c_grow_92f84 45 = .ok (.aload_n 0, 1) := by decide +kernel
theorem dJx4a65c_grow_92f84_46 : decode cJx4a65c_grow_92f84 46 = .ok (.bipush 10, 2) := by decide +kernel
theorem dJx4a65c_grow_92f84_48 : decode cJx4a65c_grow_92f84 48 = .ok (.iload_n 1, 1) := by decide +kernel
theorem dJx4a65c_grow_92f84_49 : decode cJx4a65c_grow_92f84 49 = .ok (.invokestatic 79, 3) := by decide +kernel
theorem dJx4a65c_grow_92f84_52 : decode cJx4a65c_grow_92f84 52 = .ok (.anewarray 7, 3) := by decide +kernel
theorem dJx4a65c_grow_92f84_55 : decode cJx4a65c_grow_92f84 55 = .ok (.dup_x1, 1) := by decide +kernel
theorem dJx4a65c_grow_92f84_56 : decode cJx4a65c_grow_92f84 56 = .ok (.putfield 9, 3) := by decide +kernel
theorem dJx4a65c_grow_92f84_59 : decode cJx4a65c_grow_92f84 59 = .ok (.areturn, 1) := by decide +kernel
theorem dJx4a65c_grow_d5877_0 : decode cJx4a65c_grow_d5877 0 = .ok (.aload_n 0, 1) := by decide +kernel
theorem dJx4a65c_grow_d5877_1 : decode cJx4a65c_grow_d5877 1 = .ok (.aload_n 0, 1) := by decide +kernel
theorem dJx4a65c_grow_d5877_2 : decode cJx4a65c_grow_d5877 2 = .ok (.getfield 48, 3) := by decide +kernel
theorem dJx4a65c_grow_d5877_5 : decode cJx4a65c_grow_d5877 5 = .ok (.iconst 1, 1) := by decide +kernel
theorem dJx4a65c_grow_d5877_6 : decode cJx4a65c_grow_d5877 6 = .ok (.iadd, 1) := by decide +kernel
theorem dJx4a65c_grow_d5877_7 : decode cJx4a65c_grow_d5877 7 = .ok (.invokevirtual 69, 3) := by decide +kernel
theorem dJx4a65c_grow_d5877_10 : decode cJx4a65c_grow_d5877 10 = .ok (.areturn, 1) := by decide +kernel
theorem dJx4a65c_size_8abf5_0 : decode cJx4a65c_size_8abf5 0 = .ok (.aload_n 0, 1) := by decide +kernel
theorem dJx4a65c_size_8abf5_1 : decode cJx4a65c_size_8abf5 1 = .ok (.getfield 48, 3) := by decide +kernel
theorem dJx4a65c_size_8abf5_4 : decode cJx4a65c_size_8abf5 4 = .ok (.ireturn, 1) := by decide +kernel
theorem dJx4a65c_elementData_915e3_0 : decode cJx4a65c_elementData_915e3 0 = .ok (.aload_n 0, 1) := by decide +kernel
theorem dJx4a65c_elementData_915e3_1 : decode cJx4a65c_elementData_915e3 1 = .ok (.getfield 9, 3) := by decide +kernel
theorem dJx4a65c_elementData_915e3_4 : decode cJx4a65c_elementData_915e3 4 = .ok (.iload_n 1, 1) := by decide +kernel
theorem dJx4a65c_elementData_915e3_5 : decode cJx4a65c_elementData_915e3 5 = .ok (.aaload, 1) := by decide +kernel
theorem dJx4a65c_elementData_915e3_6 : decode cJx4a65c_elementData_915e3 6 = .ok (.areturn, 1) := by decide +kernel
theorem dJx4a65c_get_915e3_0 : decode cJx4a65c_get_915e3 0 = .ok (.iload_n 1, 1) := by decide +kernel
theorem dJx4a65c_get_915e3_1 : decode cJx4a65c_get_915e3 1 = .ok (.aload_n 0, 1) := by decide +kernel
theorem dJx4a65c_get_915e3_2 : decode cJx4a65c_get_915e3 2 = .ok (.getfield 48, 3) := by decide +kernel
theorem dJx4a65c_get_915e3_5 : decode cJx4a65c_get_915e3 5 = .ok (.invokestatic 118, 3) := by decide +kernel
theorem dJx4a65c_get_915e3_8 : decode cJx4a65c_get_915e3 8 = .ok (.pop, 1) := by decide +kernel
theorem dJx4a65c_get_915e3_9 : decode cJx4a65c_get_915e3 9 = .ok (.aload_n 0, 1) := by decide +kernel
theorem dJx4a65c_get_915e3_10 : decode cJx4a65c_get_915e3 10 = .ok (.iload_n 1, 1) := by decide +kernel
theorem dJx4a65c_get_915e3_11 : decode cJx4a65c_get_915e3 11 = .ok (.invokevirtual 123, 3) := by decide +kernel
theorem dJx4a65c_get_915e3_14 : decode cJx4a65c_get_915e3 14 = .ok (.areturn, 1) := by decide +kernel
theorem dJx4a65c_add_72be8_0 : decode cJx4a65c_add_72be8 0 = .ok (.iload_n 3, 1) := by decide +kernel
theorem dJx4a65c_add_72be8_1 : decode cJx4a65c_add_72be8 1 = .ok (.aload_n 2, 1) := by decide +kernel
theorem dJx4a65c_add_72be8_2 : decode cJx4a65c_add_72be8 2 = .ok (.arraylength, 1) := by decide +kernel
theorem dJx4a65c_add_72be8_3 : decode cJx4a65c_add_72be8 3 = .ok (.if_icmp .ne 8, 3) := by decide +kernel
theorem dJx4a65c_add_72be8_6 : decode cJx4a65c_add_72be8 6 = .ok (.aload_n 0, 1) := by decide +kernel
theorem dJx4a65c_add_72be8_7 : decode cJx4a65c_add_72be8 7 = .ok (.invokevirtual 129, 3) := by decide +kernel
theorem dJx4a65c_add_72be8_10 : decode cJx4a65c_add_72be8 10 = .ok (.astore_n 2, 1) := by decide +kernel
theorem dJx4a65c_add_72be8_11 : decode cJx4a65c_add_72be8 11 = .ok (.aload_n 2, 1) := by decide +kernel
theorem dJx4a65c_add_72be8_12 : decode cJx4a65c_add_72be8 12 = .ok (.iload_n 3, 1) := by decide +kernel
theorem dJx4a65c_add_72be8_13 : decode cJx4a65c_add_72be8 13 = .ok (.aload_n 1, 1) := by decide +kernel
theorem dJx4a65c_add_72be8_14 : decode cJx4a65c_add_72be8 14 = .ok (.aastore, 1) := by decide +kernel
theorem dJx4a65c_add_72be8_15 : decode cJx4a65c_add_72be8 15 = .ok (.aload_n 0, 1) := by decide +kernel
theorem dJx4a65c_add_72be8_16 : decode cJx4a65c_add_72be8 16 = .ok (.iload_n 3, 1) := by decide +kernel
theorem dJx4a65c_add_72be8_17 : decode cJx4a65c_add_72be8 17 = .ok (.iconst 1, 1) := by decide +kernel
theorem dJx4a65c_add_72be8_18 : decode cJx4a65c_add_72be8 18 = .ok (.iadd, 1) := by decide +kernel
theorem dJx4a65c_add_72be8_19 : decode cJx4a65c_add_72be8 19 = .ok (.putfield 48, 3) := by decide +kernel
theorem dJx4a65c_add_72be8_22 : decode cJx4a65c_add_72be8 22 = .ok (.return_, 1) := by decide +kernel
theorem dJx4a65c_add_9ea2d_0 : decode cJx4a65c_add_9ea2d 0 = .ok (.aload_n 0, 1) := by decide +kernel
theorem dJx4a65c_add_9ea2d_1 : decode cJx4a65c_add_9ea2d 1 = .ok (.dup, 1) := by decide +kernel
theorem dJx4a65c_add_9ea2d_2 : decode cJx4a65c_add_9ea2d 2 = .ok (.getfield 63, 3) := by decide +kernel
theorem dJx4a65c_add_9ea2d_5 : decode cJx4a65c_add_9ea2d 5 = .ok (.iconst 1, 1) := by decide +kernel
theorem dJx4a65c_add_9ea2d_6 : decode cJx4a65c_add_9ea2d 6 = .ok (.iadd, 1) := by decide +kernel
theorem dJx4a65c_add_9ea2d_7 : decode cJx4a65c_add_9ea2d 7 = .ok (.putfield 63, 3) := by decide +kernel
theorem dJx4a65c_add_9ea2d_10 : decode cJx4a65c_add_9ea2d 10 = .ok (.aload_n 0, 1) := by decide +kernel
theorem dJx4a65c_add_9ea2d_11 : decode cJx4a65c_add_9ea2d 11 = .ok (.aload_n 1, 1) := by decide +kernel
theorem dJx4a65c_add_9ea2d_12 : decode cJx4a65c_add_9ea2d 12 = .ok (.aload_n 0, 1) := by decide +kernel
theorem dJx4a65c_add_9ea2d_13 : decode cJx4a65c_add_9ea2d 13 = .ok (.getfield 9, 3) := by decide +kernel
theorem dJx4a65c_add_9ea2d_16 : decode cJx4a65c_add_9ea2d 16 = .ok (.aload_n 0, 1) := by decide +kernel
theorem dJx4a65c_add_9ea2d_17 : decode cJx4a65c_add_9ea2d 17 = .ok (.getfield 48, 3) := by decide +kernel
theorem dJx4a65c_add_9ea2d_20 : decode cJx4a65c_add_9ea2d 20 = .ok (.invokevirtual 131, 3) := by decide +kernel
theorem dJx4a65c_add_9ea2d_23 : decode cJx4a65c_add_9ea2d 23 = .ok (.iconst 1, 1) := by decide +kernel
theorem dJx4a65c_add_9ea2d_24 : decode cJx4a65c_add_9ea2d 24 = .ok (.ireturn, 1) := by decide +kernel
theorem dJ7_fill_53178_0 : decode cJ7_fill_53178 0 = .ok (.iconst 0, 1) := by decide +kernel
theorem dJ7_fill_53178_1 : decode cJ7_fill_53178 1 = .ok (.istore_n 2, 1) := by decide +kernel
theorem dJ7_fill_53178_2 : decode cJ7_fill_53178 2 = .ok (.aload_n 0, 1) := by decide +kernel
theorem dJ7_fill_53178_3 : decode cJ7_fill_53178 3 = .ok (.arraylength, 1) := by decide +kernel
theorem dJ7_fill_53178_4 : decode cJ7_fill_53178 4 = .ok (.istore_n 3, 1) := by decide +kernel
theorem dJ7_fill_53178_5 : decode cJ7_fill_53178 5 = .ok (.iload_n 2, 1) := by decide +kernel
theorem dJ7_fill_53178_6 : decode cJ7_fill_53178 6 = .ok (.iload_n 3, 1) := by decide +kernel
theorem dJ7_fill_53178_7 : decode cJ7_fill_53178 7 = .ok (.if_icmp .ge 13, 3) := by decide +kernel
theorem dJ7_fill_53178_10 : decode cJ7_fill_53178 10 = .ok (.aload_n 0, 1) := by decide +kernel
theorem dJ7_fill_53178_11 : decode cJ7_fill_53178 11 = .ok (.iload_n 2, 1) := by decide +kernel
theorem dJ7_fill_53178_12 : decode cJ7_fill_53178 12 = .ok (.iload_n 1, 1) := by decide +kernel
theorem dJ7_fill_53178_13 : decode cJ7_fill_53178 13 = .ok (.iastore, 1) := by decide +kernel
theorem dJ7_fill_53178_14 : decode cJ7_fill_53178 14 = .ok (.iinc 2 1, 3) := by decide +kernel
theorem dJ7_fill_53178_17 : decode cJ7_fill_53178 17 = .ok (.goto (-12), 3) := by decide +kernel
theorem dJ7_fill_53178_20 : decode cJ7_fill_53178 20 = .ok (.return_, 1) := by decide +kernel
theorem dJ7_copyOf_1904c_0 : decode cJ7_copyOf_1904c 0 = .ok (.aload_n 0, 1) := by decide +kernel
theorem dJ7_copyOf_1904c_1 : decode cJ7_copyOf_1904c 1 = .ok (.iload_n 1, 1) := by decide +kernel
theorem dJ7_copyOf_1904c_2 : decode cJ7_copyOf_1904c 2 = .ok (.aload_n 0, 1) := by decide +kernel
theorem dJ7_copyOf_1904c_3 : decode cJ7_copyOf_1904c 3 = .ok (.invokevirtual 86, 3) := by decide +kernel
theorem dJ7_copyOf_1904c_6 : decode cJ7_copyOf_1904c 6 = .ok (.invokestatic 300, 3) := by decide +kernel
theorem dJ7_copyOf_1904c_9 : decode cJ7_copyOf_1904c 9 = .ok (.areturn, 1) := by decide +kernel
theorem dJ7_copyOf_6403c_0 : decode cJ7_copyOf_6403c 0 = .ok (.aload_n 2, 1) := by decide +kernel
theorem dJ7_copyOf_6403c_1 : decode cJ7_copyOf_6403c 1 = .ok (.ldc 110, 2) := by decide +kernel
theorem dJ7_copyOf_6403c_3 : decode cJ7_copyOf_6403c 3 = .ok (.if_acmp .ne 10, 3) := by decide +kernel
theorem dJ7_copyOf_6403c_6 : decode cJ7_copyOf_6403c 6 = .ok (.iload_n 1, 1) := by decide +kernel
theorem dJ7_copyOf_6403c_7 : decode cJ7_copyOf_6403c 7 = .ok (.anewarray 2, 3) := by decide +kernel
theorem dJ7_copyOf_6403c_10 : decode cJ7_copyOf_6403c 10 = .ok (.goto 14, 3) := by decide +kernel
theorem dJ7_copyOf_6403c_13 : decode cJ7_copyOf_6403c 13 = .ok (.aload_n 2, 1) := by decide +kernel
theorem dJ7_copyOf_6403c_14 : decode cJ7_copyOf_6403c 14 = .ok (.invokevirtual 90, 3) := by decide +kernel
theorem dJ7_copyOf_6403c_17 : decode cJ7_copyOf_6403c 17 = .ok (.iload_n 1, 1) := by decide +kernel
theorem dJ7_copyOf_6403c_18 : decode cJ7_copyOf_6403c 18 = .ok (.invokestatic 95, 3) := by decide +kernel
theorem dJ7_copyOf_6403c_21 : decode cJ7_copyOf_6403c 21 = .ok (.checkcast 110, 3) := by decide +kernel
theorem dJ7_copyOf_6403c_24 : decode cJ7_copyOf_6403c 24 = .ok (.astore_n 3, 1) := by decide +kernel
theorem dJ7_copyOf_6403c_25 : decode cJ7_copyOf_6403c 25 = .ok (.aload_n 0, 1) := by decide +kernel
theorem dJ7_copyOf_6403c_26 : decode cJ7_copyOf_6403c 26 = .ok (.iconst 0, 1) := by decide +kernel
theorem dJ7_copyOf_6403c_27 : decode cJ7_copyOf_6403c 27 = .ok (.aload_n 3, 1) := by decide +kernel
theorem dJ7_copyOf_6403c_28 : decode cJ7_copyOf_6403c 28 = .ok (.iconst 0, 1) := by decide +kernel
theorem dJ7_copyOf_6403c_29 : decode cJ7_copyOf_6403c 29 = .ok (.aload_n 0, 1) := by decide +kernel
theorem dJ7_copyOf_6403c_30 : decode cJ7_copyOf_6403c 30 = .ok (.arraylength, 1) := by decide +kernel
theorem dJ7_copyOf_6403c_31 : decode cJ7_copyOf_6403c 31 = .ok (.iload_n 1, 1) := by decide +kernel
theorem dJ7_copyOf_6403c_32 : decode cJ7_copyOf_6403c 32 = .ok (.invokestatic 304, 3) := by decide +kernel
theorem dJ7_copyOf_6403c_35 : decode cJ7_copyOf_6403c 35 = .ok (.invokestatic 150, 3) := by decide +kernel
theorem dJ7_copyOf_6403c_38 : decode cJ7_copyOf_6403c 38 = .ok (.aload_n 3, 1) := by decide +kernel
theorem dJ7_copyOf_6403c_39 : decode cJ7_copyOf_6403c 39 = .ok (.areturn, 1) := by decide +kernel
theorem dJ7_copyOf_59c91_0 : decode cJ7_copyOf_59c91 0 = .ok (.iload_n 1, 1) := by decide +kernel
theorem dJ7_copyOf_59c91_1 : decode cJ7_copyOf_59c91 1 = .ok (.aload_n 0, 1) := by decide +kernel
theorem dJ7_copyOf_59c91_2 : decode cJ7_copyOf_59c91 2 = .ok (.arraylength, 1) := by decide +kernel
theorem dJ7_copyOf_59c91_3 : decode cJ7_copyOf_59c91 3 = .ok (.if_icmp .ne 11, 3) := by decide +kernel
theorem dJ7_copyOf_59c91_6 : decode cJ7_copyOf_59c91 6 = .ok (.aload_n 0, 1) := by decide +kernel
theorem dJ7_copyOf_59c91_7 : decode cJ7_copyOf_59c91 7 = .ok (.invokevirtual 316, 3) := by decide +kernel
theorem dJ7_copyOf_59c91_10 : decode cJ7_copyOf_59c91 10 = .ok (.checkcast 317, 3) := by decide +kernel
theorem dJ7_copyOf_59c91_13 : decode cJ7_copyOf_59c91 13 = .ok (.areturn, 1) := by decide +kernel
theorem dJ7_copyOf_59c91_14 : decode cJ7_copyOf_59c91 14 = .ok (.iload_n 1, 1) := by decide +kernel
theorem dJ7_copyOf_59c91_15 : decode cJ7_copyOf_59c91 15 = .ok (.newarray .int, 2) := by decide +kernel
theorem dJ7_copyOf_59c91_17 : decode cJ7_copyOf_59c91 17 = .ok (.astore_n 2, 1) := by decide +kernel
theorem dJ7_copyOf_59c91_18 : decode cJ7_copyOf_59c91 18 = .ok (.aload_n 0, 1) := by decide +kernel
theorem dJ7_copyOf_59c91_19 : decode cJ7_copyOf_59c91 19 = .ok (.iconst 0, 1) := by decide +kernel
theorem dJ7_copyOf_59c91_20 : decode cJ7_copyOf_59c91 20 = .ok (.aload_n 2, 1) := by decide +kernel
theorem dJ7_copyOf_59c91_21 : decode cJ7_copyOf_59c91 21 = .ok (.iconst 0, 1) := by decide +kernel
theorem dJ7_copyOf_59c91_22 : decode cJ7_copyOf_59c91 22 = .ok (.aload_n 0, 1) := by decide +kernel
theorem dJ7_copyOf_59c91_23 : decode cJ7_copyOf_59c91 23 = .ok (.arraylength, 1) := by decide +kernel
theorem dJ7_copyOf_59c91_24 : decode cJ7_copyOf_59c91 24 = .ok (.iload_n 1, 1) := by decide +kernel
theorem dJ7_copyOf_59c91_25 : decode cJ7_copyOf_59c91 25 = .ok (.invokestatic 304, 3) := by decide +kernel
theorem dJ7_copyOf_59c91_28 : decode cJ7_copyOf_59c91 28 = .ok (.invokestatic 150, 3) := by decide +kernel
theorem dJ7_copyOf_59c91_31 : decode cJ7_copyOf_59c91 31 = .ok (.aload_n 2, 1) := by decide +kernel
theorem dJ7_copyOf_59c91_32 : decode cJ7_copyOf_59c91 32 = .ok (.areturn, 1) := by decide +kernel
theorem dJ15_checkIndex_7cf53_0 : decode cJ15_checkIndex_7cf53 0 = .ok (.iload_n 0, 1) := by decide +kernel
theorem dJ15_checkIndex_7cf53_1 : decode cJ15_checkIndex_7cf53 1 = .ok (.iload_n 1, 1) := by decide +kernel
theorem dJ15_checkIndex_7cf53_2 : decode cJ15_checkIndex_7cf53 2 = .ok (.aconst_null, 1) := by decide +kernel
theorem dJ15_checkIndex_7cf53_3 : decode cJ15_checkIndex_7cf53 3 = .ok (.invokestatic 105, 3) := by decide +kernel
theorem dJ15_checkIndex_7cf53_6 : decode cJ15_checkIndex_7cf53 6 = .ok (.ireturn, 1) := by decide +kernel
theorem dJ8_newLength_cabcc_0 : decode cJ8_newLength_cabcc 0 = .ok (.iload_n 0, 1) := by decide +kernel
theorem dJ8_newLength_cabcc_1 : decode cJ8_newLength_cabcc 1 = .ok (.iload_n 1, 1) := by decide +kernel
theorem dJ8_newLength_cabcc_2 : decode cJ8_newLength_cabcc 2 = .ok (.iload_n 2, 1) := by decide +kernel
theorem dJ8_newLength_cabcc_3 : decode cJ8_newLength_cabcc 3 = .ok (.invokestatic 194, 3) := by decide +kernel
theorem dJ8_newLength_cabcc_6 : decode cJ8_newLength_cabcc 6 = .ok (.iadd, 1) := by decide +kernel
theorem dJ8_newLength_cabcc_7 : decode cJ8_newLength_cabcc 7 = .ok (.istore_n 3, 1) := by decide +kernel
theorem dJ8_newLength_cabcc_8 : decode cJ8_newLength_cabcc 8 = .ok (.iconst 0, 1) := by decide +kernel
theorem dJ8_newLength_cabcc_9 : decode cJ8_newLength_cabcc 9 = .ok (.iload_n 3, 1) := by decide +kernel
theorem dJ8_newLength_cabcc_10 : decode cJ8_newLength_cabcc 10 = .ok (.if_icmp .ge 11, 3) := by decide +kernel
theorem dJ8_newLength_cabcc_13 : decode cJ8_newLength_cabcc 13 = .ok (.iload_n 3, 1) := by decide +kernel
theorem dJ8_newLength_cabcc_14 : decode cJ8_newLength_cabcc 14 = .ok (.ldc 200, 2) := by decide +kernel
theorem dJ8_newLength_cabcc_16 : decode cJ8_newLength_cabcc 16 = .ok (.if_icmp .gt 5, 3) := by decide +kernel
theorem dJ8_newLength_cabcc_19 : decode cJ8_newLength_cabcc 19 = .ok (.iload_n 3, 1) := by decide +kernel
theorem dJ8_newLength_cabcc_20 : decode cJ8_newLength_cabcc 20 = .ok (.ireturn, 1) := by decide +kernel
theorem dJ8_newLength_cabcc_21 : decode cJ8_newLength_cabcc 21 = .ok (.iload_n 0, 1) := by decide +kernel
theorem dJ8_newLength_cabcc_22 : decode cJ8_newLength_cabcc 22 = .ok (.iload_n 1, 1) := by decide +kernel
theorem dJ8_newLength_cabcc_23 : decode cJ8_newLength_cabcc 23 = .ok (.invokestatic 201, 3) := by decide +kernel
theorem dJ8_newLength_cabcc_26 : decode cJ8_newLength_cabcc 26 = .ok (.ireturn, 1) := by decide +kernel
theorem dJ8_hugeLength_7cf53_0 : decode cJ8_hugeLength_7cf53 0 = .ok (.iload_n 0, 1) := by decide +kernel
theorem dJ8_hugeLength_7cf53_1 : decode cJ8_hugeLength_7cf53 1 = .ok (.iload_n 1, 1) := by decide +kernel
theorem dJ8_hugeLength_7cf53_2 : decode cJ8_hugeLength_7cf53 2 = .ok (.iadd, 1) := by decide +kernel
theorem dJ8_hugeLength_7cf53_3 : decode cJ8_hugeLength_7cf53 3 = .ok (.istore_n 2, 1) := by decide +kernel
theorem dJ8_hugeLength_7cf53_4 : decode cJ8_hugeLength_7cf53 4 = .ok (.iload_n 2, 1) := by decide +kernel
theorem dJ8_hugeLength_7cf53_5 : decode cJ8_hugeLength_7cf53 5 = .ok (.ifCond .ge 44, 3) := by decide +kernel
theorem dJ8_hugeLength_7cf53_8 : decode cJ8_hugeLength_7cf53 8 = .ok (.new 204, 3) := by decide +kernel
theorem dJ8_hugeLength_7cf53_11 : decode cJ8_hugeLength_7cf53 11 = .ok (.dup, 1) := by decide +kernel
theorem dJ8_hugeLength_7cf53_12 : decode cJ8_hugeLength_7cf53 12 = .ok (.new 89, 3) := by decide +kernel
theorem dJ8_hugeLength_7cf53_15 : decode cJ8_hugeLength_7cf53 15 = .ok (.dup, 1) := by decide +kernel
theorem dJ8_hugeLength_7cf53_16 : decode cJ8_hugeLength_7cf53 16 = .ok (.invokespecial 91, 3) := by decide +kernel
theorem dJ8_hugeLength_7cf53_19 : decode cJ8_hugeLength_7cf53 19 = .ok (.ldc 206, 2) := by decide +kernel
theorem dJ8_hugeLength_7cf53_21 : decode cJ8_hugeLength_7cf53 21 = .ok (.invokevirtual 94, 3) := by decide +kernel
theorem dJ8_hugeLength_7cf53_24 : decode cJ8_hugeLength_7cf53 24 = .ok (.iload_n 0, 1) := by decide +kernel
theorem dJ8_hugeLength_7cf53_25 : decode cJ8_hugeLength_7cf53 25 = .ok (.invokevirtual 98, 3) := by decide +kernel
theorem dJ8_hugeLength_7cf53_28 : decode cJ8_hugeLength_7cf53 28 = .ok (.ldc 208, 2) := by decide +kernel
theorem dJ8_hugeLength_7cf53_30 : decode cJ8_hugeLength_7cf53 30 = .ok (.invokevirtual 94, 3) := by decide +kernel
theorem dJ8_hugeLength_7cf53_33 : decode cJ8_hugeLength_7cf53 33 = .ok (.iload_n 1, 1) := by decide +kernel
theorem dJ8_hugeLength_7cf53_34 : decode cJ8_hugeLength_7cf53 34 = .ok (.invokevirtual 98, 3) := by decide +kernel
theorem dJ8_hugeLength_7cf53_37 : decode cJ8_hugeLength_7cf53 37 = .ok (.ldc 210, 2) := by decide +kernel
theorem dJ8_hugeLength_7cf53_39 : decode cJ8_hugeLength_7cf53 39 = .ok (.invokevirtual 94, 3) := by decide +kernel
theorem dJ8_hugeLength_7cf53_42 : decode cJ8_hugeLength_7cf53 42 = .ok (.invokevirtual 101, 3) := by decide +kernel
theorem dJ8_hugeLength_7cf53_45 : decode cJ8_hugeLength_7cf53 45 = .ok (.invokespecial 212, 3) := by decide +kernel
theorem dJ8_hugeLength_7cf53_48 : decode cJ8_hugeLength_7cf53 48 = .ok (.athrow, 1) := by decide +kernel
theorem dJ8_hugeLength_7cf53_49 : decode cJ8_hugeLength_7cf53 49 = .ok (.iload_n 2, 1) := by decide +kernel
theorem dJ8_hugeLength_7cf53_50 : decode cJ8_hugeLength_7cf53 50 = .ok (.ldc 200, 2) := by decide +kernel
theorem dJ8_hugeLength_7cf53_52 : decode cJ8_hugeLength_7cf53 52 = .ok (.if_icmp .gt 6, 3) := by decide +kernel
theorem dJ8_hugeLength_7cf53_55 : decode cJ8_hugeLength_7cf53 55 = .ok (.ldc 200, 2) := by decide +kernel
theorem dJ8_hugeLength_7cf53_57 : decode cJ8_hugeLength_7cf53 57 = .ok (.ireturn, 1) := by decide +kernel
theorem dJ8_hugeLength_7cf53_58 : decode cJ8_hugeLength_7cf53 58 = .ok (.iload_n 2, 1) := by decide +kernel
theorem dJ8_hugeLength_7cf53_59 : decode cJ8_hugeLength_7cf53 59 = .ok (.ireturn, 1) := by decide +kernel
theorem dJ3_checkIndex_8e157_0 : decode cJ3_checkIndex_8e157 0 = .ok (.iload_n 0, 1) := by decide +kernel
theorem dJ3_checkIndex_8e157_1 : decode cJ3_checkIndex_8e157 1 = .ok (.ifCond .lt 8, 3) := by decide +kernel
theorem dJ3_checkIndex_8e157_4 : decode cJ3_checkIndex_8e157 4 = .ok (.iload_n 0, 1) := by decide +kernel
theorem dJ3_checkIndex_8e157_5 : decode cJ3_checkIndex_8e157 5 = .ok (.iload_n 1, 1) := by decide +kernel
theorem dJ3_checkIndex_8e157_6 : decode cJ3_checkIndex_8e157 6 = .ok (.if_icmp .lt 10, 3) := by decide +kernel
theorem dJ3_checkIndex_8e157_9 : decode cJ3_checkIndex_8e157 9 = .ok (.aload_n 2, 1) := by decide +kernel
theorem dJ3_checkIndex_8e157_10 : decode cJ3_checkIndex_8e157 10 = .ok (.iload_n 0, 1) := by decide +kernel
theorem dJ3_checkIndex_8e157_11 : decode cJ3_checkIndex_8e157 11 = .ok (.iload_n 1, 1) := by decide +kernel
theorem dJ3_checkIndex_8e157_12 : decode cJ3_checkIndex_8e157 12 = .ok (.invokestatic 95, 3) := by decide +kernel
theorem dJ3_checkIndex_8e157_15 : decode cJ3_checkIndex_8e157 15 = .ok (.athrow, 1) := by decide +kernel
theorem dJ3_checkIndex_8e157_16 : decode cJ3_checkIndex_8e157 16 = .ok (.iload_n 0, 1) := by decide +kernel
theorem dJ3_checkIndex_8e157_17 : decode cJ3_checkIndex_8e157 17 = .ok (.ireturn, 1) := by decide +kernel
