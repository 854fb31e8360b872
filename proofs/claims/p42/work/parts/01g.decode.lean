theorem dX6_init_0 : decode cX6_init 0 = .ok (.aload_n 0, 1) := by decide +kernel
theorem dX6_init_1 : decode cX6_init 1 = .ok (.invokespecial 1, 3) := by decide +kernel
theorem dX6_init_4 : decode cX6_init 4 = .ok (.aload_n 0, 1) := by decide +kernel
theorem dX6_init_5 : decode cX6_init 5 = .ok (.new 7, 3) := by decide +kernel
theorem dX6_init_8 : decode cX6_init 8 = .ok (.dup, 1) := by decide +kernel
theorem dX6_init_9 : decode cX6_init 9 = .ok (.invokespecial 9, 3) := by decide +kernel
theorem dX6_init_12 : decode cX6_init 12 = .ok (.putfield 10, 3) := by decide +kernel
theorem dX6_init_15 : decode cX6_init 15 = .ok (.aload_n 0, 1) := by decide +kernel
theorem dX6_init_16 : decode cX6_init 16 = .ok (.new 7, 3) := by decide +kernel
theorem dX6_init_19 : decode cX6_init 19 = .ok (.dup, 1) := by decide +kernel
theorem dX6_init_20 : decode cX6_init 20 = .ok (.invokespecial 9, 3) := by decide +kernel
theorem dX6_init_23 : decode cX6_init 23 = .ok (.putfield 16, 3) := by decide +kernel
theorem dX6_init_26 : decode cX6_init 26 = .ok (.aload_n 0, 1) := by decide +kernel
theorem dX6_init_27 : decode cX6_init 27 = .ok (.new 7, 3) := by decide +kernel
theorem dX6_init_30 : decode cX6_init 30 = .ok (.dup, 1) := by decide +kernel
theorem dX6_init_31 : decode cX6_init 31 = .ok (.invokespecial 9, 3) := by decide +kernel
theorem dX6_init_34 : decode cX6_init 34 = .ok (.putfield 19, 3) := by decide +kernel
theorem dX6_init_37 : decode cX6_init 37 = .ok (.aload_n 0, 1) := by decide +kernel
theorem dX6_init_38 : decode cX6_init 38 = .ok (.new 22, 3) := by decide +kernel
theorem dX6_init_41 : decode cX6_init 41 = .ok (.dup, 1) := by decide +kernel
theorem dX6_init_42 : decode cX6_init 42 = .ok (.invokespecial 24, 3) := by decide +kernel
theorem dX6_init_45 : decode cX6_init 45 = .ok (.putfield 25, 3) := by decide +kernel
theorem dX6_init_48 : decode cX6_init 48 = .ok (.aload_n 0, 1) := by decide +kernel
theorem dX6_init_49 : decode cX6_init 49 = .ok (.new 29, 3) := by decide +kernel
theorem dX6_init_52 : decode cX6_init 52 = .ok (.dup, 1) := by decide +kernel
theorem dX6_init_53 : decode cX6_init 53 = .ok (.invokespecial 31, 3) := by decide +kernel
theorem dX6_init_56 : decode cX6_init 56 = .ok (.putfield 32, 3) := by decide +kernel
theorem dX6_init_59 : decode cX6_init 59 = .ok (.aload_n 0, 1) := by decide +kernel
theorem dX6_init_60 : decode cX6_init 60 = .ok (.iconst 0, 1) := by decide +kernel
theorem dX6_init_61 : decode cX6_init 61 = .ok (.putfield 36, 3) := by decide +kernel
theorem dX6_init_64 : decode cX6_init 64 = .ok (.return_, 1) := by decide +kernel
theorem dX6_addCustomer_0 : decode cX6_addCustomer 0 = .ok (.iload_n 1, 1) := by decide +kernel
theorem dX6_addCustomer_1 : decode cX6_addCustomer 1 = .ok (.iconst 0, 1) := by decide +kernel
theorem dX6_addCustomer_2 : decode cX6_addCustomer 2 = .ok (.iconst 2, 1) := by decide +kernel
theorem dX6_addCustomer_3 : decode cX6_addCustomer 3 = .ok (.invokestatic 40, 3) := by decide +kernel
theorem dX6_addCustomer_6 : decode cX6_addCustomer 6 = .ok (.iload_n 2, 1) := by decide +kernel
theorem dX6_addCustomer_7 : decode cX6_addCustomer 7 = .ok (.iconst 0, 1) := by decide +kernel
theorem dX6_addCustomer_8 : decode cX6_addCustomer 8 = .ok (.iconst 2, 1) := by decide +kernel
theorem dX6_addCustomer_9 : decode cX6_addCustomer 9 = .ok (.invokestatic 40, 3) := by decide +kernel
theorem dX6_addCustomer_12 : decode cX6_addCustomer 12 = .ok (.iload_n 3, 1) := by decide +kernel
theorem dX6_addCustomer_13 : decode cX6_addCustomer 13 = .ok (.iconst 0, 1) := by decide +kernel
theorem dX6_addCustomer_14 : decode cX6_addCustomer 14 = .ok (.sipush 3000, 3) := by decide +kernel
theorem dX6_addCustomer_17 : decode cX6_addCustomer 17 = .ok (.invokestatic 40, 3) := by decide +kernel
theorem dX6_addCustomer_20 : decode cX6_addCustomer 20 = .ok (.aload_n 0, 1) := by decide +kernel
theorem dX6_addCustomer_21 : decode cX6_addCustomer 21 = .ok (.getfield 10, 3) := by decide +kernel
theorem dX6_addCustomer_24 : decode cX6_addCustomer 24 = .ok (.invokevirtual 44, 3) := by decide +kernel
theorem dX6_addCustomer_27 : decode cX6_addCustomer 27 = .ok (.bipush 6, 2) := by decide +kernel
theorem dX6_addCustomer_29 : decode cX6_addCustomer 29 = .ok (.invokestatic 48, 3) := by decide +kernel
theorem dX6_addCustomer_32 : decode cX6_addCustomer 32 = .ok (.aload_n 0, 1) := by decide +kernel
theorem dX6_addCustomer_33 : decode cX6_addCustomer 33 = .ok (.getfield 10, 3) := by decide +kernel
theorem dX6_addCustomer_36 : decode cX6_addCustomer 36 = .ok (.new 52, 3) := by decide +kernel
theorem dX6_addCustomer_39 : decode cX6_addCustomer 39 = .ok (.dup, 1) := by decide +kernel
theorem dX6_addCustomer_40 : decode cX6_addCustomer 40 = .ok (.iload_n 1, 1) := by decide +kernel
theorem dX6_addCustomer_41 : decode cX6_addCustomer 41 = .ok (.iload_n 2, 1) := by decide +kernel
theorem dX6_addCustomer_42 : decode cX6_addCustomer 42 = .ok (.iload_n 3, 1) := by decide +kernel
theorem dX6_addCustomer_43 : decode cX6_addCustomer 43 = .ok (.invokespecial 54, 3) := by decide +kernel
theorem dX6_addCustomer_46 : decode cX6_addCustomer 46 = .ok (.invokevirtual 56, 3) := by decide +kernel
theorem dX6_addCustomer_49 : decode cX6_addCustomer 49 = .ok (.pop, 1) := by decide +kernel
theorem dX6_addCustomer_50 : decode cX6_addCustomer 50 = .ok (.aload_n 0, 1) := by decide +kernel
theorem dX6_addCustomer_51 : decode cX6_addCustomer 51 = .ok (.getfield 10, 3) := by decide +kernel
theorem dX6_addCustomer_54 : decode cX6_addCustomer 54 = .ok (.invokevirtual 44, 3) := by decide +kernel
theorem dX6_addCustomer_57 : decode cX6_addCustomer 57 = .ok (.iconst 1, 1) := by decide +kernel
theorem dX6_addCustomer_58 : decode cX6_addCustomer 58 = .ok (.isub, 1) := by decide +kernel
theorem dX6_addCustomer_59 : decode cX6_addCustomer 59 = .ok (.ireturn, 1) := by decide +kernel
theorem dX6_setRule_0 : decode cX6_setRule 0 = .ok (.aload_n 0, 1) := by decide +kernel
theorem dX6_setRule_1 : decode cX6_setRule 1 = .ok (.iload_n 1, 1) := by decide +kernel
theorem dX6_setRule_2 : decode cX6_setRule 2 = .ok (.invokevirtual 60, 3) := by decide +kernel
theorem dX6_setRule_5 : decode cX6_setRule 5 = .ok (.astore_n 3, 1) := by decide +kernel
theorem dX6_setRule_6 : decode cX6_setRule 6 = .ok (.iload_n 2, 1) := by decide +kernel
theorem dX6_setRule_7 : decode cX6_setRule 7 = .ok (.iconst 0, 1) := by decide +kernel
theorem dX6_setRule_8 : decode cX6_setRule 8 = .ok (.iconst 2, 1) := by decide +kernel
theorem dX6_setRule_9 : decode cX6_setRule 9 = .ok (.invokestatic 40, 3) := by decide +kernel
theorem dX6_setRule_12 : decode cX6_setRule 12 = .ok (.aload_n 3, 1) := by decide +kernel
theorem dX6_setRule_13 : decode cX6_setRule 13 = .ok (.getfield 64, 3) := by decide +kernel
theorem dX6_setRule_16 : decode cX6_setRule 16 = .ok (.istore 4, 2) := by decide +kernel
theorem dX6_setRule_18 : decode cX6_setRule 18 = .ok (.aload_n 3, 1) := by decide +kernel
theorem dX6_setRule_19 : decode cX6_setRule 19 = .ok (.iload_n 2, 1) := by decide +kernel
theorem dX6_setRule_20 : decode cX6_setRule 20 = .ok (.putfield 64, 3) := by decide +kernel
theorem dX6_setRule_23 : decode cX6_setRule 23 = .ok (.iload 4, 2) := by decide +kernel
theorem dX6_setRule_25 : decode cX6_setRule 25 = .ok (.ireturn, 1) := by decide +kernel
theorem dX6_setRate_0 : decode cX6_setRate 0 = .ok (.aload_n 0, 1) := by decide +kernel
theorem dX6_setRate_1 : decode cX6_setRate 1 = .ok (.iload_n 1, 1) := by decide +kernel
theorem dX6_setRate_2 : decode cX6_setRate 2 = .ok (.invokevirtual 60, 3) := by decide +kernel
theorem dX6_setRate_5 : decode cX6_setRate 5 = .ok (.astore_n 3, 1) := by decide +kernel
theorem dX6_setRate_6 : decode cX6_setRate 6 = .ok (.iload_n 2, 1) := by decide +kernel
theorem dX6_setRate_7 : decode cX6_setRate 7 = .ok (.iconst 0, 1) := by decide +kernel
theorem dX6_setRate_8 : decode cX6_setRate 8 = .ok (.sipush 3000, 3) := by decide +kernel
theorem dX6_setRate_11 : decode cX6_setRate 11 = .ok (.invokestatic 40, 3) := by decide +kernel
theorem dX6_setRate_14 : decode cX6_setRate 14 = .ok (.aload_n 3, 1) := by decide +kernel
theorem dX6_setRate_15 : decode cX6_setRate 15 = .ok (.getfield 67, 3) := by decide +kernel
theorem dX6_setRate_18 : decode cX6_setRate 18 = .ok (.istore 4, 2) := by decide +kernel
theorem dX6_setRate_20 : decode cX6_setRate 20 = .ok (.aload_n 3, 1) := by decide +kernel
theorem dX6_setRate_21 : decode cX6_setRate 21 = .ok (.iload_n 2, 1) := by decide +kernel
theorem dX6_setRate_22 : decode cX6_setRate 22 = .ok (.putfield 67, 3) := by decide +kernel
theorem dX6_setRate_25 : decode cX6_setRate 25 = .ok (.iload 4, 2) := by decide +kernel
theorem dX6_setRate_27 : decode cX6_setRate 27 = .ok (.ireturn, 1) := by decide +kernel
theorem dX6_pauseReminders_0 : decode cX6_pauseReminders 0 = .ok (.aload_n 0, 1) := by decide +kernel
theorem dX6_pauseReminders_1 : decode cX6_pauseReminders 1 = .ok (.iload_n 1, 1) := by decide +kernel
theorem dX6_pauseReminders_2 : decode cX6_pauseReminders 2 = .ok (.invokevirtual 60, 3) := by decide +kernel
theorem dX6_pauseReminders_5 : decode cX6_pauseReminders 5 = .ok (.astore_n 3, 1) := by decide +kernel
theorem dX6_pauseReminders_6 : decode cX6_pauseReminders 6 = .ok (.iload_n 2, 1) := by decide +kernel
theorem dX6_pauseReminders_7 : decode cX6_pauseReminders 7 = .ok (.iconst 0, 1) := by decide +kernel
theorem dX6_pauseReminders_8 : decode cX6_pauseReminders 8 = .ok (.sipush 200, 3) := by decide +kernel
theorem dX6_pauseReminders_11 : decode cX6_pauseReminders 11 = .ok (.invokestatic 40, 3) := by decide +kernel
theorem dX6_pauseReminders_14 : decode cX6_pauseReminders 14 = .ok (.aload_n 3, 1) := by decide +kernel
theorem dX6_pauseReminders_15 : decode cX6_pauseReminders 15 = .ok (.aload_n 0, 1) := by decide +kernel
theorem dX6_pauseReminders_16 : decode cX6_pauseReminders 16 = .ok (.getfield 36, 3) := by decide +kernel
theorem dX6_pauseReminders_19 : decode cX6_pauseReminders 19 = .ok (.iload_n 2, 1) := by decide +kernel
theorem dX6_pauseReminders_20 : decode cX6_pauseReminders 20 = .ok (.iadd, 1) := by decide +kernel
theorem dX6_pauseReminders_21 : decode cX6_pauseReminders 21 = .ok (.putfield 70, 3) := by decide +kernel
theorem dX6_pauseReminders_24 : decode cX6_pauseReminders 24 = .ok (.aload_n 3, 1) := by decide +kernel
theorem dX6_pauseReminders_25 : decode cX6_pauseReminders 25 = .ok (.getfield 70, 3) := by decide +kernel
theorem dX6_pauseReminders_28 : decode cX6_pauseReminders 28 = .ok (.ireturn, 1) := by decide +kernel
theorem dX6_today_0 : decode cX6_today 0 = .ok (.aload_n 0, 1) := by decide +kernel
theorem dX6_today_1 : decode cX6_today 1 = .ok (.getfield 36, 3) := by decide +kernel
theorem dX6_today_4 : decode cX6_today 4 = .ok (.ireturn, 1) := by decide +kernel
theorem dX6_passDays_0 : decode cX6_passDays 0 = .ok (.iload_n 1, 1) := by decide +kernel
theorem dX6_passDays_1 : decode cX6_passDays 1 = .ok (.iconst 1, 1) := by decide +kernel
theorem dX6_passDays_2 : decode cX6_passDays 2 = .ok (.sipush 400, 3) := by decide +kernel
theorem dX6_passDays_5 : decode cX6_passDays 5 = .ok (.invokestatic 40, 3) := by decide +kernel
theorem dX6_passDays_8 : decode cX6_passDays 8 = .ok (.aload_n 0, 1) := by decide +kernel
theorem dX6_passDays_9 : decode cX6_passDays 9 = .ok (.getfield 36, 3) := by decide +kernel
theorem dX6_passDays_12 : decode cX6_passDays 12 = .ok (.iload_n 1, 1) := by decide +kernel
theorem dX6_passDays_13 : decode cX6_passDays 13 = .ok (.iadd, 1) := by decide +kernel
theorem dX6_passDays_14 : decode cX6_passDays 14 = .ok (.sipush 1460, 3) := by decide +kernel
theorem dX6_passDays_17 : decode cX6_passDays 17 = .ok (.if_icmp .gt 7, 3) := by decide +kernel
theorem dX6_passDays_20 : decode cX6_passDays 20 = .ok (.iconst 1, 1) := by decide +kernel
theorem dX6_passDays_21 : decode cX6_passDays 21 = .ok (.goto 4, 3) := by decide +kernel
theorem dX6_passDays_24 : decode cX6_passDays 24 = .ok (.iconst 0, 1) := by decide +kernel
theorem dX6_passDays_25 : decode cX6_passDays 25 = .ok (.invokestatic 73, 3) := by decide +kernel
theorem dX6_passDays_28 : decode cX6_passDays 28 = .ok (.iconst 0, 1) := by decide +kernel
theorem dX6_passDays_29 : decode cX6_passDays 29 = .ok (.istore_n 2, 1) := by decide +kernel
theorem dX6_passDays_30 : decode cX6_passDays 30 = .ok (.iload_n 2, 1) := by decide +kernel
theorem dX6_passDays_31 : decode cX6_passDays 31 = .ok (.iload_n 1, 1) := by decide +kernel
theorem dX6_passDays_32 : decode cX6_passDays 32 = .ok (.if_icmp .ge 13, 3) := by decide +kernel
theorem dX6_passDays_35 : decode cX6_passDays 35 = .ok (.aload_n 0, 1) := by decide +kernel
theorem dX6_passDays_36 : decode cX6_passDays 36 = .ok (.invokevirtual 77, 3) := by decide +kernel
theorem dX6_passDays_39 : decode cX6_passDays 39 = .ok (.iinc 2 1, 3) := by decide +kernel
theorem dX6_passDays_42 : decode cX6_passDays 42 = .ok (.goto (-12), 3) := by decide +kernel
theorem dX6_passDays_45 : decode cX6_passDays 45 = .ok (.aload_n 0, 1) := by decide +kernel
theorem dX6_passDays_46 : decode cX6_passDays 46 = .ok (.getfield 36, 3) := by decide +kernel
theorem dX6_passDays_49 : decode cX6_passDays 49 = .ok (.ireturn, 1) := by decide +kernel
theorem dX6_passOneDay_0 : decode cX6_passOneDay 0 = .ok (.iconst 0, 1) := by decide +kernel
theorem dX6_passOneDay_1 : decode cX6_passOneDay 1 = .ok (.istore_n 1, 1) := by decide +kernel
theorem dX6_passOneDay_2 : decode cX6_passOneDay 2 = .ok (.iload_n 1, 1) := by decide +kernel
theorem dX6_passOneDay_3 : decode cX6_passOneDay 3 = .ok (.aload_n 0, 1) := by decide +kernel
theorem dX6_passOneDay_4 : decode cX6_passOneDay 4 = .ok (.getfield 16, 3) := by decide +kernel
theorem dX6_passOneDay_7 : decode cX6_passOneDay 7 = .ok (.invokevirtual 44, 3) := by decide +kernel
theorem dX6_passOneDay_10 : decode cX6_passOneDay 10 = .ok (.if_icmp .ge 27, 3) := by decide +kernel
theorem dX6_passOneDay_13 : decode cX6_passOneDay 13 = .ok (.aload_n 0, 1) := by decide +kernel
theorem dX6_passOneDay_14 : decode cX6_passOneDay 14 = .ok (.getfield 16, 3) := by decide +kernel
theorem dX6_passOneDay_17 : decode cX6_passOneDay 17 = .ok (.iload_n 1, 1) := by decide +kernel
theorem dX6_passOneDay_18 : decode cX6_passOneDay 18 = .ok (.invokevirtual 86, 3) := by decide +kernel
theorem dX6_passOneDay_21 : decode cX6_passOneDay 21 = .ok (.checkcast 90, 3) := by decide +kernel
theorem dX6_passOneDay_24 : decode cX6_passOneDay 24 = .ok (.aload_n 0, 1) := by decide +kernel
theorem dX6_passOneDay_25 : decode cX6_passOneDay 25 = .ok (.getfield 36, 3) := by decide +kernel
theorem dX6_passOneDay_28 : decode cX6_passOneDay 28 = .ok (.invokevirtual 92, 3) := by decide +kernel
theorem dX6_passOneDay_31 : decode cX6_passOneDay 31 = .ok (.iinc 1 1, 3) := by decide +kernel
theorem dX6_passOneDay_34 : decode cX6_passOneDay 34 = .ok (.goto (-32), 3) := by decide +kernel
theorem dX6_passOneDay_37 : decode cX6_passOneDay 37 = .ok (.iconst 0, 1) := by decide +kernel
theorem dX6_passOneDay_38 : decode cX6_passOneDay 38 = .ok (.istore_n 1, 1) := by decide +kernel
theorem dX6_passOneDay_39 : decode cX6_passOneDay 39 = .ok (.iload_n 1, 1) := by decide +kernel
theorem dX6_passOneDay_40 : decode cX6_passOneDay 40 = .ok (.aload_n 0, 1) := by decide +kernel
theorem dX6_passOneDay_41 : decode cX6_passOneDay 41 = .ok (.getfield 16, 3) := by decide +kernel
theorem dX6_passOneDay_44 : decode cX6_passOneDay 44 = .ok (.invokevirtual 44, 3) := by decide +kernel
theorem dX6_passOneDay_47 : decode cX6_passOneDay 47 = .ok (.if_icmp .ge 27, 3) := by decide +kernel
theorem dX6_passOneDay_50 : decode cX6_passOneDay 50 = .ok (.aload_n 0, 1) := by decide +kernel
theorem dX6_passOneDay_51 : decode cX6_passOneDay 51 = .ok (.getfield 16, 3) := by decide +kernel
theorem dX6_passOneDay_54 : decode cX6_passOneDay 54 = .ok (.iload_n 1, 1) := by decide +kernel
theorem dX6_passOneDay_55 : decode cX6_passOneDay 55 = .ok (.invokevirtual 86, 3) := by decide +kernel
theorem dX6_passOneDay_58 : decode cX6_passOneDay 58 = .ok (.checkcast 90, 3) := by decide +kernel
theorem dX6_passOneDay_61 : decode cX6_passOneDay 61 = .ok (.aload_n 0, 1) := by decide +kernel
theorem dX6_passOneDay_62 : decode cX6_passOneDay 62 = .ok (.getfield 36, 3) := by decide +kernel
theorem dX6_passOneDay_65 : decode cX6_passOneDay 65 = .ok (.invokevirtual 96, 3) := by decide +kernel
theorem dX6_passOneDay_68 : decode cX6_passOneDay 68 = .ok (.iinc 1 1, 3) := by decide +kernel
theorem dX6_passOneDay_71 : decode cX6_passOneDay 71 = .ok (.goto (-32), 3) := by decide +kernel
theorem dX6_passOneDay_74 : decode cX6_passOneDay 74 = .ok (.aload_n 0, 1) := by decide +kernel
theorem dX6_passOneDay_75 : decode cX6_passOneDay 75 = .ok (.dup, 1) := by decide +kernel
theorem dX6_passOneDay_76 : decode cX6_passOneDay 76 = .ok (.getfield 36, 3) := by decide +kernel
theorem dX6_passOneDay_79 : decode cX6_passOneDay 79 = .ok (.iconst 1, 1) := by decide +kernel
theorem dX6_passOneDay_80 : decode cX6_passOneDay 80 = .ok (.iadd, 1) := by decide +kernel
theorem dX6_passOneDay_81 : decode cX6_passOneDay 81 = .ok (.putfield 36, 3) := by decide +kernel
theorem dX6_passOneDay_84 : decode cX6_passOneDay 84 = .ok (.return_, 1) := by decide +kernel
theorem dX6_postInvoice_0 : decode cX6_postInvoice 0 = .ok (.aload_n 0, 1) := by decide +kernel
theorem dX6_postInvoice_1 : decode cX6_postInvoice 1 = .ok (.iload_n 1, 1) := by decide +kernel
theorem dX6_postInvoice_2 : decode cX6_postInvoice 2 = .ok (.invokevirtual 60, 3) := by decide +kernel
theorem dX6_postInvoice_5 : decode cX6_postInvoice 5 = .ok (.astore 4, 2) := by decide +kernel
theorem dX6_postInvoice_7 : decode cX6_postInvoice 7 = .ok (.iload_n 2, 1) := by decide +kernel
theorem dX6_postInvoice_8 : decode cX6_postInvoice 8 = .ok (.iconst 1, 1) := by decide +kernel
theorem dX6_postInvoice_9 : decode cX6_postInvoice 9 = .ok (.ldc 99, 2) := by decide +kernel
theorem dX6_postInvoice_11 : decode cX6_postInvoice 11 = .ok (.invokestatic 40, 3) := by decide +kernel
theorem dX6_postInvoice_14 : decode cX6_postInvoice 14 = .ok (.iload_n 3, 1) := by decide +kernel
theorem dX6_postInvoice_15 : decode cX6_postInvoice 15 = .ok (.iconst 0, 1) := by decide +kernel
theorem dX6_postInvoice_16 : decode cX6_postInvoice 16 = .ok (.bipush 120, 2) := by decide +kernel
theorem dX6_postInvoice_18 : decode cX6_postInvoice 18 = .ok (.invokestatic 40, 3) := by decide +kernel
theorem dX6_postInvoice_21 : decode cX6_postInvoice 21 = .ok (.aload_n 0, 1) := by decide +kernel
theorem dX6_postInvoice_22 : decode cX6_postInvoice 22 = .ok (.getfield 16, 3) := by decide +kernel
theorem dX6_postInvoice_25 : decode cX6_postInvoice 25 = .ok (.invokevirtual 44, 3) := by decide +kernel
theorem dX6_postInvoice_28 : decode cX6_postInvoice 28 = .ok (.bipush 24, 2) := by decide +kernel
theorem dX6_postInvoice_30 : decode cX6_postInvoice 30 = .ok (.invokestatic 48, 3) := by decide +kernel
theorem dX6_postInvoice_33 : decode cX6_postInvoice 33 = .ok (.aload_n 0, 1) := by decide +kernel
theorem dX6_postInvoice_34 : decode cX6_postInvoice 34 = .ok (.new 90, 3) := by decide +kernel
theorem dX6_postInvoice_37 : decode cX6_postInvoice 37 = .ok (.dup, 1) := by decide +kernel
theorem dX6_postInvoice_38 : decode cX6_postInvoice 38 = .ok (.aload 4, 2) := by decide +kernel
theorem dX6_postInvoice_40 : decode cX6_postInvoice 40 = .ok (.iload_n 2, 1) := by decide +kernel
theorem dX6_postInvoice_41 : decode cX6_postInvoice 41 = .ok (.aload_n 0, 1) := by decide +kernel
theorem dX6_postInvoice_42 : decode cX6_postInvoice 42 = .ok (.getfield 36, 3) := by decide +kernel
theorem dX6_postInvoice_45 : decode cX6_postInvoice 45 = .ok (.iload_n 3, 1) := by decide +kernel
theorem dX6_postInvoice_46 : decode cX6_postInvoice 46 = .ok (.iadd, 1) := by decide +kernel
theorem dX6_postInvoice_47 : decode cX6_postInvoice 47 = .ok (.iconst 0, 1) := by decide +kernel
theorem dX6_postInvoice_48 : decode cX6_postInvoice 48 = .ok (.invokespecial 100, 3) := by decide +kernel
theorem dX6_postInvoice_51 : decode cX6_postInvoice 51 = .ok (.invokevirtual 103, 3) := by decide +kernel
theorem dX6_postInvoice_54 : decode cX6_postInvoice 54 = .ok (.ireturn, 1) := by decide +kernel
theorem dX6_postPayment_0 : decode cX6_postPayment 0 = .ok (.aload_n 0, 1) := by decide +kernel
theorem dX6_postPayment_1 : decode cX6_postPayment 1 = .ok (.iload_n 1, 1) := by decide +kernel
theorem dX6_postPayment_2 : decode cX6_postPayment 2 = .ok (.invokevirtual 60, 3) := by decide +kernel
theorem dX6_postPayment_5 : decode cX6_postPayment 5 = .ok (.astore_n 3, 1) := by decide +kernel
theorem dX6_postPayment_6 : decode cX6_postPayment 6 = .ok (.iload_n 2, 1) := by decide +kernel
theorem dX6_postPayment_7 : decode cX6_postPayment 7 = .ok (.iconst 1, 1) := by decide +kernel
theorem dX6_postPayment_8 : decode cX6_postPayment 8 = .ok (.ldc 99, 2) := by decide +kernel
theorem dX6_postPayment_10 : decode cX6_postPayment 10 = .ok (.invokestatic 40, 3) := by decide +kernel
theorem dX6_postPayment_13 : decode cX6_postPayment 13 = .ok (.aload_n 0, 1) := by decide +kernel
theorem dX6_postPayment_14 : decode cX6_postPayment 14 = .ok (.getfield 19, 3) := by decide +kernel
theorem dX6_postPayment_17 : decode cX6_postPayment 17 = .ok (.invokevirtual 44, 3) := by decide +kernel
theorem dX6_postPayment_20 : decode cX6_postPayment 20 = .ok (.bipush 24, 2) := by decide +kernel
theorem dX6_postPayment_22 : decode cX6_postPayment 22 = .ok (.invokestatic 48, 3) := by decide +kernel
theorem dX6_postPayment_25 : decode cX6_postPayment 25 = .ok (.new 107, 3) := by decide +kernel
theorem dX6_postPayment_28 : decode cX6_postPayment 28 = .ok (.dup, 1) := by decide +kernel
theorem dX6_postPayment_29 : decode cX6_postPayment 29 = .ok (.aload_n 3, 1) := by decide +kernel
theorem dX6_postPayment_30 : decode cX6_postPayment 30 = .ok (.iload_n 2, 1) := by decide +kernel
theorem dX6_postPayment_31 : decode cX6_postPayment 31 = .ok (.invokespecial 109, 3) := by decide +kernel
theorem dX6_postPayment_34 : decode cX6_postPayment 34 = .ok (.astore 4, 2) := by decide +kernel
theorem dX6_postPayment_36 : decode cX6_postPayment 36 = .ok (.aload_n 0, 1) := by decide +kernel
theorem dX6_postPayment_37 : decode cX6_postPayment 37 = .ok (.getfield 19, 3) := by decide +kernel
theorem dX6_postPayment_40 : decode cX6_postPayment 40 = .ok (.aload 4, 2) := by decide +kernel
theorem dX6_postPayment_42 : decode cX6_postPayment 42 = .ok (.invokevirtual 56, 3) := by decide +kernel
theorem dX6_postPayment_45 : decode cX6_postPayment 45 = .ok (.pop, 1) := by decide +kernel
theorem dX6_postPayment_46 : decode cX6_postPayment 46 = .ok (.aload_n 0, 1) := by decide +kernel
theorem dX6_postPayment_47 : decode cX6_postPayment 47 = .ok (.aload 4, 2) := by decide +kernel
theorem dX6_postPayment_49 : decode cX6_postPayment 49 = .ok (.invokevirtual 112, 3) := by decide +kernel
theorem dX6_postPayment_52 : decode cX6_postPayment 52 = .ok (.pop, 1) := by decide +kernel
theorem dX6_postPayment_53 : decode cX6_postPayment 53 = .ok (.aload_n 0, 1) := by decide +kernel
theorem dX6_postPayment_54 : decode cX6_postPayment 54 = .ok (.getfield 19, 3) := by decide +kernel
theorem dX6_postPayment_57 : decode cX6_postPayment 57 = .ok (.invokevirtual 44, 3) := by decide +kernel
theorem dX6_postPayment_60 : decode cX6_postPayment 60 = .ok (.iconst 1, 1) := by decide +kernel
theorem dX6_postPayment_61 : decode cX6_postPayment 61 = .ok (.isub, 1) := by decide +kernel
theorem dX6_postPayment_62 : decode cX6_postPayment 62 = .ok (.ireturn, 1) := by decide +kernel
theorem dX6_allocate_0 : decode cX6_allocate 0 = .ok (.aload_n 0, 1) := by decide +kernel
theorem dX6_allocate_1 : decode cX6_allocate 1 = .ok (.iload_n 1, 1) := by decide +kernel
theorem dX6_allocate_2 : decode cX6_allocate 2 = .ok (.invokevirtual 116, 3) := by decide +kernel
theorem dX6_allocate_5 : decode cX6_allocate 5 = .ok (.astore 4, 2) := by decide +kernel
theorem dX6_allocate_7 : decode cX6_allocate 7 = .ok (.aload_n 0, 1) := by decide +kernel
theorem dX6_allocate_8 : decode cX6_allocate 8 = .ok (.iload_n 2, 1) := by decide +kernel
theorem dX6_allocate_9 : decode cX6_allocate 9 = .ok (.invokevirtual 120, 3) := by decide +kernel
theorem dX6_allocate_12 : decode cX6_allocate 12 = .ok (.astore 5, 2) := by decide +kernel
theorem dX6_allocate_14 : decode cX6_allocate 14 = .ok (.iload_n 3, 1) := by decide +kernel
theorem dX6_allocate_15 : decode cX6_allocate 15 = .ok (.invokestatic 124, 3) := by decide +kernel
theorem dX6_allocate_18 : decode cX6_allocate 18 = .ok (.aload 5, 2) := by decide +kernel
theorem dX6_allocate_20 : decode cX6_allocate 20 = .ok (.getfield 127, 3) := by decide +kernel
theorem dX6_allocate_23 : decode cX6_allocate 23 = .ok (.aload 4, 2) := by decide +kernel
theorem dX6_allocate_25 : decode cX6_allocate 25 = .ok (.getfield 131, 3) := by decide +kernel
theorem dX6_allocate_28 : decode cX6_allocate 28 = .ok (.if_acmp .ne 7, 3) := by decide +kernel
theorem dX6_allocate_31 : decode cX6_allocate 31 = .ok (.iconst 1, 1) := by decide +kernel
theorem dX6_allocate_32 : decode cX6_allocate 32 = .ok (.goto 4, 3) := by decide +kernel
theorem dX6_allocate_35 : decode cX6_allocate 35 = .ok (.iconst 0, 1) := by decide +kernel
theorem dX6_allocate_36 : decode cX6_allocate 36 = .ok (.invokestatic 73, 3) := by decide +kernel
theorem dX6_allocate_39 : decode cX6_allocate 39 = .ok (.iload_n 3, 1) := by decide +kernel
theorem dX6_allocate_40 : decode cX6_allocate 40 = .ok (.aload 4, 2) := by decide +kernel
theorem dX6_allocate_42 : decode cX6_allocate 42 = .ok (.invokevirtual 132, 3) := by decide +kernel
theorem dX6_allocate_45 : decode cX6_allocate 45 = .ok (.if_icmp .gt 7, 3) := by decide +kernel
theorem dX6_allocate_48 : decode cX6_allocate 48 = .ok (.iconst 1, 1) := by decide +kernel
theorem dX6_allocate_49 : decode cX6_allocate 49 = .ok (.goto 4, 3) := by decide +kernel
theorem dX6_allocate_52 : decode cX6_allocate 52 = .ok (.iconst 0, 1) := by decide +kernel
theorem dX6_allocate_53 : decode cX6_allocate 53 = .ok (.invokestatic 73, 3) := by decide +kernel
theorem dX6_allocate_56 : decode cX6_allocate 56 = .ok (.iload_n 3, 1) := by decide +kernel
theorem dX6_allocate_57 : decode cX6_allocate 57 = .ok (.aload 5, 2) := by decide +kernel
theorem dX6_allocate_59 : decode cX6_allocate 59 = .ok (.invokevirtual 135, 3) := by decide +kernel
theorem dX6_allocate_62 : decode cX6_allocate 62 = .ok (.if_icmp .gt 7, 3) := by decide +kernel
theorem dX6_allocate_65 : decode cX6_allocate 65 = .ok (.iconst 1, 1) := by decide +kernel
theorem dX6_allocate_66 : decode cX6_allocate 66 = .ok (.goto 4, 3) := by decide +kernel
theorem dX6_allocate_69 : decode cX6_allocate 69 = .ok (.iconst 0, 1) := by decide +kernel
theorem dX6_allocate_70 : decode cX6_allocate 70 = .ok (.invokestatic 73, 3) := by decide +kernel
theorem dX6_allocate_73 : decode cX6_allocate 73 = .ok (.aload_n 0, 1) := by decide +kernel
theorem dX6_allocate_74 : decode cX6_allocate 74 = .ok (.aload 4, 2) := by decide +kernel
theorem dX6_allocate_76 : decode cX6_allocate 76 = .ok (.iload_n 2, 1) := by decide +kernel
theorem dX6_allocate_77 : decode cX6_allocate 77 = .ok (.iload_n 3, 1) := by decide +kernel
theorem dX6_allocate_78 : decode cX6_allocate 78 = .ok (.invokevirtual 138, 3) := by decide +kernel
theorem dX6_allocate_81 : decode cX6_allocate 81 = .ok (.aload 5, 2) := by decide +kernel
theorem dX6_allocate_83 : decode cX6_allocate 83 = .ok (.invokevirtual 135, 3) := by decide +kernel
theorem dX6_allocate_86 : decode cX6_allocate 86 = .ok (.ireturn, 1) := by decide +kernel
theorem dX6_allocateRest_0 : decode cX6_allocateRest 0 = .ok (.aload_n 0, 1) := by decide +kernel
theorem dX6_allocateRest_1 : decode cX6_allocateRest 1 = .ok (.iload_n 1, 1) := by decide +kernel
theorem dX6_allocateRest_2 : decode cX6_allocateRest 2 = .ok (.invokevirtual 60, 3) := by decide +kernel
theorem dX6_allocateRest_5 : decode cX6_allocateRest 5 = .ok (.astore_n 2, 1) := by decide +kernel
theorem dX6_allocateRest_6 : decode cX6_allocateRest 6 = .ok (.iconst 0, 1) := by decide +kernel
theorem dX6_allocateRest_7 : decode cX6_allocateRest 7 = .ok (.istore_n 3, 1) := by decide +kernel
theorem dX6_allocateRest_8 : decode cX6_allocateRest 8 = .ok (.iconst 0, 1) := by decide +kernel
theorem dX6_allocateRest_9 : decode cX6_allocateRest 9 = .ok (.istore 4, 2) := by decide +kernel
theorem dX6_allocateRest_11 : decode cX6_allocateRest 11 = .ok (.iload 4, 2) := by decide +kernel
theorem dX6_allocateRest_13 : decode cX6_allocateRest 13 = .ok (.aload_n 0, 1) := by decide +kernel
theorem dX6_allocateRest_14 : decode cX6_allocateRest 14 = .ok (.getfield 19, 3) := by decide +kernel
theorem dX6_allocateRest_17 : decode cX6_allocateRest 17 = .ok (.invokevirtual 44, 3) := by decide +kernel
theorem dX6_allocateRest_20 : decode cX6_allocateRest 20 = .ok (.if_icmp .ge 41, 3) := by decide +kernel
theorem dX6_allocateRest_23 : decode cX6_allocateRest 23 = .ok (.aload_n 0, 1) := by decide +kernel
theorem dX6_allocateRest_24 : decode cX6_allocateRest 24 = .ok (.getfield 19, 3) := by decide +kernel
theorem dX6_allocateRest_27 : decode cX6_allocateRest 27 = .ok (.iload 4, 2) := by decide +kernel
theorem dX6_allocateRest_29 : decode cX6_allocateRest 29 = .ok (.invokevirtual 86, 3) := by decide +kernel
theorem dX6_allocateRest_32 : decode cX6_allocateRest 32 = .ok (.checkcast 107, 3) := by decide +kernel
theorem dX6_allocateRest_35 : decode cX6_allocateRest 35 = .ok (.astore 5, 2) := by decide +kernel
theorem dX6_allocateRest_37 : decode cX6_allocateRest 37 = .ok (.aload 5, 2) := by decide +kernel
theorem dX6_allocateRest_39 : decode cX6_allocateRest 39 = .ok (.getfield 131, 3) := by decide +kernel
theorem dX6_allocateRest_42 : decode cX6_allocateRest 42 = .ok (.aload_n 2, 1) := by decide +kernel
theorem dX6_allocateRest_43 : decode cX6_allocateRest 43 = .ok (.if_acmp .ne 12, 3) := by decide +kernel
theorem dX6_allocateRest_46 : decode cX6_allocateRest 46 = .ok (.iload_n 3, 1) := by decide +kernel
theorem dX6_allocateRest_47 : decode cX6_allocateRest 47 = .ok (.aload_n 0, 1) := by decide +kernel
theorem dX6_allocateRest_48 : decode cX6_allocateRest 48 = .ok (.aload 5, 2) := by decide +kernel
theorem dX6_allocateRest_50 : decode cX6_allocateRest 50 = .ok (.invokevirtual 112, 3) := by decide +kernel
theorem dX6_allocateRest_53 : decode cX6_allocateRest 53 = .ok (.iadd, 1) := by decide +kernel
theorem dX6_allocateRest_54 : decode cX6_allocateRest 54 = .ok (.istore_n 3, 1) := by decide +kernel
theorem dX6_allocateRest_55 : decode cX6_allocateRest 55 = .ok (.iinc 4 1, 3) := by decide +kernel
theorem dX6_allocateRest_58 : decode cX6_allocateRest 58 = .ok (.goto (-47), 3) := by decide +kernel
theorem dX6_allocateRest_61 : decode cX6_allocateRest 61 = .ok (.iload_n 3, 1) := by decide +kernel
theorem dX6_allocateRest_62 : decode cX6_allocateRest 62 = .ok (.ireturn, 1) := by decide +kernel
theorem dX6_release_0 : decode cX6_release 0 = .ok (.aload_n 0, 1) := by decide +kernel
theorem dX6_release_1 : decode cX6_release 1 = .ok (.iload_n 1, 1) := by decide +kernel
theorem dX6_release_2 : decode cX6_release 2 = .ok (.invokevirtual 116, 3) := by decide +kernel
theorem dX6_release_5 : decode cX6_release 5 = .ok (.astore_n 3, 1) := by decide +kernel
theorem dX6_release_6 : decode cX6_release 6 = .ok (.aload_n 0, 1) := by decide +kernel
theorem dX6_release_7 : decode cX6_release 7 = .ok (.iload_n 2, 1) := by decide +kernel
theorem dX6_release_8 : decode cX6_release 8 = .ok (.invokevirtual 120, 3) := by decide +kernel
theorem dX6_release_11 : decode cX6_release 11 = .ok (.pop, 1) := by decide +kernel
theorem dX6_release_12 : decode cX6_release 12 = .ok (.aload_n 0, 1) := by decide +kernel
theorem dX6_release_13 : decode cX6_release 13 = .ok (.aload_n 3, 1) := by decide +kernel
theorem dX6_release_14 : decode cX6_release 14 = .ok (.iload_n 2, 1) := by decide +kernel
theorem dX6_release_15 : decode cX6_release 15 = .ok (.invokevirtual 142, 3) := by decide +kernel
theorem dX6_release_18 : decode cX6_release 18 = .ok (.ireturn, 1) := by decide +kernel
theorem dX6_reverse_0 : decode cX6_reverse 0 = .ok (.aload_n 0, 1) := by decide +kernel
theorem dX6_reverse_1 : decode cX6_reverse 1 = .ok (.iload_n 1, 1) := by decide +kernel
theorem dX6_reverse_2 : decode cX6_reverse 2 = .ok (.invokevirtual 116, 3) := by decide +kernel
theorem dX6_reverse_5 : decode cX6_reverse 5 = .ok (.astore_n 2, 1) := by decide +kernel
theorem dX6_reverse_6 : decode cX6_reverse 6 = .ok (.aload_n 2, 1) := by decide +kernel
theorem dX6_reverse_7 : decode cX6_reverse 7 = .ok (.getfield 146, 3) := by decide +kernel
theorem dX6_reverse_10 : decode cX6_reverse 10 = .ok (.ifCond .ne 7, 3) := by decide +kernel
theorem dX6_reverse_13 : decode cX6_reverse 13 = .ok (.iconst 1, 1) := by decide +kernel
theorem dX6_reverse_14 : decode cX6_reverse 14 = .ok (.goto 4, 3) := by decide +kernel
theorem dX6_reverse_17 : decode cX6_reverse 17 = .ok (.iconst 0, 1) := by decide +kernel
theorem dX6_reverse_18 : decode cX6_reverse 18 = .ok (.invokestatic 73, 3) := by decide +kernel
theorem dX6_reverse_21 : decode cX6_reverse 21 = .ok (.iconst 0, 1) := by decide +kernel
theorem dX6_reverse_22 : decode cX6_reverse 22 = .ok (.istore_n 3, 1) := by decide +kernel
theorem dX6_reverse_23 : decode cX6_reverse 23 = .ok (.iconst 0, 1) := by decide +kernel
theorem dX6_reverse_24 : decode cX6_reverse 24 = .ok (.istore 4, 2) := by decide +kernel
theorem dX6_reverse_26 : decode cX6_reverse 26 = .ok (.iload 4, 2) := by decide +kernel
theorem dX6_reverse_28 : decode cX6_reverse 28 = .ok (.aload_n 0, 1) := by decide +kernel
theorem dX6_reverse_29 : decode cX6_reverse 29 = .ok (.getfield 16, 3) := by decide +kernel
theorem dX6_reverse_32 : decode cX6_reverse 32 = .ok (.invokevirtual 44, 3) := by decide +kernel
theorem dX6_reverse_35 : decode cX6_reverse 35 = .ok (.if_icmp .ge 19, 3) := by decide +kernel
theorem dX6_reverse_38 : decode cX6_reverse 38 = .ok (.iload_n 3, 1) := by decide +kernel
theorem dX6_reverse_39 : decode cX6_reverse 39 = .ok (.aload_n 0, 1) := by decide +kernel
theorem dX6_reverse_40 : decode cX6_reverse 40 = .ok (.aload_n 2, 1) := by decide +kernel
theorem dX6_reverse_41 : decode cX6_reverse 41 = .ok (.iload 4, 2) := by decide +kernel
theorem dX6_reverse_43 : decode cX6_reverse 43 = .ok (.invokevirtual 142, 3) := by decide +kernel
theorem dX6_reverse_46 : decode cX6_reverse 46 = .ok (.iadd, 1) := by decide +kernel
theorem dX6_reverse_47 : decode cX6_reverse 47 = .ok (.istore_n 3, 1) := by decide +kernel
theorem dX6_reverse_48 : decode cX6_reverse 48 = .ok (.iinc 4 1, 3) := by decide +kernel
theorem dX6_reverse_51 : decode cX6_reverse 51 = .ok (.goto (-25), 3) := by decide +kernel
theorem dX6_reverse_54 : decode cX6_reverse 54 = .ok (.aload_n 2, 1) := by decide +kernel
theorem dX6_reverse_55 : decode cX6_reverse 55 = .ok (.iconst 1, 1) := by decide +kernel
theorem dX6_reverse_56 : decode cX6_reverse 56 = .ok (.putfield 146, 3) := by decide +kernel
theorem dX6_reverse_59 : decode cX6_reverse 59 = .ok (.iload_n 3, 1) := by decide +kernel
theorem dX6_reverse_60 : decode cX6_reverse 60 = .ok (.ireturn, 1) := by decide +kernel
theorem dX6_enterInvoice_0 : decode cX6_enterInvoice 0 = .ok (.aload_n 0, 1) := by decide +kernel
theorem dX6_enterInvoice_1 : decode cX6_enterInvoice 1 = .ok (.getfield 16, 3) := by decide +kernel
theorem dX6_enterInvoice_4 : decode cX6_enterInvoice 4 = .ok (.invokevirtual 44, 3) := by decide +kernel
theorem dX6_enterInvoice_7 : decode cX6_enterInvoice 7 = .ok (.istore_n 2, 1) := by decide +kernel
theorem dX6_enterInvoice_8 : decode cX6_enterInvoice 8 = .ok (.aload_n 0, 1) := by decide +kernel
theorem dX6_enterInvoice_9 : decode cX6_enterInvoice 9 = .ok (.getfield 16, 3) := by decide +kernel
theorem dX6_enterInvoice_12 : decode cX6_enterInvoice 12 = .ok (.aload_n 1, 1) := by decide +kernel
theorem dX6_enterInvoice_13 : decode cX6_enterInvoice 13 = .ok (.invokevirtual 56, 3) := by decide +kernel
theorem dX6_enterInvoice_16 : decode cX6_enterInvoice 16 = .ok (.pop, 1) := by decide +kernel
theorem dX6_enterInvoice_17 : decode cX6_enterInvoice 17 = .ok (.aload_n 0, 1) := by decide +kernel
theorem dX6_enterInvoice_18 : decode cX6_enterInvoice 18 = .ok (.getfield 25, 3) := by decide +kernel
theorem dX6_enterInvoice_21 : decode cX6_enterInvoice 21 = .ok (.iload_n 2, 1) := by decide +kernel
theorem dX6_enterInvoice_22 : decode cX6_enterInvoice 22 = .ok (.aload_n 1, 1) := by decide +kernel
theorem dX6_enterInvoice_23 : decode cX6_enterInvoice 23 = .ok (.getfield 150, 3) := by decide +kernel
theorem dX6_enterInvoice_26 : decode cX6_enterInvoice 26 = .ok (.invokevirtual 153, 3) := by decide +kernel
theorem dX6_enterInvoice_29 : decode cX6_enterInvoice 29 = .ok (.iload_n 2, 1) := by decide +kernel
theorem dX6_enterInvoice_30 : decode cX6_enterInvoice 30 = .ok (.ireturn, 1) := by decide +kernel
theorem dX6_allocateByRule_0 : decode cX6_allocateByRule 0 = .ok (.aload_n 1, 1) := by decide +kernel
theorem dX6_allocateByRule_1 : decode cX6_allocateByRule 1 = .ok (.invokevirtual 132, 3) := by decide +kernel
theorem dX6_allocateByRule_4 : decode cX6_allocateByRule 4 = .ok (.istore_n 2, 1) := by decide +kernel
theorem dX6_allocateByRule_5 : decode cX6_allocateByRule 5 = .ok (.aload_n 0, 1) := by decide +kernel
theorem dX6_allocateByRule_6 : decode cX6_allocateByRule 6 = .ok (.aload_n 1, 1) := by decide +kernel
theorem dX6_allocateByRule_7 : decode cX6_allocateByRule 7 = .ok (.getfield 131, 3) := by decide +kernel
theorem dX6_allocateByRule_10 : decode cX6_allocateByRule 10 = .ok (.invokevirtual 156, 3) := by decide +kernel
theorem dX6_allocateByRule_13 : decode cX6_allocateByRule 13 = .ok (.aload_n 1, 1) := by decide +kernel
theorem dX6_allocateByRule_14 : decode cX6_allocateByRule 14 = .ok (.getfield 131, 3) := by decide +kernel
theorem dX6_allocateByRule_17 : decode cX6_allocateByRule 17 = .ok (.getfield 64, 3) := by decide +kernel
theorem dX6_allocateByRule_20 : decode cX6_allocateByRule 20 = .ok (.ifCond .ne 11, 3) := by decide +kernel
theorem dX6_allocateByRule_23 : decode cX6_allocateByRule 23 = .ok (.aload_n 0, 1) := by decide +kernel
theorem dX6_allocateByRule_24 : decode cX6_allocateByRule 24 = .ok (.iload_n 2, 1) := by decide +kernel
theorem dX6_allocateByRule_25 : decode cX6_allocateByRule 25 = .ok (.invokevirtual 160, 3) := by decide +kernel
theorem dX6_allocateByRule_28 : decode cX6_allocateByRule 28 = .ok (.goto 22, 3) := by decide +kernel
theorem dX6_allocateByRule_31 : decode cX6_allocateByRule 31 = .ok (.aload_n 1, 1) := by decide +kernel
theorem dX6_allocateByRule_32 : decode cX6_allocateByRule 32 = .ok (.getfield 131, 3) := by decide +kernel
theorem dX6_allocateByRule_35 : decode cX6_allocateByRule 35 = .ok (.getfield 64, 3) := by decide +kernel
theorem dX6_allocateByRule_38 : decode cX6_allocateByRule 38 = .ok (.iconst 1, 1) := by decide +kernel
theorem dX6_allocateByRule_39 : decode cX6_allocateByRule 39 = .ok (.if_icmp .ne 11, 3) := by decide +kernel
theorem dX6_allocateByRule_42 : decode cX6_allocateByRule 42 = .ok (.aload_n 0, 1) := by decide +kernel
theorem dX6_allocateByRule_43 : decode cX6_allocateByRule 43 = .ok (.getfield 32, 3) := by decide +kernel
theorem dX6_allocateByRule_46 : decode cX6_allocateByRule 46 = .ok (.iload_n 2, 1) := by decide +kernel
theorem dX6_allocateByRule_47 : decode cX6_allocateByRule 47 = .ok (.invokevirtual 163, 3) := by decide +kernel
theorem dX6_allocateByRule_50 : decode cX6_allocateByRule 50 = .ok (.iconst 0, 1) := by decide +kernel
theorem dX6_allocateByRule_51 : decode cX6_allocateByRule 51 = .ok (.istore_n 3, 1) := by decide +kernel
theorem dX6_allocateByRule_52 : decode cX6_allocateByRule 52 = .ok (.iconst 0, 1) := by decide +kernel
theorem dX6_allocateByRule_53 : decode cX6_allocateByRule 53 = .ok (.istore 4, 2) := by decide +kernel
theorem dX6_allocateByRule_55 : decode cX6_allocateByRule 55 = .ok (.iload 4, 2) := by decide +kernel
theorem dX6_allocateByRule_57 : decode cX6_allocateByRule 57 = .ok (.aload_n 0, 1) := by decide +kernel
theorem dX6_allocateByRule_58 : decode cX6_allocateByRule 58 = .ok (.getfield 16, 3) := by decide +kernel
theorem dX6_allocateByRule_61 : decode cX6_allocateByRule 61 = .ok (.invokevirtual 44, 3) := by decide +kernel
theorem dX6_allocateByRule_64 : decode cX6_allocateByRule 64 = .ok (.if_icmp .ge 34, 3) := by decide +kernel
theorem dX6_allocateByRule_67 : decode cX6_allocateByRule 67 = .ok (.aload_n 0, 1) := by decide +kernel
theorem dX6_allocateByRule_68 : decode cX6_allocateByRule 68 = .ok (.getfield 32, 3) := by decide +kernel
theorem dX6_allocateByRule_71 : decode cX6_allocateByRule 71 = .ok (.iload 4, 2) := by decide +kernel
theorem dX6_allocateByRule_73 : decode cX6_allocateByRule 73 = .ok (.invokevirtual 166, 3) := by decide +kernel
theorem dX6_allocateByRule_76 : decode cX6_allocateByRule 76 = .ok (.istore 5, 2) := by decide +kernel
theorem dX6_allocateByRule_78 : decode cX6_allocateByRule 78 = .ok (.aload_n 0, 1) := by decide +kernel
theorem dX6_allocateByRule_79 : decode cX6_allocateByRule 79 = .ok (.aload_n 1, 1) := by decide +kernel
theorem dX6_allocateByRule_80 : decode cX6_allocateByRule 80 = .ok (.iload 4, 2) := by decide +kernel
theorem dX6_allocateByRule_82 : decode cX6_allocateByRule 82 = .ok (.iload 5, 2) := by decide +kernel
theorem dX6_allocateByRule_84 : decode cX6_allocateByRule 84 = .ok (.invokevirtual 138, 3) := by decide +kernel
theorem dX6_allocateByRule_87 : decode cX6_allocateByRule 87 = .ok (.iload_n 3, 1) := by decide +kernel
theorem dX6_allocateByRule_88 : decode cX6_allocateByRule 88 = .ok (.iload 5, 2) := by decide +kernel
theorem dX6_allocateByRule_90 : decode cX6_allocateByRule 90 = .ok (.iadd, 1) := by decide +kernel
theorem dX6_allocateByRule_91 : decode cX6_allocateByRule 91 = .ok (.istore_n 3, 1) := by decide +kernel
theorem dX6_allocateByRule_92 : decode cX6_allocateByRule 92 = .ok (.iinc 4 1, 3) := by decide +kernel
theorem dX6_allocateByRule_95 : decode cX6_allocateByRule 95 = .ok (.goto (-40), 3) := by decide +kernel
theorem dX6_allocateByRule_98 : decode cX6_allocateByRule 98 = .ok (.iload_n 3, 1) := by decide +kernel
theorem dX6_allocateByRule_99 : decode cX6_allocateByRule 99 = .ok (.ireturn, 1) := by decide +kernel
theorem dX6_weighClearAmounts_0 : decode cX6_weighClearAmounts 0 = .ok (.aload_n 0, 1) := by decide +kernel
theorem dX6_weighClearAmounts_1 : decode cX6_weighClearAmounts 1 = .ok (.getfield 32, 3) := by decide +kernel
theorem dX6_weighClearAmounts_4 : decode cX6_weighClearAmounts 4 = .ok (.invokevirtual 170, 3) := by decide +kernel
theorem dX6_weighClearAmounts_7 : decode cX6_weighClearAmounts 7 = .ok (.iconst 0, 1) := by decide +kernel
theorem dX6_weighClearAmounts_8 : decode cX6_weighClearAmounts 8 = .ok (.istore_n 2, 1) := by decide +kernel
theorem dX6_weighClearAmounts_9 : decode cX6_weighClearAmounts 9 = .ok (.iload_n 2, 1) := by decide +kernel
theorem dX6_weighClearAmounts_10 : decode cX6_weighClearAmounts 10 = .ok (.aload_n 0, 1) := by decide +kernel
theorem dX6_weighClearAmounts_11 : decode cX6_weighClearAmounts 11 = .ok (.getfield 16, 3) := by decide +kernel
theorem dX6_weighClearAmounts_14 : decode cX6_weighClearAmounts 14 = .ok (.invokevirtual 44, 3) := by decide +kernel
theorem dX6_weighClearAmounts_17 : decode cX6_weighClearAmounts 17 = .ok (.if_icmp .ge 41, 3) := by decide +kernel
theorem dX6_weighClearAmounts_20 : decode cX6_weighClearAmounts 20 = .ok (.aload_n 0, 1) := by decide +kernel
theorem dX6_weighClearAmounts_21 : decode cX6_weighClearAmounts 21 = .ok (.getfield 16, 3) := by decide +kernel
theorem dX6_weighClearAmounts_24 : decode cX6_weighClearAmounts 24 = .ok (.iload_n 2, 1) := by decide +kernel
theorem dX6_weighClearAmounts_25 : decode cX6_weighClearAmounts 25 = .ok (.invokevirtual 86, 3) := by decide +kernel
theorem dX6_weighClearAmounts_28 : decode cX6_weighClearAmounts 28 = .ok (.checkcast 90, 3) := by decide +kernel
theorem dX6_weighClearAmounts_31 : decode cX6_weighClearAmounts 31 = .ok (.astore_n 3, 1) := by decide +kernel
theorem dX6_weighClearAmounts_32 : decode cX6_weighClearAmounts 32 = .ok (.aload_n 3, 1) := by decide +kernel
theorem dX6_weighClearAmounts_33 : decode cX6_weighClearAmounts 33 = .ok (.getfield 127, 3) := by decide +kernel
theorem dX6_weighClearAmounts_36 : decode cX6_weighClearAmounts 36 = .ok (.aload_n 1, 1) := by decide +kernel
theorem dX6_weighClearAmounts_37 : decode cX6_weighClearAmounts 37 = .ok (.if_acmp .ne 15, 3) := by decide +kernel
theorem dX6_weighClearAmounts_40 : decode cX6_weighClearAmounts 40 = .ok (.aload_n 0, 1) := by decide +kernel
theorem dX6_weighClearAmounts_41 : decode cX6_weighClearAmounts 41 = .ok (.getfield 32, 3) := by decide +kernel
theorem dX6_weighClearAmounts_44 : decode cX6_weighClearAmounts 44 = .ok (.iload_n 2, 1) := by decide +kernel
theorem dX6_weighClearAmounts_45 : decode cX6_weighClearAmounts 45 = .ok (.aload_n 3, 1) := by decide +kernel
theorem dX6_weighClearAmounts_46 : decode cX6_weighClearAmounts 46 = .ok (.invokevirtual 173, 3) := by decide +kernel
theorem dX6_weighClearAmounts_49 : decode cX6_weighClearAmounts 49 = .ok (.invokevirtual 176, 3) := by decide +kernel
theorem dX6_weighClearAmounts_52 : decode cX6_weighClearAmounts 52 = .ok (.iinc 2 1, 3) := by decide +kernel
theorem dX6_weighClearAmounts_55 : decode cX6_weighClearAmounts 55 = .ok (.goto (-46), 3) := by decide +kernel
theorem dX6_weighClearAmounts_58 : decode cX6_weighClearAmounts 58 = .ok (.return_, 1) := by decide +kernel
theorem dX6_shareOldestFirst_0 : decode cX6_shareOldestFirst 0 = .ok (.iload_n 1, 1) := by decide +kernel
theorem dX6_shareOldestFirst_1 : decode cX6_shareOldestFirst 1 = .ok (.istore_n 2, 1) := by decide +kernel
theorem dX6_shareOldestFirst_2 : decode cX6_shareOldestFirst 2 = .ok (.iconst 0, 1) := by decide +kernel
theorem dX6_shareOldestFirst_3 : decode cX6_shareOldestFirst 3 = .ok (.istore_n 3, 1) := by decide +kernel
theorem dX6_shareOldestFirst_4 : decode cX6_shareOldestFirst 4 = .ok (.iload_n 3, 1) := by decide +kernel
theorem dX6_shareOldestFirst_5 : decode cX6_shareOldestFirst 5 = .ok (.aload_n 0, 1) := by decide +kernel
theorem dX6_shareOldestFirst_6 : decode cX6_shareOldestFirst 6 = .ok (.getfield 16, 3) := by decide +kernel
theorem dX6_shareOldestFirst_9 : decode cX6_shareOldestFirst 9 = .ok (.invokevirtual 44, 3) := by decide +kernel
theorem dX6_shareOldestFirst_12 : decode cX6_shareOldestFirst 12 = .ok (.if_icmp .ge 38, 3) := by decide +kernel
theorem dX6_shareOldestFirst_15 : decode cX6_shareOldestFirst 15 = .ok (.iload_n 2, 1) := by decide +kernel
theorem dX6_shareOldestFirst_16 : decode cX6_shareOldestFirst 16 = .ok (.ifCond .le 34, 3) := by decide +kernel
theorem dX6_shareOldestFirst_19 : decode cX6_shareOldestFirst 19 = .ok (.aload_n 0, 1) := by decide +kernel
theorem dX6_shareOldestFirst_20 : decode cX6_shareOldestFirst 20 = .ok (.invokevirtual 179, 3) := by decide +kernel
theorem dX6_shareOldestFirst_23 : decode cX6_shareOldestFirst 23 = .ok (.istore 4, 2) := by decide +kernel
theorem dX6_shareOldestFirst_25 : decode cX6_shareOldestFirst 25 = .ok (.iload 4, 2) := by decide +kernel
theorem dX6_shareOldestFirst_27 : decode cX6_shareOldestFirst 27 = .ok (.ifCond .ge 4, 3) := by decide +kernel
theorem dX6_shareOldestFirst_30 : decode cX6_shareOldestFirst 30 = .ok (.return_, 1) := by decide +kernel
theorem dX6_shareOldestFirst_31 : decode cX6_shareOldestFirst 31 = .ok (.iload_n 2, 1) := by decide +kernel
theorem dX6_shareOldestFirst_32 : decode cX6_shareOldestFirst 32 = .ok (.aload_n 0, 1) := by decide +kernel
theorem dX6_shareOldestFirst_33 : decode cX6_shareOldestFirst 33 = .ok (.getfield 32, 3) := by decide +kernel
theorem dX6_shareOldestFirst_36 : decode cX6_shareOldestFirst 36 = .ok (.iload 4, 2) := by decide +kernel
theorem dX6_shareOldestFirst_38 : decode cX6_shareOldestFirst 38 = .ok (.iload_n 2, 1) := by decide +kernel
theorem dX6_shareOldestFirst_39 : decode cX6_shareOldestFirst 39 = .ok (.invokevirtual 182, 3) := by decide +kernel
theorem dX6_shareOldestFirst_42 : decode cX6_shareOldestFirst 42 = .ok (.isub, 1) := by decide +kernel
theorem dX6_shareOldestFirst_43 : decode cX6_shareOldestFirst 43 = .ok (.istore_n 2, 1) := by decide +kernel
theorem dX6_shareOldestFirst_44 : decode cX6_shareOldestFirst 44 = .ok (.iinc 3 1, 3) := by decide +kernel
theorem dX6_shareOldestFirst_47 : decode cX6_shareOldestFirst 47 = .ok (.goto (-43), 3) := by decide +kernel
theorem dX6_shareOldestFirst_50 : decode cX6_shareOldestFirst 50 = .ok (.return_, 1) := by decide +kernel
theorem dX6_oldestWithoutPart_0 : decode cX6_oldestWithoutPart 0 = .ok (.iconst (-1), 1) := by decide +kernel
theorem dX6_oldestWithoutPart_1 : decode cX6_oldestWithoutPart 1 = .ok (.istore_n 1, 1) := by decide +kernel
theorem dX6_oldestWithoutPart_2 : decode cX6_oldestWithoutPart 2 = .ok (.iconst 0, 1) := by decide +kernel
theorem dX6_oldestWithoutPart_3 : decode cX6_oldestWithoutPart 3 = .ok (.istore_n 2, 1) := by decide +kernel
theorem dX6_oldestWithoutPart_4 : decode cX6_oldestWithoutPart 4 = .ok (.iconst 0, 1) := by decide +kernel
theorem dX6_oldestWithoutPart_5 : decode cX6_oldestWithoutPart 5 = .ok (.istore_n 3, 1) := by decide +kernel
theorem dX6_oldestWithoutPart_6 : decode cX6_oldestWithoutPart 6 = .ok (.iload_n 3, 1) := by decide +kernel
theorem dX6_oldestWithoutPart_7 : decode cX6_oldestWithoutPart 7 = .ok (.aload_n 0, 1) := by decide +kernel
theorem dX6_oldestWithoutPart_8 : decode cX6_oldestWithoutPart 8 = .ok (.getfield 16, 3) := by decide +kernel
theorem dX6_oldestWithoutPart_11 : decode cX6_oldestWithoutPart 11 = .ok (.invokevirtual 44, 3) := by decide +kernel
theorem dX6_oldestWithoutPart_14 : decode cX6_oldestWithoutPart 14 = .ok (.if_icmp .ge 51, 3) := by decide +kernel
theorem dX6_oldestWithoutPart_17 : decode cX6_oldestWithoutPart 17 = .ok (.aload_n 0, 1) := by decide +kernel
theorem dX6_oldestWithoutPart_18 : decode cX6_oldestWithoutPart 18 = .ok (.getfield 16, 3) := by decide +kernel
theorem dX6_oldestWithoutPart_21 : decode cX6_oldestWithoutPart 21 = .ok (.iload_n 3, 1) := by decide +kernel
theorem dX6_oldestWithoutPart_22 : decode cX6_oldestWithoutPart 22 = .ok (.invokevirtual 86, 3) := by decide +kernel
theorem dX6_oldestWithoutPart_25 : decode cX6_oldestWithoutPart 25 = .ok (.checkcast 90, 3) := by decide +kernel
theorem dX6_oldestWithoutPart_28 : decode cX6_oldestWithoutPart 28 = .ok (.getfield 186, 3) := by decide +kernel
theorem dX6_oldestWithoutPart_31 : decode cX6_oldestWithoutPart 31 = .ok (.istore 4, 2) := by decide +kernel
theorem dX6_oldestWithoutPart_33 : decode cX6_oldestWithoutPart 33 = .ok (.aload_n 0, 1) := by decide +kernel
theorem dX6_oldestWithoutPart_34 : decode cX6_oldestWithoutPart 34 = .ok (.getfield 32, 3) := by decide +kernel
theorem dX6_oldestWithoutPart_37 : decode cX6_oldestWithoutPart 37 = .ok (.iload_n 3, 1) := by decide +kernel
theorem dX6_oldestWithoutPart_38 : decode cX6_oldestWithoutPart 38 = .ok (.invokevirtual 189, 3) := by decide +kernel
theorem dX6_oldestWithoutPart_41 : decode cX6_oldestWithoutPart 41 = .ok (.ifCond .eq 18, 3) := by decide +kernel
theorem dX6_oldestWithoutPart_44 : decode cX6_oldestWithoutPart 44 = .ok (.iload_n 1, 1) := by decide +kernel
theorem dX6_oldestWithoutPart_45 : decode cX6_oldestWithoutPart 45 = .ok (.ifCond .lt 9, 3) := by decide +kernel
theorem dX6_oldestWithoutPart_48 : decode cX6_oldestWithoutPart 48 = .ok (.iload 4, 2) := by decide +kernel
theorem dX6_oldestWithoutPart_50 : decode cX6_oldestWithoutPart 50 = .ok (.iload_n 2, 1) := by decide +kernel
theorem dX6_oldestWithoutPart_51 : decode cX6_oldestWithoutPart 51 = .ok (.if_icmp .ge 8, 3) := by decide +kernel
theorem dX6_oldestWithoutPart_54 : decode cX6_oldestWithoutPart 54 = .ok (.iload_n 3, 1) := by decide +kernel
theorem dX6_oldestWithoutPart_55 : decode cX6_oldestWithoutPart 55 = .ok (.istore_n 1, 1) := by decide +kernel
theorem dX6_oldestWithoutPart_56 : decode cX6_oldestWithoutPart 56 = .ok (.iload 4, 2) := by decide +kernel
theorem dX6_oldestWithoutPart_58 : decode cX6_oldestWithoutPart 58 = .ok (.istore_n 2, 1) := by decide +kernel
theorem dX6_oldestWithoutPart_59 : decode cX6_oldestWithoutPart 59 = .ok (.iinc 3 1, 3) := by decide +kernel
theorem dX6_oldestWithoutPart_62 : decode cX6_oldestWithoutPart 62 = .ok (.goto (-56), 3) := by decide +kernel
theorem dX6_oldestWithoutPart_65 : decode cX6_oldestWithoutPart 65 = .ok (.iload_n 1, 1) := by decide +kernel
theorem dX6_oldestWithoutPart_66 : decode cX6_oldestWithoutPart 66 = .ok (.ireturn, 1) := by decide +kernel
theorem dX6_moveToInvoice_0 : decode cX6_moveToInvoice 0 = .ok (.iload_n 3, 1) := by decide +kernel
theorem dX6_moveToInvoice_1 : decode cX6_moveToInvoice 1 = .ok (.ifCond .le 49, 3) := by decide +kernel
theorem dX6_moveToInvoice_4 : decode cX6_moveToInvoice 4 = .ok (.iload_n 2, 1) := by decide +kernel
theorem dX6_moveToInvoice_5 : decode cX6_moveToInvoice 5 = .ok (.ifCond .lt 45, 3) := by decide +kernel
theorem dX6_moveToInvoice_8 : decode cX6_moveToInvoice 8 = .ok (.iload_n 2, 1) := by decide +kernel
theorem dX6_moveToInvoice_9 : decode cX6_moveToInvoice 9 = .ok (.aload_n 0, 1) := by decide +kernel
theorem dX6_moveToInvoice_10 : decode cX6_moveToInvoice 10 = .ok (.getfield 16, 3) := by decide +kernel
theorem dX6_moveToInvoice_13 : decode cX6_moveToInvoice 13 = .ok (.invokevirtual 44, 3) := by decide +kernel
theorem dX6_moveToInvoice_16 : decode cX6_moveToInvoice 16 = .ok (.if_icmp .ge 34, 3) := by decide +kernel
theorem dX6_moveToInvoice_19 : decode cX6_moveToInvoice 19 = .ok (.aload_n 1, 1) := by decide +kernel
theorem dX6_moveToInvoice_20 : decode cX6_moveToInvoice 20 = .ok (.iload_n 2, 1) := by decide +kernel
theorem dX6_moveToInvoice_21 : decode cX6_moveToInvoice 21 = .ok (.iload_n 3, 1) := by decide +kernel
theorem dX6_moveToInvoice_22 : decode cX6_moveToInvoice 22 = .ok (.invokevirtual 193, 3) := by decide +kernel
theorem dX6_moveToInvoice_25 : decode cX6_moveToInvoice 25 = .ok (.aload_n 0, 1) := by decide +kernel
theorem dX6_moveToInvoice_26 : decode cX6_moveToInvoice 26 = .ok (.getfield 16, 3) := by decide +kernel
theorem dX6_moveToInvoice_29 : decode cX6_moveToInvoice 29 = .ok (.iload_n 2, 1) := by decide +kernel
theorem dX6_moveToInvoice_30 : decode cX6_moveToInvoice 30 = .ok (.invokevirtual 86, 3) := by decide +kernel
theorem dX6_moveToInvoice_33 : decode cX6_moveToInvoice 33 = .ok (.checkcast 90, 3) := by decide +kernel
theorem dX6_moveToInvoice_36 : decode cX6_moveToInvoice 36 = .ok (.iload_n 3, 1) := by decide +kernel
theorem dX6_moveToInvoice_37 : decode cX6_moveToInvoice 37 = .ok (.invokevirtual 196, 3) := by decide +kernel
theorem dX6_moveToInvoice_40 : decode cX6_moveToInvoice 40 = .ok (.aload_n 0, 1) := by decide +kernel
theorem dX6_moveToInvoice_41 : decode cX6_moveToInvoice 41 = .ok (.getfield 25, 3) := by decide +kernel
theorem dX6_moveToInvoice_44 : decode cX6_moveToInvoice 44 = .ok (.iload_n 2, 1) := by decide +kernel
theorem dX6_moveToInvoice_45 : decode cX6_moveToInvoice 45 = .ok (.iload_n 3, 1) := by decide +kernel
theorem dX6_moveToInvoice_46 : decode cX6_moveToInvoice 46 = .ok (.ineg, 1) := by decide +kernel
theorem dX6_moveToInvoice_47 : decode cX6_moveToInvoice 47 = .ok (.invokevirtual 153, 3) := by decide +kernel
theorem dX6_moveToInvoice_50 : decode cX6_moveToInvoice 50 = .ok (.return_, 1) := by decide +kernel
theorem dX6_takeBack_0 : decode cX6_takeBack 0 = .ok (.aload_n 1, 1) := by decide +kernel
theorem dX6_takeBack_1 : decode cX6_takeBack 1 = .ok (.iload_n 2, 1) := by decide +kernel
theorem dX6_takeBack_2 : decode cX6_takeBack 2 = .ok (.invokevirtual 199, 3) := by decide +kernel
theorem dX6_takeBack_5 : decode cX6_takeBack 5 = .ok (.istore_n 3, 1) := by decide +kernel
theorem dX6_takeBack_6 : decode cX6_takeBack 6 = .ok (.iload_n 3, 1) := by decide +kernel
theorem dX6_takeBack_7 : decode cX6_takeBack 7 = .ok (.ifCond .le 49, 3) := by decide +kernel
theorem dX6_takeBack_10 : decode cX6_takeBack 10 = .ok (.iload_n 2, 1) := by decide +kernel
theorem dX6_takeBack_11 : decode cX6_takeBack 11 = .ok (.ifCond .lt 45, 3) := by decide +kernel
theorem dX6_takeBack_14 : decode cX6_takeBack 14 = .ok (.iload_n 2, 1) := by decide +kernel
theorem dX6_takeBack_15 : decode cX6_takeBack 15 = .ok (.aload_n 0, 1) := by decide +kernel
theorem dX6_takeBack_16 : decode cX6_takeBack 16 = .ok (.getfield 16, 3) := by decide +kernel
theorem dX6_takeBack_19 : decode cX6_takeBack 19 = .ok (.invokevirtual 44, 3) := by decide +kernel
theorem dX6_takeBack_22 : decode cX6_takeBack 22 = .ok (.if_icmp .ge 34, 3) := by decide +kernel
theorem dX6_takeBack_25 : decode cX6_takeBack 25 = .ok (.aload_n 1, 1) := by decide +kernel
theorem dX6_takeBack_26 : decode cX6_takeBack 26 = .ok (.iload_n 2, 1) := by decide +kernel
theorem dX6_takeBack_27 : decode cX6_takeBack 27 = .ok (.iload_n 3, 1) := by decide +kernel
theorem dX6_takeBack_28 : decode cX6_takeBack 28 = .ok (.ineg, 1) := by decide +kernel
theorem dX6_takeBack_29 : decode cX6_takeBack 29 = .ok (.invokevirtual 193, 3) := by decide +kernel
theorem dX6_takeBack_32 : decode cX6_takeBack 32 = .ok (.aload_n 0, 1) := by decide +kernel
theorem dX6_takeBack_33 : decode cX6_takeBack 33 = .ok (.getfield 16, 3) := by decide +kernel
theorem dX6_takeBack_36 : decode cX6_takeBack 36 = .ok (.iload_n 2, 1) := by decide +kernel
theorem dX6_takeBack_37 : decode cX6_takeBack 37 = .ok (.invokevirtual 86, 3) := by decide +kernel
theorem dX6_takeBack_40 : decode cX6_takeBack 40 = .ok (.checkcast 90, 3) := by decide +kernel
theorem dX6_takeBack_43 : decode cX6_takeBack 43 = .ok (.iload_n 3, 1) := by decide +kernel
theorem dX6_takeBack_44 : decode cX6_takeBack 44 = .ok (.invokevirtual 202, 3) := by decide +kernel
theorem dX6_takeBack_47 : decode cX6_takeBack 47 = .ok (.aload_n 0, 1) := by decide +kernel
theorem dX6_takeBack_48 : decode cX6_takeBack 48 = .ok (.getfield 25, 3) := by decide +kernel
theorem dX6_takeBack_51 : decode cX6_takeBack 51 = .ok (.iload_n 2, 1) := by decide +kernel
theorem dX6_takeBack_52 : decode cX6_takeBack 52 = .ok (.iload_n 3, 1) := by decide +kernel
theorem dX6_takeBack_53 : decode cX6_takeBack 53 = .ok (.invokevirtual 153, 3) := by decide +kernel
theorem dX6_takeBack_56 : decode cX6_takeBack 56 = .ok (.iload_n 3, 1) := by decide +kernel
theorem dX6_takeBack_57 : decode cX6_takeBack 57 = .ok (.ireturn, 1) := by decide +kernel
theorem dX6_dispute_0 : decode cX6_dispute 0 = .ok (.aload_n 0, 1) := by decide +kernel
theorem dX6_dispute_1 : decode cX6_dispute 1 = .ok (.iload_n 1, 1) := by decide +kernel
theorem dX6_dispute_2 : decode cX6_dispute 2 = .ok (.invokevirtual 120, 3) := by decide +kernel
theorem dX6_dispute_5 : decode cX6_dispute 5 = .ok (.astore_n 3, 1) := by decide +kernel
theorem dX6_dispute_6 : decode cX6_dispute 6 = .ok (.iload_n 2, 1) := by decide +kernel
theorem dX6_dispute_7 : decode cX6_dispute 7 = .ok (.invokestatic 124, 3) := by decide +kernel
theorem dX6_dispute_10 : decode cX6_dispute 10 = .ok (.iload_n 2, 1) := by decide +kernel
theorem dX6_dispute_11 : decode cX6_dispute 11 = .ok (.aload_n 3, 1) := by decide +kernel
theorem dX6_dispute_12 : decode cX6_dispute 12 = .ok (.invokevirtual 173, 3) := by decide +kernel
theorem dX6_dispute_15 : decode cX6_dispute 15 = .ok (.if_icmp .gt 7, 3) := by decide +kernel
theorem dX6_dispute_18 : decode cX6_dispute 18 = .ok (.iconst 1, 1) := by decide +kernel
theorem dX6_dispute_19 : decode cX6_dispute 19 = .ok (.goto 4, 3) := by decide +kernel
theorem dX6_dispute_22 : decode cX6_dispute 22 = .ok (.iconst 0, 1) := by decide +kernel
theorem dX6_dispute_23 : decode cX6_dispute 23 = .ok (.invokestatic 73, 3) := by decide +kernel
theorem dX6_dispute_26 : decode cX6_dispute 26 = .ok (.aload_n 3, 1) := by decide +kernel
theorem dX6_dispute_27 : decode cX6_dispute 27 = .ok (.dup, 1) := by decide +kernel
theorem dX6_dispute_28 : decode cX6_dispute 28 = .ok (.getfield 205, 3) := by decide +kernel
theorem dX6_dispute_31 : decode cX6_dispute 31 = .ok (.iload_n 2, 1) := by decide +kernel
theorem dX6_dispute_32 : decode cX6_dispute 32 = .ok (.iadd, 1) := by decide +kernel
theorem dX6_dispute_33 : decode cX6_dispute 33 = .ok (.putfield 205, 3) := by decide +kernel
theorem dX6_dispute_36 : decode cX6_dispute 36 = .ok (.aload_n 3, 1) := by decide +kernel
theorem dX6_dispute_37 : decode cX6_dispute 37 = .ok (.getfield 205, 3) := by decide +kernel
theorem dX6_dispute_40 : decode cX6_dispute 40 = .ok (.ireturn, 1) := by decide +kernel
theorem dX6_disputeAll_0 : decode cX6_disputeAll 0 = .ok (.aload_n 0, 1) := by decide +kernel
theorem dX6_disputeAll_1 : decode cX6_disputeAll 1 = .ok (.iload_n 1, 1) := by decide +kernel
theorem dX6_disputeAll_2 : decode cX6_disputeAll 2 = .ok (.invokevirtual 60, 3) := by decide +kernel
theorem dX6_disputeAll_5 : decode cX6_disputeAll 5 = .ok (.astore_n 3, 1) := by decide +kernel
theorem dX6_disputeAll_6 : decode cX6_disputeAll 6 = .ok (.iload_n 2, 1) := by decide +kernel
theorem dX6_disputeAll_7 : decode cX6_disputeAll 7 = .ok (.invokestatic 124, 3) := by decide +kernel
theorem dX6_disputeAll_10 : decode cX6_disputeAll 10 = .ok (.aload_n 0, 1) := by decide +kernel
theorem dX6_disputeAll_11 : decode cX6_disputeAll 11 = .ok (.aload_n 3, 1) := by decide +kernel
theorem dX6_disputeAll_12 : decode cX6_disputeAll 12 = .ok (.invokevirtual 156, 3) := by decide +kernel
theorem dX6_disputeAll_15 : decode cX6_disputeAll 15 = .ok (.iload_n 2, 1) := by decide +kernel
theorem dX6_disputeAll_16 : decode cX6_disputeAll 16 = .ok (.i2l, 1) := by decide +kernel
theorem dX6_disputeAll_17 : decode cX6_disputeAll 17 = .ok (.aload_n 0, 1) := by decide +kernel
theorem dX6_disputeAll_18 : decode cX6_disputeAll 18 = .ok (.getfield 32, 3) := by decide +kernel
theorem dX6_disputeAll_21 : decode cX6_disputeAll 21 = .ok (.invokevirtual 208, 3) := by decide +kernel
theorem dX6_disputeAll_24 : decode cX6_disputeAll 24 = .ok (.lcmp, 1) := by decide +kernel
theorem dX6_disputeAll_25 : decode cX6_disputeAll 25 = .ok (.ifCond .gt 7, 3) := by decide +kernel
theorem dX6_disputeAll_28 : decode cX6_disputeAll 28 = .ok (.iconst 1, 1) := by decide +kernel
theorem dX6_disputeAll_29 : decode cX6_disputeAll 29 = .ok (.goto 4, 3) := by decide +kernel
theorem dX6_disputeAll_32 : decode cX6_disputeAll 32 = .ok (.iconst 0, 1) := by decide +kernel
theorem dX6_disputeAll_33 : decode cX6_disputeAll 33 = .ok (.invokestatic 73, 3) := by decide +kernel
theorem dX6_disputeAll_36 : decode cX6_disputeAll 36 = .ok (.aload_n 0, 1) := by decide +kernel
theorem dX6_disputeAll_37 : decode cX6_disputeAll 37 = .ok (.getfield 32, 3) := by decide +kernel
theorem dX6_disputeAll_40 : decode cX6_disputeAll 40 = .ok (.iload_n 2, 1) := by decide +kernel
theorem dX6_disputeAll_41 : decode cX6_disputeAll 41 = .ok (.invokevirtual 212, 3) := by decide +kernel
theorem dX6_disputeAll_44 : decode cX6_disputeAll 44 = .ok (.iconst 0, 1) := by decide +kernel
theorem dX6_disputeAll_45 : decode cX6_disputeAll 45 = .ok (.istore 4, 2) := by decide +kernel
theorem dX6_disputeAll_47 : decode cX6_disputeAll 47 = .ok (.iconst 0, 1) := by decide +kernel
theorem dX6_disputeAll_48 : decode cX6_disputeAll 48 = .ok (.istore 5, 2) := by decide +kernel
theorem dX6_disputeAll_50 : decode cX6_disputeAll 50 = .ok (.iload 5, 2) := by decide +kernel
theorem dX6_disputeAll_52 : decode cX6_disputeAll 52 = .ok (.aload_n 0, 1) := by decide +kernel
theorem dX6_disputeAll_53 : decode cX6_disputeAll 53 = .ok (.getfield 16, 3) := by decide +kernel
theorem dX6_disputeAll_56 : decode cX6_disputeAll 56 = .ok (.invokevirtual 44, 3) := by decide +kernel
theorem dX6_disputeAll_59 : decode cX6_disputeAll 59 = .ok (.if_icmp .ge 50, 3) := by decide +kernel
theorem dX6_disputeAll_62 : decode cX6_disputeAll 62 = .ok (.aload_n 0, 1) := by decide +kernel
theorem dX6_disputeAll_63 : decode cX6_disputeAll 63 = .ok (.getfield 32, 3) := by decide +kernel
theorem dX6_disputeAll_66 : decode cX6_disputeAll 66 = .ok (.iload 5, 2) := by decide +kernel
theorem dX6_disputeAll_68 : decode cX6_disputeAll 68 = .ok (.invokevirtual 166, 3) := by decide +kernel
theorem dX6_disputeAll_71 : decode cX6_disputeAll 71 = .ok (.istore 6, 2) := by decide +kernel
theorem dX6_disputeAll_73 : decode cX6_disputeAll 73 = .ok (.iload 6, 2) := by decide +kernel
theorem dX6_disputeAll_75 : decode cX6_disputeAll 75 = .ok (.ifCond .le 28, 3) := by decide +kernel
theorem dX6_disputeAll_78 : decode cX6_disputeAll 78 = .ok (.aload_n 0, 1) := by decide +kernel
theorem dX6_disputeAll_79 : decode cX6_disputeAll 79 = .ok (.getfield 16, 3) := by decide +kernel
theorem dX6_disputeAll_82 : decode cX6_disputeAll 82 = .ok (.iload 5, 2) := by decide +kernel
theorem dX6_disputeAll_84 : decode cX6_disputeAll 84 = .ok (.invokevirtual 86, 3) := by decide +kernel
theorem dX6_disputeAll_87 : decode cX6_disputeAll 87 = .ok (.checkcast 90, 3) := by decide +kernel
theorem dX6_disputeAll_90 : decode cX6_disputeAll 90 = .ok (.dup, 1) := by decide +kernel
theorem dX6_disputeAll_91 : decode cX6_disputeAll 91 = .ok (.getfield 205, 3) := by decide +kernel
theorem dX6_disputeAll_94 : decode cX6_disputeAll 94 = .ok (.iload 6, 2) := by decide +kernel
theorem dX6_disputeAll_96 : decode cX6_disputeAll 96 = .ok (.iadd, 1) := by decide +kernel
theorem dX6_disputeAll_97 : decode cX6_disputeAll 97 = .ok (.putfield 205, 3) := by decide +kernel
theorem dX6_disputeAll_100 : decode cX6_disputeAll 100 = .ok (.iinc 4 1, 3) := by decide +kernel
theorem dX6_disputeAll_103 : decode cX6_disputeAll 103 = .ok (.iinc 5 1, 3) := by decide +kernel
theorem dX6_disputeAll_106 : decode cX6_disputeAll 106 = .ok (.goto (-56), 3) := by decide +kernel
theorem dX6_disputeAll_109 : decode cX6_disputeAll 109 = .ok (.iload 4, 2) := by decide +kernel
theorem dX6_disputeAll_111 : decode cX6_disputeAll 111 = .ok (.ireturn, 1) := by decide +kernel
theorem dX6_settle_0 : decode cX6_settle 0 = .ok (.aload_n 0, 1) := by decide +kernel
theorem dX6_settle_1 : decode cX6_settle 1 = .ok (.iload_n 1, 1) := by decide +kernel
theorem dX6_settle_2 : decode cX6_settle 2 = .ok (.invokevirtual 120, 3) := by decide +kernel
theorem dX6_settle_5 : decode cX6_settle 5 = .ok (.astore_n 3, 1) := by decide +kernel
theorem dX6_settle_6 : decode cX6_settle 6 = .ok (.aload_n 3, 1) := by decide +kernel
theorem dX6_settle_7 : decode cX6_settle 7 = .ok (.getfield 205, 3) := by decide +kernel
theorem dX6_settle_10 : decode cX6_settle 10 = .ok (.ifCond .le 7, 3) := by decide +kernel
theorem dX6_settle_13 : decode cX6_settle 13 = .ok (.iconst 1, 1) := by decide +kernel
theorem dX6_settle_14 : decode cX6_settle 14 = .ok (.goto 4, 3) := by decide +kernel
theorem dX6_settle_17 : decode cX6_settle 17 = .ok (.iconst 0, 1) := by decide +kernel
theorem dX6_settle_18 : decode cX6_settle 18 = .ok (.invokestatic 73, 3) := by decide +kernel
theorem dX6_settle_21 : decode cX6_settle 21 = .ok (.iload_n 2, 1) := by decide +kernel
theorem dX6_settle_22 : decode cX6_settle 22 = .ok (.iconst 0, 1) := by decide +kernel
theorem dX6_settle_23 : decode cX6_settle 23 = .ok (.aload_n 3, 1) := by decide +kernel
theorem dX6_settle_24 : decode cX6_settle 24 = .ok (.getfield 205, 3) := by decide +kernel
theorem dX6_settle_27 : decode cX6_settle 27 = .ok (.invokestatic 40, 3) := by decide +kernel
theorem dX6_settle_30 : decode cX6_settle 30 = .ok (.aload_n 3, 1) := by decide +kernel
theorem dX6_settle_31 : decode cX6_settle 31 = .ok (.iload_n 2, 1) := by decide +kernel
theorem dX6_settle_32 : decode cX6_settle 32 = .ok (.invokevirtual 215, 3) := by decide +kernel
theorem dX6_settle_35 : decode cX6_settle 35 = .ok (.aload_n 0, 1) := by decide +kernel
theorem dX6_settle_36 : decode cX6_settle 36 = .ok (.getfield 25, 3) := by decide +kernel
theorem dX6_settle_39 : decode cX6_settle 39 = .ok (.iload_n 1, 1) := by decide +kernel
theorem dX6_settle_40 : decode cX6_settle 40 = .ok (.iload_n 2, 1) := by decide +kernel
theorem dX6_settle_41 : decode cX6_settle 41 = .ok (.ineg, 1) := by decide +kernel
theorem dX6_settle_42 : decode cX6_settle 42 = .ok (.invokevirtual 153, 3) := by decide +kernel
theorem dX6_settle_45 : decode cX6_settle 45 = .ok (.aload_n 3, 1) := by decide +kernel
theorem dX6_settle_46 : decode cX6_settle 46 = .ok (.invokevirtual 135, 3) := by decide +kernel
theorem dX6_settle_49 : decode cX6_settle 49 = .ok (.ireturn, 1) := by decide +kernel
theorem dX6_chargeInterest_0 : decode cX6_chargeInterest 0 = .ok (.aload_n 0, 1) := by decide +kernel
theorem dX6_chargeInterest_1 : decode cX6_chargeInterest 1 = .ok (.iload_n 1, 1) := by decide +kernel
theorem dX6_chargeInterest_2 : decode cX6_chargeInterest 2 = .ok (.invokevirtual 60, 3) := by decide +kernel
theorem dX6_chargeInterest_5 : decode cX6_chargeInterest 5 = .ok (.astore_n 3, 1) := by decide +kernel
theorem dX6_chargeInterest_6 : decode cX6_chargeInterest 6 = .ok (.iload_n 2, 1) := by decide +kernel
theorem dX6_chargeInterest_7 : decode cX6_chargeInterest 7 = .ok (.iconst 0, 1) := by decide +kernel
theorem dX6_chargeInterest_8 : decode cX6_chargeInterest 8 = .ok (.bipush 120, 2) := by decide +kernel
theorem dX6_chargeInterest_10 : decode cX6_chargeInterest 10 = .ok (.invokestatic 40, 3) := by decide +kernel
theorem dX6_chargeInterest_13 : decode cX6_chargeInterest 13 = .ok (.aload_n 0, 1) := by decide +kernel
theorem dX6_chargeInterest_14 : decode cX6_chargeInterest 14 = .ok (.aload_n 3, 1) := by decide +kernel
theorem dX6_chargeInterest_15 : decode cX6_chargeInterest 15 = .ok (.invokevirtual 218, 3) := by decide +kernel
theorem dX6_chargeInterest_18 : decode cX6_chargeInterest 18 = .ok (.istore 4, 2) := by decide +kernel
theorem dX6_chargeInterest_20 : decode cX6_chargeInterest 20 = .ok (.iload 4, 2) := by decide +kernel
theorem dX6_chargeInterest_22 : decode cX6_chargeInterest 22 = .ok (.ifCond .ne 5, 3) := by decide +kernel
theorem dX6_chargeInterest_25 : decode cX6_chargeInterest 25 = .ok (.iconst (-1), 1) := by decide +kernel
theorem dX6_chargeInterest_26 : decode cX6_chargeInterest 26 = .ok (.ireturn, 1) := by decide +kernel
theorem dX6_chargeInterest_27 : decode cX6_chargeInterest 27 = .ok (.aload_n 0, 1) := by decide +kernel
theorem dX6_chargeInterest_28 : decode cX6_chargeInterest 28 = .ok (.getfield 16, 3) := by decide +kernel
theorem dX6_chargeInterest_31 : decode cX6_chargeInterest 31 = .ok (.invokevirtual 44, 3) := by decide +kernel
theorem dX6_chargeInterest_34 : decode cX6_chargeInterest 34 = .ok (.bipush 24, 2) := by decide +kernel
theorem dX6_chargeInterest_36 : decode cX6_chargeInterest 36 = .ok (.invokestatic 48, 3) := by decide +kernel
theorem dX6_chargeInterest_39 : decode cX6_chargeInterest 39 = .ok (.iconst 0, 1) := by decide +kernel
theorem dX6_chargeInterest_40 : decode cX6_chargeInterest 40 = .ok (.istore 5, 2) := by decide +kernel
theorem dX6_chargeInterest_42 : decode cX6_chargeInterest 42 = .ok (.iload 5, 2) := by decide +kernel
theorem dX6_chargeInterest_44 : decode cX6_chargeInterest 44 = .ok (.aload_n 0, 1) := by decide +kernel
theorem dX6_chargeInterest_45 : decode cX6_chargeInterest 45 = .ok (.getfield 16, 3) := by decide +kernel
theorem dX6_chargeInterest_48 : decode cX6_chargeInterest 48 = .ok (.invokevirtual 44, 3) := by decide +kernel
theorem dX6_chargeInterest_51 : decode cX6_chargeInterest 51 = .ok (.if_icmp .ge 37, 3) := by decide +kernel
theorem dX6_chargeInterest_54 : decode cX6_chargeInterest 54 = .ok (.aload_n 0, 1) := by decide +kernel
theorem dX6_chargeInterest_55 : decode cX6_chargeInterest 55 = .ok (.getfield 16, 3) := by decide +kernel
theorem dX6_chargeInterest_58 : decode cX6_chargeInterest 58 = .ok (.iload 5, 2) := by decide +kernel
theorem dX6_chargeInterest_60 : decode cX6_chargeInterest 60 = .ok (.invokevirtual 86, 3) := by decide +kernel
theorem dX6_chargeInterest_63 : decode cX6_chargeInterest 63 = .ok (.checkcast 90, 3) := by decide +kernel
theorem dX6_chargeInterest_66 : decode cX6_chargeInterest 66 = .ok (.astore 6, 2) := by decide +kernel
theorem dX6_chargeInterest_68 : decode cX6_chargeInterest 68 = .ok (.aload 6, 2) := by decide +kernel
theorem dX6_chargeInterest_70 : decode cX6_chargeInterest 70 = .ok (.getfield 127, 3) := by decide +kernel
theorem dX6_chargeInterest_73 : decode cX6_chargeInterest 73 = .ok (.aload_n 3, 1) := by decide +kernel
theorem dX6_chargeInterest_74 : decode cX6_chargeInterest 74 = .ok (.if_acmp .ne 8, 3) := by decide +kernel
theorem dX6_chargeInterest_77 : decode cX6_chargeInterest 77 = .ok (.aload 6, 2) := by decide +kernel
theorem dX6_chargeInterest_79 : decode cX6_chargeInterest 79 = .ok (.invokevirtual 222, 3) := by decide +kernel
theorem dX6_chargeInterest_82 : decode cX6_chargeInterest 82 = .ok (.iinc 5 1, 3) := by decide +kernel
theorem dX6_chargeInterest_85 : decode cX6_chargeInterest 85 = .ok (.goto (-43), 3) := by decide +kernel
theorem dX6_chargeInterest_88 : decode cX6_chargeInterest 88 = .ok (.aload_n 0, 1) := by decide +kernel
theorem dX6_chargeInterest_89 : decode cX6_chargeInterest 89 = .ok (.new 90, 3) := by decide +kernel
theorem dX6_chargeInterest_92 : decode cX6_chargeInterest 92 = .ok (.dup, 1) := by decide +kernel
theorem dX6_chargeInterest_93 : decode cX6_chargeInterest 93 = .ok (.aload_n 3, 1) := by decide +kernel
theorem dX6_chargeInterest_94 : decode cX6_chargeInterest 94 = .ok (.iload 4, 2) := by decide +kernel
theorem dX6_chargeInterest_96 : decode cX6_chargeInterest 96 = .ok (.aload_n 0, 1) := by decide +kernel
theorem dX6_chargeInterest_97 : decode cX6_chargeInterest 97 = .ok (.getfield 36, 3) := by decide +kernel
theorem dX6_chargeInterest_100 : decode cX6_chargeInterest 100 = .ok (.iload_n 2, 1) := by decide +kernel
theorem dX6_chargeInterest_101 : decode cX6_chargeInterest 101 = .ok (.iadd, 1) := by decide +kernel
theorem dX6_chargeInterest_102 : decode cX6_chargeInterest 102 = .ok (.iconst 1, 1) := by decide +kernel
theorem dX6_chargeInterest_103 : decode cX6_chargeInterest 103 = .ok (.invokespecial 100, 3) := by decide +kernel
theorem dX6_chargeInterest_106 : decode cX6_chargeInterest 106 = .ok (.invokevirtual 103, 3) := by decide +kernel
theorem dX6_chargeInterest_109 : decode cX6_chargeInterest 109 = .ok (.ireturn, 1) := by decide +kernel
theorem dX6_accrued_0 : decode cX6_accrued 0 = .ok (.aload_n 0, 1) := by decide +kernel
theorem dX6_accrued_1 : decode cX6_accrued 1 = .ok (.iload_n 1, 1) := by decide +kernel
theorem dX6_accrued_2 : decode cX6_accrued 2 = .ok (.invokevirtual 120, 3) := by decide +kernel
theorem dX6_accrued_5 : decode cX6_accrued 5 = .ok (.invokevirtual 225, 3) := by decide +kernel
theorem dX6_accrued_8 : decode cX6_accrued 8 = .ok (.ireturn, 1) := by decide +kernel
theorem dX6_isInterest_0 : decode cX6_isInterest 0 = .ok (.aload_n 0, 1) := by decide +kernel
theorem dX6_isInterest_1 : decode cX6_isInterest 1 = .ok (.iload_n 1, 1) := by decide +kernel
theorem dX6_isInterest_2 : decode cX6_isInterest 2 = .ok (.invokevirtual 120, 3) := by decide +kernel
theorem dX6_isInterest_5 : decode cX6_isInterest 5 = .ok (.getfield 228, 3) := by decide +kernel
theorem dX6_isInterest_8 : decode cX6_isInterest 8 = .ok (.ireturn, 1) := by decide +kernel
theorem dX6_accruedOfAll_0 : decode cX6_accruedOfAll 0 = .ok (.iconst 0, 1) := by decide +kernel
theorem dX6_accruedOfAll_1 : decode cX6_accruedOfAll 1 = .ok (.istore_n 2, 1) := by decide +kernel
theorem dX6_accruedOfAll_2 : decode cX6_accruedOfAll 2 = .ok (.iconst 0, 1) := by decide +kernel
theorem dX6_accruedOfAll_3 : decode cX6_accruedOfAll 3 = .ok (.istore_n 3, 1) := by decide +kernel
theorem dX6_accruedOfAll_4 : decode cX6_accruedOfAll 4 = .ok (.iload_n 3, 1) := by decide +kernel
theorem dX6_accruedOfAll_5 : decode cX6_accruedOfAll 5 = .ok (.aload_n 0, 1) := by decide +kernel
theorem dX6_accruedOfAll_6 : decode cX6_accruedOfAll 6 = .ok (.getfield 16, 3) := by decide +kernel
theorem dX6_accruedOfAll_9 : decode cX6_accruedOfAll 9 = .ok (.invokevirtual 44, 3) := by decide +kernel
theorem dX6_accruedOfAll_12 : decode cX6_accruedOfAll 12 = .ok (.if_icmp .ge 39, 3) := by decide +kernel
theorem dX6_accruedOfAll_15 : decode cX6_accruedOfAll 15 = .ok (.aload_n 0, 1) := by decide +kernel
theorem dX6_accruedOfAll_16 : decode cX6_accruedOfAll 16 = .ok (.getfield 16, 3) := by decide +kernel
theorem dX6_accruedOfAll_19 : decode cX6_accruedOfAll 19 = .ok (.iload_n 3, 1) := by decide +kernel
theorem dX6_accruedOfAll_20 : decode cX6_accruedOfAll 20 = .ok (.invokevirtual 86, 3) := by decide +kernel
theorem dX6_accruedOfAll_23 : decode cX6_accruedOfAll 23 = .ok (.checkcast 90, 3) := by decide +kernel
theorem dX6_accruedOfAll_26 : decode cX6_accruedOfAll 26 = .ok (.astore 4, 2) := by decide +kernel
theorem dX6_accruedOfAll_28 : decode cX6_accruedOfAll 28 = .ok (.aload 4, 2) := by decide +kernel
theorem dX6_accruedOfAll_30 : decode cX6_accruedOfAll 30 = .ok (.getfield 127, 3) := by decide +kernel
theorem dX6_accruedOfAll_33 : decode cX6_accruedOfAll 33 = .ok (.aload_n 1, 1) := by decide +kernel
theorem dX6_accruedOfAll_34 : decode cX6_accruedOfAll 34 = .ok (.if_acmp .ne 11, 3) := by decide +kernel
theorem dX6_accruedOfAll_37 : decode cX6_accruedOfAll 37 = .ok (.iload_n 2, 1) := by decide +kernel
theorem dX6_accruedOfAll_38 : decode cX6_accruedOfAll 38 = .ok (.aload 4, 2) := by decide +kernel
theorem dX6_accruedOfAll_40 : decode cX6_accruedOfAll 40 = .ok (.invokevirtual 225, 3) := by decide +kernel
theorem dX6_accruedOfAll_43 : decode cX6_accruedOfAll 43 = .ok (.iadd, 1) := by decide +kernel
theorem dX6_accruedOfAll_44 : decode cX6_accruedOfAll 44 = .ok (.istore_n 2, 1) := by decide +kernel
theorem dX6_accruedOfAll_45 : decode cX6_accruedOfAll 45 = .ok (.iinc 3 1, 3) := by decide +kernel
theorem dX6_accruedOfAll_48 : decode cX6_accruedOfAll 48 = .ok (.goto (-44), 3) := by decide +kernel
theorem dX6_accruedOfAll_51 : decode cX6_accruedOfAll 51 = .ok (.iload_n 2, 1) := by decide +kernel
theorem dX6_accruedOfAll_52 : decode cX6_accruedOfAll 52 = .ok (.ireturn, 1) := by decide +kernel
theorem dX6_customers_0 : decode cX6_customers 0 = .ok (.aload_n 0, 1) := by decide +kernel
theorem dX6_customers_1 : decode cX6_customers 1 = .ok (.getfield 10, 3) := by decide +kernel
theorem dX6_customers_4 : decode cX6_customers 4 = .ok (.invokevirtual 44, 3) := by decide +kernel
theorem dX6_customers_7 : decode cX6_customers 7 = .ok (.ireturn, 1) := by decide +kernel
theorem dX6_invoices_0 : decode cX6_invoices 0 = .ok (.aload_n 0, 1) := by decide +kernel
theorem dX6_invoices_1 : decode cX6_invoices 1 = .ok (.getfield 16, 3) := by decide +kernel
theorem dX6_invoices_4 : decode cX6_invoices 4 = .ok (.invokevirtual 44, 3) := by decide +kernel
theorem dX6_invoices_7 : decode cX6_invoices 7 = .ok (.ireturn, 1) := by decide +kernel
theorem dX6_payments_0 : decode cX6_payments 0 = .ok (.aload_n 0, 1) := by decide +kernel
theorem dX6_payments_1 : decode cX6_payments 1 = .ok (.getfield 19, 3) := by decide +kernel
theorem dX6_payments_4 : decode cX6_payments 4 = .ok (.invokevirtual 44, 3) := by decide +kernel
theorem dX6_payments_7 : decode cX6_payments 7 = .ok (.ireturn, 1) := by decide +kernel
theorem dX6_amountOf_0 : decode cX6_amountOf 0 = .ok (.aload_n 0, 1) := by decide +kernel
theorem dX6_amountOf_1 : decode cX6_amountOf 1 = .ok (.iload_n 1, 1) := by decide +kernel
theorem dX6_amountOf_2 : decode cX6_amountOf 2 = .ok (.invokevirtual 120, 3) := by decide +kernel
theorem dX6_amountOf_5 : decode cX6_amountOf 5 = .ok (.getfield 150, 3) := by decide +kernel
theorem dX6_amountOf_8 : decode cX6_amountOf 8 = .ok (.ireturn, 1) := by decide +kernel
theorem dX6_dueDay_0 : decode cX6_dueDay 0 = .ok (.aload_n 0, 1) := by decide +kernel
theorem dX6_dueDay_1 : decode cX6_dueDay 1 = .ok (.iload_n 1, 1) := by decide +kernel
theorem dX6_dueDay_2 : decode cX6_dueDay 2 = .ok (.invokevirtual 120, 3) := by decide +kernel
theorem dX6_dueDay_5 : decode cX6_dueDay 5 = .ok (.getfield 186, 3) := by decide +kernel
theorem dX6_dueDay_8 : decode cX6_dueDay 8 = .ok (.ireturn, 1) := by decide +kernel
theorem dX6_openOf_0 : decode cX6_openOf 0 = .ok (.aload_n 0, 1) := by decide +kernel
theorem dX6_openOf_1 : decode cX6_openOf 1 = .ok (.iload_n 1, 1) := by decide +kernel
theorem dX6_openOf_2 : decode cX6_openOf 2 = .ok (.invokevirtual 120, 3) := by decide +kernel
theorem dX6_openOf_5 : decode cX6_openOf 5 = .ok (.invokevirtual 135, 3) := by decide +kernel
theorem dX6_openOf_8 : decode cX6_openOf 8 = .ok (.ireturn, 1) := by decide +kernel
theorem dX6_openByLedger_0 : decode cX6_openByLedger 0 = .ok (.aload_n 0, 1) := by decide +kernel
theorem dX6_openByLedger_1 : decode cX6_openByLedger 1 = .ok (.iload_n 1, 1) := by decide +kernel
theorem dX6_openByLedger_2 : decode cX6_openByLedger 2 = .ok (.invokevirtual 120, 3) := by decide +kernel
theorem dX6_openByLedger_5 : decode cX6_openByLedger 5 = .ok (.pop, 1) := by decide +kernel
theorem dX6_openByLedger_6 : decode cX6_openByLedger 6 = .ok (.aload_n 0, 1) := by decide +kernel
theorem dX6_openByLedger_7 : decode cX6_openByLedger 7 = .ok (.getfield 25, 3) := by decide +kernel
theorem dX6_openByLedger_10 : decode cX6_openByLedger 10 = .ok (.iload_n 1, 1) := by decide +kernel
theorem dX6_openByLedger_11 : decode cX6_openByLedger 11 = .ok (.invokevirtual 231, 3) := by decide +kernel
theorem dX6_openByLedger_14 : decode cX6_openByLedger 14 = .ok (.ireturn, 1) := by decide +kernel
theorem dX6_disputedOf_0 : decode cX6_disputedOf 0 = .ok (.aload_n 0, 1) := by decide +kernel
theorem dX6_disputedOf_1 : decode cX6_disputedOf 1 = .ok (.iload_n 1, 1) := by decide +kernel
theorem dX6_disputedOf_2 : decode cX6_disputedOf 2 = .ok (.invokevirtual 120, 3) := by decide +kernel
theorem dX6_disputedOf_5 : decode cX6_disputedOf 5 = .ok (.getfield 205, 3) := by decide +kernel
theorem dX6_disputedOf_8 : decode cX6_disputedOf 8 = .ok (.ireturn, 1) := by decide +kernel
theorem dX6_allocated_0 : decode cX6_allocated 0 = .ok (.aload_n 0, 1) := by decide +kernel
theorem dX6_allocated_1 : decode cX6_allocated 1 = .ok (.iload_n 1, 1) := by decide +kernel
theorem dX6_allocated_2 : decode cX6_allocated 2 = .ok (.invokevirtual 116, 3) := by decide +kernel
theorem dX6_allocated_5 : decode cX6_allocated 5 = .ok (.astore_n 3, 1) := by decide +kernel
theorem dX6_allocated_6 : decode cX6_allocated 6 = .ok (.aload_n 0, 1) := by decide +kernel
theorem dX6_allocated_7 : decode cX6_allocated 7 = .ok (.iload_n 2, 1) := by decide +kernel
theorem dX6_allocated_8 : decode cX6_allocated 8 = .ok (.invokevirtual 120, 3) := by decide +kernel
theorem dX6_allocated_11 : decode cX6_allocated 11 = .ok (.pop, 1) := by decide +kernel
theorem dX6_allocated_12 : decode cX6_allocated 12 = .ok (.aload_n 3, 1) := by decide +kernel
theorem dX6_allocated_13 : decode cX6_allocated 13 = .ok (.iload_n 2, 1) := by decide +kernel
theorem dX6_allocated_14 : decode cX6_allocated 14 = .ok (.invokevirtual 199, 3) := by decide +kernel
theorem dX6_allocated_17 : decode cX6_allocated 17 = .ok (.ireturn, 1) := by decide +kernel
theorem dX6_unallocated_0 : decode cX6_unallocated 0 = .ok (.aload_n 0, 1) := by decide +kernel
theorem dX6_unallocated_1 : decode cX6_unallocated 1 = .ok (.iload_n 1, 1) := by decide +kernel
theorem dX6_unallocated_2 : decode cX6_unallocated 2 = .ok (.invokevirtual 116, 3) := by decide +kernel
theorem dX6_unallocated_5 : decode cX6_unallocated 5 = .ok (.invokevirtual 132, 3) := by decide +kernel
theorem dX6_unallocated_8 : decode cX6_unallocated 8 = .ok (.ireturn, 1) := by decide +kernel
theorem dX6_balance_0 : decode cX6_balance 0 = .ok (.aload_n 0, 1) := by decide +kernel
theorem dX6_balance_1 : decode cX6_balance 1 = .ok (.iload_n 1, 1) := by decide +kernel
theorem dX6_balance_2 : decode cX6_balance 2 = .ok (.invokevirtual 60, 3) := by decide +kernel
theorem dX6_balance_5 : decode cX6_balance 5 = .ok (.astore_n 2, 1) := by decide +kernel
theorem dX6_balance_6 : decode cX6_balance 6 = .ok (.iconst 0, 1) := by decide +kernel
theorem dX6_balance_7 : decode cX6_balance 7 = .ok (.istore_n 3, 1) := by decide +kernel
theorem dX6_balance_8 : decode cX6_balance 8 = .ok (.iconst 0, 1) := by decide +kernel
theorem dX6_balance_9 : decode cX6_balance 9 = .ok (.istore 4, 2) := by decide +kernel
theorem dX6_balance_11 : decode cX6_balance 11 = .ok (.iload 4, 2) := by decide +kernel
theorem dX6_balance_13 : decode cX6_balance 13 = .ok (.aload_n 0, 1) := by decide +kernel
theorem dX6_balance_14 : decode cX6_balance 14 = .ok (.getfield 16, 3) := by decide +kernel
theorem dX6_balance_17 : decode cX6_balance 17 = .ok (.invokevirtual 44, 3) := by decide +kernel
theorem dX6_balance_20 : decode cX6_balance 20 = .ok (.if_icmp .ge 40, 3) := by decide +kernel
theorem dX6_balance_23 : decode cX6_balance 23 = .ok (.aload_n 0, 1) := by decide +kernel
theorem dX6_balance_24 : decode cX6_balance 24 = .ok (.getfield 16, 3) := by decide +kernel
theorem dX6_balance_27 : decode cX6_balance 27 = .ok (.iload 4, 2) := by decide +kernel
theorem dX6_balance_29 : decode cX6_balance 29 = .ok (.invokevirtual 86, 3) := by decide +kernel
theorem dX6_balance_32 : decode cX6_balance 32 = .ok (.checkcast 90, 3) := by decide +kernel
theorem dX6_balance_35 : decode cX6_balance 35 = .ok (.astore 5, 2) := by decide +kernel
theorem dX6_balance_37 : decode cX6_balance 37 = .ok (.aload 5, 2) := by decide +kernel
theorem dX6_balance_39 : decode cX6_balance 39 = .ok (.getfield 127, 3) := by decide +kernel
theorem dX6_balance_42 : decode cX6_balance 42 = .ok (.aload_n 2, 1) := by decide +kernel
theorem dX6_balance_43 : decode cX6_balance 43 = .ok (.if_acmp .ne 11, 3) := by decide +kernel
theorem dX6_balance_46 : decode cX6_balance 46 = .ok (.iload_n 3, 1) := by decide +kernel
theorem dX6_balance_47 : decode cX6_balance 47 = .ok (.aload 5, 2) := by decide +kernel
theorem dX6_balance_49 : decode cX6_balance 49 = .ok (.invokevirtual 135, 3) := by decide +kernel
theorem dX6_balance_52 : decode cX6_balance 52 = .ok (.iadd, 1) := by decide +kernel
theorem dX6_balance_53 : decode cX6_balance 53 = .ok (.istore_n 3, 1) := by decide +kernel
theorem dX6_balance_54 : decode cX6_balance 54 = .ok (.iinc 4 1, 3) := by decide +kernel
theorem dX6_balance_57 : decode cX6_balance 57 = .ok (.goto (-46), 3) := by decide +kernel
theorem dX6_balance_60 : decode cX6_balance 60 = .ok (.iconst 0, 1) := by decide +kernel
theorem dX6_balance_61 : decode cX6_balance 61 = .ok (.istore 4, 2) := by decide +kernel
theorem dX6_balance_63 : decode cX6_balance 63 = .ok (.iload 4, 2) := by decide +kernel
theorem dX6_balance_65 : decode cX6_balance 65 = .ok (.aload_n 0, 1) := by decide +kernel
theorem dX6_balance_66 : decode cX6_balance 66 = .ok (.getfield 19, 3) := by decide +kernel
theorem dX6_balance_69 : decode cX6_balance 69 = .ok (.invokevirtual 44, 3) := by decide +kernel
theorem dX6_balance_72 : decode cX6_balance 72 = .ok (.if_icmp .ge 40, 3) := by decide +kernel
theorem dX6_balance_75 : decode cX6_balance 75 = .ok (.aload_n 0, 1) := by decide +kernel
theorem dX6_balance_76 : decode cX6_balance 76 = .ok (.getfield 19, 3) := by decide +kernel
theorem dX6_balance_79 : decode cX6_balance 79 = .ok (.iload 4, 2) := by decide +kernel
theorem dX6_balance_81 : decode cX6_balance 81 = .ok (.invokevirtual 86, 3) := by decide +kernel
theorem dX6_balance_84 : decode cX6_balance 84 = .ok (.checkcast 107, 3) := by decide +kernel
theorem dX6_balance_87 : decode cX6_balance 87 = .ok (.astore 5, 2) := by decide +kernel
theorem dX6_balance_89 : decode cX6_balance 89 = .ok (.aload 5, 2) := by decide +kernel
theorem dX6_balance_91 : decode cX6_balance 91 = .ok (.getfield 131, 3) := by decide +kernel
theorem dX6_balance_94 : decode cX6_balance 94 = .ok (.aload_n 2, 1) := by decide +kernel
theorem dX6_balance_95 : decode cX6_balance 95 = .ok (.if_acmp .ne 11, 3) := by decide +kernel
theorem dX6_balance_98 : decode cX6_balance 98 = .ok (.iload_n 3, 1) := by decide +kernel
theorem dX6_balance_99 : decode cX6_balance 99 = .ok (.aload 5, 2) := by decide +kernel
theorem dX6_balance_101 : decode cX6_balance 101 = .ok (.invokevirtual 132, 3) := by decide +kernel
theorem dX6_balance_104 : decode cX6_balance 104 = .ok (.isub, 1) := by decide +kernel
theorem dX6_balance_105 : decode cX6_balance 105 = .ok (.istore_n 3, 1) := by decide +kernel
theorem dX6_balance_106 : decode cX6_balance 106 = .ok (.iinc 4 1, 3) := by decide +kernel
theorem dX6_balance_109 : decode cX6_balance 109 = .ok (.goto (-46), 3) := by decide +kernel
theorem dX6_balance_112 : decode cX6_balance 112 = .ok (.iload_n 3, 1) := by decide +kernel
theorem dX6_balance_113 : decode cX6_balance 113 = .ok (.ireturn, 1) := by decide +kernel
theorem dX6_bucketOf_0 : decode cX6_bucketOf 0 = .ok (.aload_n 0, 1) := by decide +kernel
theorem dX6_bucketOf_1 : decode cX6_bucketOf 1 = .ok (.iload_n 1, 1) := by decide +kernel
theorem dX6_bucketOf_2 : decode cX6_bucketOf 2 = .ok (.invokevirtual 120, 3) := by decide +kernel
theorem dX6_bucketOf_5 : decode cX6_bucketOf 5 = .ok (.aload_n 0, 1) := by decide +kernel
theorem dX6_bucketOf_6 : decode cX6_bucketOf 6 = .ok (.getfield 36, 3) := by decide +kernel
theorem dX6_bucketOf_9 : decode cX6_bucketOf 9 = .ok (.invokevirtual 234, 3) := by decide +kernel
theorem dX6_bucketOf_12 : decode cX6_bucketOf 12 = .ok (.ireturn, 1) := by decide +kernel
theorem dX6_ageing_0 : decode cX6_ageing 0 = .ok (.aload_n 0, 1) := by decide +kernel
theorem dX6_ageing_1 : decode cX6_ageing 1 = .ok (.iload_n 1, 1) := by decide +kernel
theorem dX6_ageing_2 : decode cX6_ageing 2 = .ok (.invokevirtual 60, 3) := by decide +kernel
theorem dX6_ageing_5 : decode cX6_ageing 5 = .ok (.astore_n 3, 1) := by decide +kernel
theorem dX6_ageing_6 : decode cX6_ageing 6 = .ok (.iload_n 2, 1) := by decide +kernel
theorem dX6_ageing_7 : decode cX6_ageing 7 = .ok (.iconst 5, 1) := by decide +kernel
theorem dX6_ageing_8 : decode cX6_ageing 8 = .ok (.invokestatic 237, 3) := by decide +kernel
theorem dX6_ageing_11 : decode cX6_ageing 11 = .ok (.iconst 0, 1) := by decide +kernel
theorem dX6_ageing_12 : decode cX6_ageing 12 = .ok (.istore 4, 2) := by decide +kernel
theorem dX6_ageing_14 : decode cX6_ageing 14 = .ok (.iconst 0, 1) := by decide +kernel
theorem dX6_ageing_15 : decode cX6_ageing 15 = .ok (.istore 5, 2) := by decide +kernel
theorem dX6_ageing_17 : decode cX6_ageing 17 = .ok (.iload 5, 2) := by decide +kernel
theorem dX6_ageing_19 : decode cX6_ageing 19 = .ok (.aload_n 0, 1) := by decide +kernel
theorem dX6_ageing_20 : decode cX6_ageing 20 = .ok (.getfield 16, 3) := by decide +kernel
theorem dX6_ageing_23 : decode cX6_ageing 23 = .ok (.invokevirtual 44, 3) := by decide +kernel
theorem dX6_ageing_26 : decode cX6_ageing 26 = .ok (.if_icmp .ge 55, 3) := by decide +kernel
theorem dX6_ageing_29 : decode cX6_ageing 29 = .ok (.aload_n 0, 1) := by decide +kernel
theorem dX6_ageing_30 : decode cX6_ageing 30 = .ok (.getfield 16, 3) := by decide +kernel
theorem dX6_ageing_33 : decode cX6_ageing 33 = .ok (.iload 5, 2) := by decide +kernel
theorem dX6_ageing_35 : decode cX6_ageing 35 = .ok (.invokevirtual 86, 3) := by decide +kernel
theorem dX6_ageing_38 : decode cX6_ageing 38 = .ok (.checkcast 90, 3) := by decide +kernel
theorem dX6_ageing_41 : decode cX6_ageing 41 = .ok (.astore 6, 2) := by decide +kernel
theorem dX6_ageing_43 : decode cX6_ageing 43 = .ok (.aload 6, 2) := by decide +kernel
theorem dX6_ageing_45 : decode cX6_ageing 45 = .ok (.getfield 127, 3) := by decide +kernel
theorem dX6_ageing_48 : decode cX6_ageing 48 = .ok (.aload_n 3, 1) := by decide +kernel
theorem dX6_ageing_49 : decode cX6_ageing 49 = .ok (.if_acmp .ne 26, 3) := by decide +kernel
theorem dX6_ageing_52 : decode cX6_ageing 52 = .ok (.aload 6, 2) := by decide +kernel
theorem dX6_ageing_54 : decode cX6_ageing 54 = .ok (.aload_n 0, 1) := by decide +kernel
theorem dX6_ageing_55 : decode cX6_ageing 55 = .ok (.getfield 36, 3) := by decide +kernel
theorem dX6_ageing_58 : decode cX6_ageing 58 = .ok (.invokevirtual 234, 3) := by decide +kernel
theorem dX6_ageing_61 : decode cX6_ageing 61 = .ok (.iload_n 2, 1) := by decide +kernel
theorem dX6_ageing_62 : decode cX6_ageing 62 = .ok (.if_icmp .ne 13, 3) := by decide +kernel
theorem dX6_ageing_65 : decode cX6_ageing 65 = .ok (.iload 4, 2) := by decide +kernel
theorem dX6_ageing_67 : decode cX6_ageing 67 = .ok (.aload 6, 2) := by decide +kernel
theorem dX6_ageing_69 : decode cX6_ageing 69 = .ok (.invokevirtual 135, 3) := by decide +kernel
theorem dX6_ageing_72 : decode cX6_ageing 72 = .ok (.iadd, 1) := by decide +kernel
theorem dX6_ageing_73 : decode cX6_ageing 73 = .ok (.istore 4, 2) := by decide +kernel
theorem dX6_ageing_75 : decode cX6_ageing 75 = .ok (.iinc 5 1, 3) := by decide +kernel
theorem dX6_ageing_78 : decode cX6_ageing 78 = .ok (.goto (-61), 3) := by decide +kernel
theorem dX6_ageing_81 : decode cX6_ageing 81 = .ok (.iload 4, 2) := by decide +kernel
theorem dX6_ageing_83 : decode cX6_ageing 83 = .ok (.ireturn, 1) := by decide +kernel
theorem dX6_oldest_0 : decode cX6_oldest 0 = .ok (.aload_n 0, 1) := by decide +kernel
theorem dX6_oldest_1 : decode cX6_oldest 1 = .ok (.aload_n 0, 1) := by decide +kernel
theorem dX6_oldest_2 : decode cX6_oldest 2 = .ok (.iload_n 1, 1) := by decide +kernel
theorem dX6_oldest_3 : decode cX6_oldest 3 = .ok (.invokevirtual 60, 3) := by decide +kernel
theorem dX6_oldest_6 : decode cX6_oldest 6 = .ok (.invokevirtual 156, 3) := by decide +kernel
theorem dX6_oldest_9 : decode cX6_oldest 9 = .ok (.aload_n 0, 1) := by decide +kernel
theorem dX6_oldest_10 : decode cX6_oldest 10 = .ok (.invokevirtual 179, 3) := by decide +kernel
theorem dX6_oldest_13 : decode cX6_oldest 13 = .ok (.ireturn, 1) := by decide +kernel
theorem dX6_levelOf_0 : decode cX6_levelOf 0 = .ok (.aload_n 0, 1) := by decide +kernel
theorem dX6_levelOf_1 : decode cX6_levelOf 1 = .ok (.iload_n 1, 1) := by decide +kernel
theorem dX6_levelOf_2 : decode cX6_levelOf 2 = .ok (.invokevirtual 120, 3) := by decide +kernel
theorem dX6_levelOf_5 : decode cX6_levelOf 5 = .ok (.getfield 240, 3) := by decide +kernel
theorem dX6_levelOf_8 : decode cX6_levelOf 8 = .ok (.ireturn, 1) := by decide +kernel
theorem dX6_daysToReminder_0 : decode cX6_daysToReminder 0 = .ok (.aload_n 0, 1) := by decide +kernel
theorem dX6_daysToReminder_1 : decode cX6_daysToReminder 1 = .ok (.iload_n 1, 1) := by decide +kernel
theorem dX6_daysToReminder_2 : decode cX6_daysToReminder 2 = .ok (.invokevirtual 120, 3) := by decide +kernel
theorem dX6_daysToReminder_5 : decode cX6_daysToReminder 5 = .ok (.aload_n 0, 1) := by decide +kernel
theorem dX6_daysToReminder_6 : decode cX6_daysToReminder 6 = .ok (.getfield 36, 3) := by decide +kernel
theorem dX6_daysToReminder_9 : decode cX6_daysToReminder 9 = .ok (.invokevirtual 243, 3) := by decide +kernel
theorem dX6_daysToReminder_12 : decode cX6_daysToReminder 12 = .ok (.ireturn, 1) := by decide +kernel
theorem dX6_invoicesAt_0 : decode cX6_invoicesAt 0 = .ok (.iload_n 1, 1) := by decide +kernel
theorem dX6_invoicesAt_1 : decode cX6_invoicesAt 1 = .ok (.iconst 0, 1) := by decide +kernel
theorem dX6_invoicesAt_2 : decode cX6_invoicesAt 2 = .ok (.iconst 4, 1) := by decide +kernel
theorem dX6_invoicesAt_3 : decode cX6_invoicesAt 3 = .ok (.invokestatic 40, 3) := by decide +kernel
theorem dX6_invoicesAt_6 : decode cX6_invoicesAt 6 = .ok (.iconst 0, 1) := by decide +kernel
theorem dX6_invoicesAt_7 : decode cX6_invoicesAt 7 = .ok (.istore_n 2, 1) := by decide +kernel
theorem dX6_invoicesAt_8 : decode cX6_invoicesAt 8 = .ok (.iconst 0, 1) := by decide +kernel
theorem dX6_invoicesAt_9 : decode cX6_invoicesAt 9 = .ok (.istore_n 3, 1) := by decide +kernel
theorem dX6_invoicesAt_10 : decode cX6_invoicesAt 10 = .ok (.iload_n 3, 1) := by decide +kernel
theorem dX6_invoicesAt_11 : decode cX6_invoicesAt 11 = .ok (.aload_n 0, 1) := by decide +kernel
theorem dX6_invoicesAt_12 : decode cX6_invoicesAt 12 = .ok (.getfield 16, 3) := by decide +kernel
theorem dX6_invoicesAt_15 : decode cX6_invoicesAt 15 = .ok (.invokevirtual 44, 3) := by decide +kernel
theorem dX6_invoicesAt_18 : decode cX6_invoicesAt 18 = .ok (.if_icmp .ge 30, 3) := by decide +kernel
theorem dX6_invoicesAt_21 : decode cX6_invoicesAt 21 = .ok (.aload_n 0, 1) := by decide +kernel
theorem dX6_invoicesAt_22 : decode cX6_invoicesAt 22 = .ok (.getfield 16, 3) := by decide +kernel
theorem dX6_invoicesAt_25 : decode cX6_invoicesAt 25 = .ok (.iload_n 3, 1) := by decide +kernel
theorem dX6_invoicesAt_26 : decode cX6_invoicesAt 26 = .ok (.invokevirtual 86, 3) := by decide +kernel
theorem dX6_invoicesAt_29 : decode cX6_invoicesAt 29 = .ok (.checkcast 90, 3) := by decide +kernel
theorem dX6_invoicesAt_32 : decode cX6_invoicesAt 32 = .ok (.getfield 240, 3) := by decide +kernel
theorem dX6_invoicesAt_35 : decode cX6_invoicesAt 35 = .ok (.iload_n 1, 1) := by decide +kernel
theorem dX6_invoicesAt_36 : decode cX6_invoicesAt 36 = .ok (.if_icmp .ne 6, 3) := by decide +kernel
theorem dX6_invoicesAt_39 : decode cX6_invoicesAt 39 = .ok (.iinc 2 1, 3) := by decide +kernel
theorem dX6_invoicesAt_42 : decode cX6_invoicesAt 42 = .ok (.iinc 3 1, 3) := by decide +kernel
theorem dX6_invoicesAt_45 : decode cX6_invoicesAt 45 = .ok (.goto (-35), 3) := by decide +kernel
theorem dX6_invoicesAt_48 : decode cX6_invoicesAt 48 = .ok (.iload_n 2, 1) := by decide +kernel
theorem dX6_invoicesAt_49 : decode cX6_invoicesAt 49 = .ok (.ireturn, 1) := by decide +kernel
theorem dX6_ledgerLines_0 : decode cX6_ledgerLines 0 = .ok (.aload_n 0, 1) := by decide +kernel
theorem dX6_ledgerLines_1 : decode cX6_ledgerLines 1 = .ok (.getfield 25, 3) := by decide +kernel
theorem dX6_ledgerLines_4 : decode cX6_ledgerLines 4 = .ok (.getfield 246, 3) := by decide +kernel
theorem dX6_ledgerLines_7 : decode cX6_ledgerLines 7 = .ok (.ireturn, 1) := by decide +kernel
theorem dX6_lineInvoice_0 : decode cX6_lineInvoice 0 = .ok (.iload_n 1, 1) := by decide +kernel
theorem dX6_lineInvoice_1 : decode cX6_lineInvoice 1 = .ok (.aload_n 0, 1) := by decide +kernel
theorem dX6_lineInvoice_2 : decode cX6_lineInvoice 2 = .ok (.getfield 25, 3) := by decide +kernel
theorem dX6_lineInvoice_5 : decode cX6_lineInvoice 5 = .ok (.getfield 246, 3) := by decide +kernel
theorem dX6_lineInvoice_8 : decode cX6_lineInvoice 8 = .ok (.invokestatic 237, 3) := by decide +kernel
theorem dX6_lineInvoice_11 : decode cX6_lineInvoice 11 = .ok (.aload_n 0, 1) := by decide +kernel
theorem dX6_lineInvoice_12 : decode cX6_lineInvoice 12 = .ok (.getfield 25, 3) := by decide +kernel
theorem dX6_lineInvoice_15 : decode cX6_lineInvoice 15 = .ok (.iload_n 1, 1) := by decide +kernel
theorem dX6_lineInvoice_16 : decode cX6_lineInvoice 16 = .ok (.invokevirtual 249, 3) := by decide +kernel
theorem dX6_lineInvoice_19 : decode cX6_lineInvoice 19 = .ok (.ireturn, 1) := by decide +kernel
theorem dX6_lineAmount_0 : decode cX6_lineAmount 0 = .ok (.iload_n 1, 1) := by decide +kernel
theorem dX6_lineAmount_1 : decode cX6_lineAmount 1 = .ok (.aload_n 0, 1) := by decide +kernel
theorem dX6_lineAmount_2 : decode cX6_lineAmount 2 = .ok (.getfield 25, 3) := by decide +kernel
theorem dX6_lineAmount_5 : decode cX6_lineAmount 5 = .ok (.getfield 246, 3) := by decide +kernel
theorem dX6_lineAmount_8 : decode cX6_lineAmount 8 = .ok (.invokestatic 237, 3) := by decide +kernel
theorem dX6_lineAmount_11 : decode cX6_lineAmount 11 = .ok (.aload_n 0, 1) := by decide +kernel
theorem dX6_lineAmount_12 : decode cX6_lineAmount 12 = .ok (.getfield 25, 3) := by decide +kernel
theorem dX6_lineAmount_15 : decode cX6_lineAmount 15 = .ok (.iload_n 1, 1) := by decide +kernel
theorem dX6_lineAmount_16 : decode cX6_lineAmount 16 = .ok (.invokevirtual 252, 3) := by decide +kernel
theorem dX6_lineAmount_19 : decode cX6_lineAmount 19 = .ok (.ireturn, 1) := by decide +kernel
theorem dX6_customerAt_0 : decode cX6_customerAt 0 = .ok (.iload_n 1, 1) := by decide +kernel
theorem dX6_customerAt_1 : decode cX6_customerAt 1 = .ok (.aload_n 0, 1) := by decide +kernel
theorem dX6_customerAt_2 : decode cX6_customerAt 2 = .ok (.getfield 10, 3) := by decide +kernel
theorem dX6_customerAt_5 : decode cX6_customerAt 5 = .ok (.invokevirtual 44, 3) := by decide +kernel
theorem dX6_customerAt_8 : decode cX6_customerAt 8 = .ok (.invokestatic 237, 3) := by decide +kernel
theorem dX6_customerAt_11 : decode cX6_customerAt 11 = .ok (.aload_n 0, 1) := by decide +kernel
theorem dX6_customerAt_12 : decode cX6_customerAt 12 = .ok (.getfield 10, 3) := by decide +kernel
theorem dX6_customerAt_15 : decode cX6_customerAt 15 = .ok (.iload_n 1, 1) := by decide +kernel
theorem dX6_customerAt_16 : decode cX6_customerAt 16 = .ok (.invokevirtual 86, 3) := by decide +kernel
theorem dX6_customerAt_19 : decode cX6_customerAt 19 = .ok (.checkcast 52, 3) := by decide +kernel
theorem dX6_customerAt_22 : decode cX6_customerAt 22 = .ok (.areturn, 1) := by decide +kernel
theorem dX6_invoiceAt_0 : decode cX6_invoiceAt 0 = .ok (.iload_n 1, 1) := by decide +kernel
theorem dX6_invoiceAt_1 : decode cX6_invoiceAt 1 = .ok (.aload_n 0, 1) := by decide +kernel
theorem dX6_invoiceAt_2 : decode cX6_invoiceAt 2 = .ok (.getfield 16, 3) := by decide +kernel
theorem dX6_invoiceAt_5 : decode cX6_invoiceAt 5 = .ok (.invokevirtual 44, 3) := by decide +kernel
theorem dX6_invoiceAt_8 : decode cX6_invoiceAt 8 = .ok (.invokestatic 237, 3) := by decide +kernel
theorem dX6_invoiceAt_11 : decode cX6_invoiceAt 11 = .ok (.aload_n 0, 1) := by decide +kernel
theorem dX6_invoiceAt_12 : decode cX6_invoiceAt 12 = .ok (.getfield 16, 3) := by decide +kernel
theorem dX6_invoiceAt_15 : decode cX6_invoiceAt 15 = .ok (.iload_n 1, 1) := by decide +kernel
theorem dX6_invoiceAt_16 : decode cX6_invoiceAt 16 = .ok (.invokevirtual 86, 3) := by decide +kernel
theorem dX6_invoiceAt_19 : decode cX6_invoiceAt 19 = .ok (.checkcast 90, 3) := by decide +kernel
theorem dX6_invoiceAt_22 : decode cX6_invoiceAt 22 = .ok (.areturn, 1) := by decide +kernel
theorem dX6_paymentAt_0 : decode cX6_paymentAt 0 = .ok (.iload_n 1, 1) := by decide +kernel
theorem dX6_paymentAt_1 : decode cX6_paymentAt 1 = .ok (.aload_n 0, 1) := by decide +kernel
theorem dX6_paymentAt_2 : decode cX6_paymentAt 2 = .ok (.getfield 19, 3) := by decide +kernel
theorem dX6_paymentAt_5 : decode cX6_paymentAt 5 = .ok (.invokevirtual 44, 3) := by decide +kernel
theorem dX6_paymentAt_8 : decode cX6_paymentAt 8 = .ok (.invokestatic 237, 3) := by decide +kernel
theorem dX6_paymentAt_11 : decode cX6_paymentAt 11 = .ok (.aload_n 0, 1) := by decide +kernel
theorem dX6_paymentAt_12 : decode cX6_paymentAt 12 = .ok (.getfield 19, 3) := by decide +kernel
theorem dX6_paymentAt_15 : decode cX6_paymentAt 15 = .ok (.iload_n 1, 1) := by decide +kernel
theorem dX6_paymentAt_16 : decode cX6_paymentAt 16 = .ok (.invokevirtual 86, 3) := by decide +kernel
theorem dX6_paymentAt_19 : decode cX6_paymentAt 19 = .ok (.checkcast 107, 3) := by decide +kernel
theorem dX6_paymentAt_22 : decode cX6_paymentAt 22 = .ok (.areturn, 1) := by decide +kernel
theorem dX6_requireIndex_0 : decode cX6_requireIndex 0 = .ok (.iload_n 0, 1) := by decide +kernel
theorem dX6_requireIndex_1 : decode cX6_requireIndex 1 = .ok (.ifCond .lt 8, 3) := by decide +kernel
theorem dX6_requireIndex_4 : decode cX6_requireIndex 4 = .ok (.iload_n 0, 1) := by decide +kernel
theorem dX6_requireIndex_5 : decode cX6_requireIndex 5 = .ok (.iload_n 1, 1) := by decide +kernel
theorem dX6_requireIndex_6 : decode cX6_requireIndex 6 = .ok (.if_icmp .lt 14, 3) := by decide +kernel
theorem dX6_requireIndex_9 : decode cX6_requireIndex 9 = .ok (.new 255, 3) := by decide +kernel
theorem dX6_requireIndex_12 : decode cX6_requireIndex 12 = .ok (.dup, 1) := by decide +kernel
theorem dX6_requireIndex_13 : decode cX6_requireIndex 13 = .ok (.ldc_w 257, 3) := by decide +kernel
theorem dX6_requireIndex_16 : decode cX6_requireIndex 16 = .ok (.invokespecial 259, 3) := by decide +kernel
theorem dX6_requireIndex_19 : decode cX6_requireIndex 19 = .ok (.athrow, 1) := by decide +kernel
theorem dX6_requireIndex_20 : decode cX6_requireIndex 20 = .ok (.return_, 1) := by decide +kernel
theorem dX6_requireRange_0 : decode cX6_requireRange 0 = .ok (.iload_n 0, 1) := by decide +kernel
theorem dX6_requireRange_1 : decode cX6_requireRange 1 = .ok (.iload_n 1, 1) := by decide +kernel
theorem dX6_requireRange_2 : decode cX6_requireRange 2 = .ok (.if_icmp .lt 8, 3) := by decide +kernel
theorem dX6_requireRange_5 : decode cX6_requireRange 5 = .ok (.iload_n 0, 1) := by decide +kernel
theorem dX6_requireRange_6 : decode cX6_requireRange 6 = .ok (.iload_n 2, 1) := by decide +kernel
theorem dX6_requireRange_7 : decode cX6_requireRange 7 = .ok (.if_icmp .le 14, 3) := by decide +kernel
theorem dX6_requireRange_10 : decode cX6_requireRange 10 = .ok (.new 262, 3) := by decide +kernel
theorem dX6_requireRange_13 : decode cX6_requireRange 13 = .ok (.dup, 1) := by decide +kernel
theorem dX6_requireRange_14 : decode cX6_requireRange 14 = .ok (.ldc_w 264, 3) := by decide +kernel
theorem dX6_requireRange_17 : decode cX6_requireRange 17 = .ok (.invokespecial 266, 3) := by decide +kernel
theorem dX6_requireRange_20 : decode cX6_requireRange 20 = .ok (.athrow, 1) := by decide +kernel
theorem dX6_requireRange_21 : decode cX6_requireRange 21 = .ok (.return_, 1) := by decide +kernel
theorem dX6_requireCent_0 : decode cX6_requireCent 0 = .ok (.iload_n 0, 1) := by decide +kernel
theorem dX6_requireCent_1 : decode cX6_requireCent 1 = .ok (.iconst 1, 1) := by decide +kernel
theorem dX6_requireCent_2 : decode cX6_requireCent 2 = .ok (.if_icmp .ge 14, 3) := by decide +kernel
theorem dX6_requireCent_5 : decode cX6_requireCent 5 = .ok (.new 262, 3) := by decide +kernel
theorem dX6_requireCent_8 : decode cX6_requireCent 8 = .ok (.dup, 1) := by decide +kernel
theorem dX6_requireCent_9 : decode cX6_requireCent 9 = .ok (.ldc_w 267, 3) := by decide +kernel
theorem dX6_requireCent_12 : decode cX6_requireCent 12 = .ok (.invokespecial 266, 3) := by decide +kernel
theorem dX6_requireCent_15 : decode cX6_requireCent 15 = .ok (.athrow, 1) := by decide +kernel
theorem dX6_requireCent_16 : decode cX6_requireCent 16 = .ok (.return_, 1) := by decide +kernel
theorem dX6_requireRoom_0 : decode cX6_requireRoom 0 = .ok (.iload_n 0, 1) := by decide +kernel
theorem dX6_requireRoom_1 : decode cX6_requireRoom 1 = .ok (.iload_n 1, 1) := by decide +kernel
theorem dX6_requireRoom_2 : decode cX6_requireRoom 2 = .ok (.if_icmp .lt 14, 3) := by decide +kernel
theorem dX6_requireRoom_5 : decode cX6_requireRoom 5 = .ok (.new 269, 3) := by decide +kernel
theorem dX6_requireRoom_8 : decode cX6_requireRoom 8 = .ok (.dup, 1) := by decide +kernel
theorem dX6_requireRoom_9 : decode cX6_requireRoom 9 = .ok (.ldc_w 271, 3) := by decide +kernel
theorem dX6_requireRoom_12 : decode cX6_requireRoom 12 = .ok (.invokespecial 273, 3) := by decide +kernel
theorem dX6_requireRoom_15 : decode cX6_requireRoom 15 = .ok (.athrow, 1) := by decide +kernel
theorem dX6_requireRoom_16 : decode cX6_requireRoom 16 = .ok (.return_, 1) := by decide +kernel
theorem dX6_requireState_0 : decode cX6_requireState 0 = .ok (.iload_n 0, 1) := by decide +kernel
theorem dX6_requireState_1 : decode cX6_requireState 1 = .ok (.ifCond .ne 14, 3) := by decide +kernel
theorem dX6_requireState_4 : decode cX6_requireState 4 = .ok (.new 269, 3) := by decide +kernel
theorem dX6_requireState_7 : decode cX6_requireState 7 = .ok (.dup, 1) := by decide +kernel
theorem dX6_requireState_8 : decode cX6_requireState 8 = .ok (.ldc_w 274, 3) := by decide +kernel
theorem dX6_requireState_11 : decode cX6_requireState 11 = .ok (.invokespecial 273, 3) := by decide +kernel
theorem dX6_requireState_14 : decode cX6_requireState 14 = .ok (.athrow, 1) := by decide +kernel
theorem dX6_requireState_15 : decode cX6_requireState 15 = .ok (.return_, 1) := by decide +kernel
