theorem dL_addCustomer_0 : decode cL_addCustomer 0 = .ok (.aload 4, 2) := by decide +kernel
theorem dL_addCustomer_2 : decode cL_addCustomer 2 = .ok (.iconst 0, 1) := by decide +kernel
theorem dL_addCustomer_3 : decode cL_addCustomer 3 = .ok (.aload_n 0, 1) := by decide +kernel
theorem dL_addCustomer_4 : decode cL_addCustomer 4 = .ok (.iload_n 1, 1) := by decide +kernel
theorem dL_addCustomer_5 : decode cL_addCustomer 5 = .ok (.iload_n 2, 1) := by decide +kernel
theorem dL_addCustomer_6 : decode cL_addCustomer 6 = .ok (.iload_n 3, 1) := by decide +kernel
theorem dL_addCustomer_7 : decode cL_addCustomer 7 = .ok (.invokevirtual 7, 3) := by decide +kernel
theorem dL_addCustomer_10 : decode cL_addCustomer 10 = .ok (.i2l, 1) := by decide +kernel
theorem dL_addCustomer_11 : decode cL_addCustomer 11 = .ok (.lastore, 1) := by decide +kernel
theorem dL_addCustomer_12 : decode cL_addCustomer 12 = .ok (.goto 11, 3) := by decide +kernel
theorem dL_addCustomer_15 : decode cL_addCustomer 15 = .ok (.astore 5, 2) := by decide +kernel
theorem dL_addCustomer_17 : decode cL_addCustomer 17 = .ok (.iconst 1, 1) := by decide +kernel
theorem dL_addCustomer_18 : decode cL_addCustomer 18 = .ok (.ireturn, 1) := by decide +kernel
theorem dL_addCustomer_19 : decode cL_addCustomer 19 = .ok (.astore 5, 2) := by decide +kernel
theorem dL_addCustomer_21 : decode cL_addCustomer 21 = .ok (.iconst 2, 1) := by decide +kernel
theorem dL_addCustomer_22 : decode cL_addCustomer 22 = .ok (.ireturn, 1) := by decide +kernel
theorem dL_addCustomer_23 : decode cL_addCustomer 23 = .ok (.iconst 0, 1) := by decide +kernel
theorem dL_addCustomer_24 : decode cL_addCustomer 24 = .ok (.ireturn, 1) := by decide +kernel
theorem dL_setRule_0 : decode cL_setRule 0 = .ok (.aload_n 3, 1) := by decide +kernel
theorem dL_setRule_1 : decode cL_setRule 1 = .ok (.iconst 0, 1) := by decide +kernel
theorem dL_setRule_2 : decode cL_setRule 2 = .ok (.aload_n 0, 1) := by decide +kernel
theorem dL_setRule_3 : decode cL_setRule 3 = .ok (.iload_n 1, 1) := by decide +kernel
theorem dL_setRule_4 : decode cL_setRule 4 = .ok (.iload_n 2, 1) := by decide +kernel
theorem dL_setRule_5 : decode cL_setRule 5 = .ok (.invokevirtual 17, 3) := by decide +kernel
theorem dL_setRule_8 : decode cL_setRule 8 = .ok (.i2l, 1) := by decide +kernel
theorem dL_setRule_9 : decode cL_setRule 9 = .ok (.lastore, 1) := by decide +kernel
theorem dL_setRule_10 : decode cL_setRule 10 = .ok (.goto 11, 3) := by decide +kernel
theorem dL_setRule_13 : decode cL_setRule 13 = .ok (.astore 4, 2) := by decide +kernel
theorem dL_setRule_15 : decode cL_setRule 15 = .ok (.iconst 1, 1) := by decide +kernel
theorem dL_setRule_16 : decode cL_setRule 16 = .ok (.ireturn, 1) := by decide +kernel
theorem dL_setRule_17 : decode cL_setRule 17 = .ok (.astore 4, 2) := by decide +kernel
theorem dL_setRule_19 : decode cL_setRule 19 = .ok (.iconst 2, 1) := by decide +kernel
theorem dL_setRule_20 : decode cL_setRule 20 = .ok (.ireturn, 1) := by decide +kernel
theorem dL_setRule_21 : decode cL_setRule 21 = .ok (.iconst 0, 1) := by decide +kernel
theorem dL_setRule_22 : decode cL_setRule 22 = .ok (.ireturn, 1) := by decide +kernel
theorem dL_setRate_0 : decode cL_setRate 0 = .ok (.aload_n 3, 1) := by decide +kernel
theorem dL_setRate_1 : decode cL_setRate 1 = .ok (.iconst 0, 1) := by decide +kernel
theorem dL_setRate_2 : decode cL_setRate 2 = .ok (.aload_n 0, 1) := by decide +kernel
theorem dL_setRate_3 : decode cL_setRate 3 = .ok (.iload_n 1, 1) := by decide +kernel
theorem dL_setRate_4 : decode cL_setRate 4 = .ok (.iload_n 2, 1) := by decide +kernel
theorem dL_setRate_5 : decode cL_setRate 5 = .ok (.invokevirtual 23, 3) := by decide +kernel
theorem dL_setRate_8 : decode cL_setRate 8 = .ok (.i2l, 1) := by decide +kernel
theorem dL_setRate_9 : decode cL_setRate 9 = .ok (.lastore, 1) := by decide +kernel
theorem dL_setRate_10 : decode cL_setRate 10 = .ok (.goto 11, 3) := by decide +kernel
theorem dL_setRate_13 : decode cL_setRate 13 = .ok (.astore 4, 2) := by decide +kernel
theorem dL_setRate_15 : decode cL_setRate 15 = .ok (.iconst 1, 1) := by decide +kernel
theorem dL_setRate_16 : decode cL_setRate 16 = .ok (.ireturn, 1) := by decide +kernel
theorem dL_setRate_17 : decode cL_setRate 17 = .ok (.astore 4, 2) := by decide +kernel
theorem dL_setRate_19 : decode cL_setRate 19 = .ok (.iconst 2, 1) := by decide +kernel
theorem dL_setRate_20 : decode cL_setRate 20 = .ok (.ireturn, 1) := by decide +kernel
theorem dL_setRate_21 : decode cL_setRate 21 = .ok (.iconst 0, 1) := by decide +kernel
theorem dL_setRate_22 : decode cL_setRate 22 = .ok (.ireturn, 1) := by decide +kernel
theorem dL_pauseReminders_0 : decode cL_pauseReminders 0 = .ok (.aload_n 3, 1) := by decide +kernel
theorem dL_pauseReminders_1 : decode cL_pauseReminders 1 = .ok (.iconst 0, 1) := by decide +kernel
theorem dL_pauseReminders_2 : decode cL_pauseReminders 2 = .ok (.aload_n 0, 1) := by decide +kernel
theorem dL_pauseReminders_3 : decode cL_pauseReminders 3 = .ok (.iload_n 1, 1) := by decide +kernel
theorem dL_pauseReminders_4 : decode cL_pauseReminders 4 = .ok (.iload_n 2, 1) := by decide +kernel
theorem dL_pauseReminders_5 : decode cL_pauseReminders 5 = .ok (.invokevirtual 26, 3) := by decide +kernel
theorem dL_pauseReminders_8 : decode cL_pauseReminders 8 = .ok (.i2l, 1) := by decide +kernel
theorem dL_pauseReminders_9 : decode cL_pauseReminders 9 = .ok (.lastore, 1) := by decide +kernel
theorem dL_pauseReminders_10 : decode cL_pauseReminders 10 = .ok (.goto 11, 3) := by decide +kernel
theorem dL_pauseReminders_13 : decode cL_pauseReminders 13 = .ok (.astore 4, 2) := by decide +kernel
theorem dL_pauseReminders_15 : decode cL_pauseReminders 15 = .ok (.iconst 1, 1) := by decide +kernel
theorem dL_pauseReminders_16 : decode cL_pauseReminders 16 = .ok (.ireturn, 1) := by decide +kernel
theorem dL_pauseReminders_17 : decode cL_pauseReminders 17 = .ok (.astore 4, 2) := by decide +kernel
theorem dL_pauseReminders_19 : decode cL_pauseReminders 19 = .ok (.iconst 2, 1) := by decide +kernel
theorem dL_pauseReminders_20 : decode cL_pauseReminders 20 = .ok (.ireturn, 1) := by decide +kernel
theorem dL_pauseReminders_21 : decode cL_pauseReminders 21 = .ok (.iconst 0, 1) := by decide +kernel
theorem dL_pauseReminders_22 : decode cL_pauseReminders 22 = .ok (.ireturn, 1) := by decide +kernel
theorem dL_passDays_0 : decode cL_passDays 0 = .ok (.aload_n 2, 1) := by decide +kernel
theorem dL_passDays_1 : decode cL_passDays 1 = .ok (.iconst 0, 1) := by decide +kernel
theorem dL_passDays_2 : decode cL_passDays 2 = .ok (.aload_n 0, 1) := by decide +kernel
theorem dL_passDays_3 : decode cL_passDays 3 = .ok (.iload_n 1, 1) := by decide +kernel
theorem dL_passDays_4 : decode cL_passDays 4 = .ok (.invokevirtual 29, 3) := by decide +kernel
theorem dL_passDays_7 : decode cL_passDays 7 = .ok (.i2l, 1) := by decide +kernel
theorem dL_passDays_8 : decode cL_passDays 8 = .ok (.lastore, 1) := by decide +kernel
theorem dL_passDays_9 : decode cL_passDays 9 = .ok (.goto 9, 3) := by decide +kernel
theorem dL_passDays_12 : decode cL_passDays 12 = .ok (.astore_n 3, 1) := by decide +kernel
theorem dL_passDays_13 : decode cL_passDays 13 = .ok (.iconst 1, 1) := by decide +kernel
theorem dL_passDays_14 : decode cL_passDays 14 = .ok (.ireturn, 1) := by decide +kernel
theorem dL_passDays_15 : decode cL_passDays 15 = .ok (.astore_n 3, 1) := by decide +kernel
theorem dL_passDays_16 : decode cL_passDays 16 = .ok (.iconst 2, 1) := by decide +kernel
theorem dL_passDays_17 : decode cL_passDays 17 = .ok (.ireturn, 1) := by decide +kernel
theorem dL_passDays_18 : decode cL_passDays 18 = .ok (.iconst 0, 1) := by decide +kernel
theorem dL_passDays_19 : decode cL_passDays 19 = .ok (.ireturn, 1) := by decide +kernel
theorem dL_countDays_0 : decode cL_countDays 0 = .ok (.aload 4, 2) := by decide +kernel
theorem dL_countDays_2 : decode cL_countDays 2 = .ok (.iconst 0, 1) := by decide +kernel
theorem dL_countDays_3 : decode cL_countDays 3 = .ok (.aload_n 0, 1) := by decide +kernel
theorem dL_countDays_4 : decode cL_countDays 4 = .ok (.iload_n 1, 1) := by decide +kernel
theorem dL_countDays_5 : decode cL_countDays 5 = .ok (.iload_n 2, 1) := by decide +kernel
theorem dL_countDays_6 : decode cL_countDays 6 = .ok (.iload_n 3, 1) := by decide +kernel
theorem dL_countDays_7 : decode cL_countDays 7 = .ok (.invokevirtual 33, 3) := by decide +kernel
theorem dL_countDays_10 : decode cL_countDays 10 = .ok (.i2l, 1) := by decide +kernel
theorem dL_countDays_11 : decode cL_countDays 11 = .ok (.lastore, 1) := by decide +kernel
theorem dL_countDays_12 : decode cL_countDays 12 = .ok (.goto 7, 3) := by decide +kernel
theorem dL_countDays_15 : decode cL_countDays 15 = .ok (.astore 5, 2) := by decide +kernel
theorem dL_countDays_17 : decode cL_countDays 17 = .ok (.iconst 1, 1) := by decide +kernel
theorem dL_countDays_18 : decode cL_countDays 18 = .ok (.ireturn, 1) := by decide +kernel
theorem dL_countDays_19 : decode cL_countDays 19 = .ok (.iconst 0, 1) := by decide +kernel
theorem dL_countDays_20 : decode cL_countDays 20 = .ok (.ireturn, 1) := by decide +kernel
theorem dL_postInvoice_0 : decode cL_postInvoice 0 = .ok (.aload 4, 2) := by decide +kernel
theorem dL_postInvoice_2 : decode cL_postInvoice 2 = .ok (.iconst 0, 1) := by decide +kernel
theorem dL_postInvoice_3 : decode cL_postInvoice 3 = .ok (.aload_n 0, 1) := by decide +kernel
theorem dL_postInvoice_4 : decode cL_postInvoice 4 = .ok (.iload_n 1, 1) := by decide +kernel
theorem dL_postInvoice_5 : decode cL_postInvoice 5 = .ok (.iload_n 2, 1) := by decide +kernel
theorem dL_postInvoice_6 : decode cL_postInvoice 6 = .ok (.iload_n 3, 1) := by decide +kernel
theorem dL_postInvoice_7 : decode cL_postInvoice 7 = .ok (.invokevirtual 36, 3) := by decide +kernel
theorem dL_postInvoice_10 : decode cL_postInvoice 10 = .ok (.i2l, 1) := by decide +kernel
theorem dL_postInvoice_11 : decode cL_postInvoice 11 = .ok (.lastore, 1) := by decide +kernel
theorem dL_postInvoice_12 : decode cL_postInvoice 12 = .ok (.goto 15, 3) := by decide +kernel
theorem dL_postInvoice_15 : decode cL_postInvoice 15 = .ok (.astore 5, 2) := by decide +kernel
theorem dL_postInvoice_17 : decode cL_postInvoice 17 = .ok (.iconst 1, 1) := by decide +kernel
theorem dL_postInvoice_18 : decode cL_postInvoice 18 = .ok (.ireturn, 1) := by decide +kernel
theorem dL_postInvoice_19 : decode cL_postInvoice 19 = .ok (.astore 5, 2) := by decide +kernel
theorem dL_postInvoice_21 : decode cL_postInvoice 21 = .ok (.iconst 2, 1) := by decide +kernel
theorem dL_postInvoice_22 : decode cL_postInvoice 22 = .ok (.ireturn, 1) := by decide +kernel
theorem dL_postInvoice_23 : decode cL_postInvoice 23 = .ok (.astore 5, 2) := by decide +kernel
theorem dL_postInvoice_25 : decode cL_postInvoice 25 = .ok (.iconst 3, 1) := by decide +kernel
theorem dL_postInvoice_26 : decode cL_postInvoice 26 = .ok (.ireturn, 1) := by decide +kernel
theorem dL_postInvoice_27 : decode cL_postInvoice 27 = .ok (.iconst 0, 1) := by decide +kernel
theorem dL_postInvoice_28 : decode cL_postInvoice 28 = .ok (.ireturn, 1) := by decide +kernel
theorem dL_postPayment_0 : decode cL_postPayment 0 = .ok (.aload_n 3, 1) := by decide +kernel
theorem dL_postPayment_1 : decode cL_postPayment 1 = .ok (.iconst 0, 1) := by decide +kernel
theorem dL_postPayment_2 : decode cL_postPayment 2 = .ok (.aload_n 0, 1) := by decide +kernel
theorem dL_postPayment_3 : decode cL_postPayment 3 = .ok (.iload_n 1, 1) := by decide +kernel
theorem dL_postPayment_4 : decode cL_postPayment 4 = .ok (.iload_n 2, 1) := by decide +kernel
theorem dL_postPayment_5 : decode cL_postPayment 5 = .ok (.invokevirtual 39, 3) := by decide +kernel
theorem dL_postPayment_8 : decode cL_postPayment 8 = .ok (.i2l, 1) := by decide +kernel
theorem dL_postPayment_9 : decode cL_postPayment 9 = .ok (.lastore, 1) := by decide +kernel
theorem dL_postPayment_10 : decode cL_postPayment 10 = .ok (.goto 15, 3) := by decide +kernel
theorem dL_postPayment_13 : decode cL_postPayment 13 = .ok (.astore 4, 2) := by decide +kernel
theorem dL_postPayment_15 : decode cL_postPayment 15 = .ok (.iconst 1, 1) := by decide +kernel
theorem dL_postPayment_16 : decode cL_postPayment 16 = .ok (.ireturn, 1) := by decide +kernel
theorem dL_postPayment_17 : decode cL_postPayment 17 = .ok (.astore 4, 2) := by decide +kernel
theorem dL_postPayment_19 : decode cL_postPayment 19 = .ok (.iconst 2, 1) := by decide +kernel
theorem dL_postPayment_20 : decode cL_postPayment 20 = .ok (.ireturn, 1) := by decide +kernel
theorem dL_postPayment_21 : decode cL_postPayment 21 = .ok (.astore 4, 2) := by decide +kernel
theorem dL_postPayment_23 : decode cL_postPayment 23 = .ok (.iconst 3, 1) := by decide +kernel
theorem dL_postPayment_24 : decode cL_postPayment 24 = .ok (.ireturn, 1) := by decide +kernel
theorem dL_postPayment_25 : decode cL_postPayment 25 = .ok (.iconst 0, 1) := by decide +kernel
theorem dL_postPayment_26 : decode cL_postPayment 26 = .ok (.ireturn, 1) := by decide +kernel
theorem dL_allocate_0 : decode cL_allocate 0 = .ok (.aload 4, 2) := by decide +kernel
theorem dL_allocate_2 : decode cL_allocate 2 = .ok (.iconst 0, 1) := by decide +kernel
theorem dL_allocate_3 : decode cL_allocate 3 = .ok (.aload_n 0, 1) := by decide +kernel
theorem dL_allocate_4 : decode cL_allocate 4 = .ok (.iload_n 1, 1) := by decide +kernel
theorem dL_allocate_5 : decode cL_allocate 5 = .ok (.iload_n 2, 1) := by decide +kernel
theorem dL_allocate_6 : decode cL_allocate 6 = .ok (.iload_n 3, 1) := by decide +kernel
theorem dL_allocate_7 : decode cL_allocate 7 = .ok (.invokevirtual 42, 3) := by decide +kernel
theorem dL_allocate_10 : decode cL_allocate 10 = .ok (.i2l, 1) := by decide +kernel
theorem dL_allocate_11 : decode cL_allocate 11 = .ok (.lastore, 1) := by decide +kernel
theorem dL_allocate_12 : decode cL_allocate 12 = .ok (.goto 15, 3) := by decide +kernel
theorem dL_allocate_15 : decode cL_allocate 15 = .ok (.astore 5, 2) := by decide +kernel
theorem dL_allocate_17 : decode cL_allocate 17 = .ok (.iconst 1, 1) := by decide +kernel
theorem dL_allocate_18 : decode cL_allocate 18 = .ok (.ireturn, 1) := by decide +kernel
theorem dL_allocate_19 : decode cL_allocate 19 = .ok (.astore 5, 2) := by decide +kernel
theorem dL_allocate_21 : decode cL_allocate 21 = .ok (.iconst 2, 1) := by decide +kernel
theorem dL_allocate_22 : decode cL_allocate 22 = .ok (.ireturn, 1) := by decide +kernel
theorem dL_allocate_23 : decode cL_allocate 23 = .ok (.astore 5, 2) := by decide +kernel
theorem dL_allocate_25 : decode cL_allocate 25 = .ok (.iconst 3, 1) := by decide +kernel
theorem dL_allocate_26 : decode cL_allocate 26 = .ok (.ireturn, 1) := by decide +kernel
theorem dL_allocate_27 : decode cL_allocate 27 = .ok (.iconst 0, 1) := by decide +kernel
theorem dL_allocate_28 : decode cL_allocate 28 = .ok (.ireturn, 1) := by decide +kernel
theorem dL_allocateRest_0 : decode cL_allocateRest 0 = .ok (.aload_n 2, 1) := by decide +kernel
theorem dL_allocateRest_1 : decode cL_allocateRest 1 = .ok (.iconst 0, 1) := by decide +kernel
theorem dL_allocateRest_2 : decode cL_allocateRest 2 = .ok (.aload_n 0, 1) := by decide +kernel
theorem dL_allocateRest_3 : decode cL_allocateRest 3 = .ok (.iload_n 1, 1) := by decide +kernel
theorem dL_allocateRest_4 : decode cL_allocateRest 4 = .ok (.invokevirtual 45, 3) := by decide +kernel
theorem dL_allocateRest_7 : decode cL_allocateRest 7 = .ok (.i2l, 1) := by decide +kernel
theorem dL_allocateRest_8 : decode cL_allocateRest 8 = .ok (.lastore, 1) := by decide +kernel
theorem dL_allocateRest_9 : decode cL_allocateRest 9 = .ok (.goto 6, 3) := by decide +kernel
theorem dL_allocateRest_12 : decode cL_allocateRest 12 = .ok (.astore_n 3, 1) := by decide +kernel
theorem dL_allocateRest_13 : decode cL_allocateRest 13 = .ok (.iconst 1, 1) := by decide +kernel
theorem dL_allocateRest_14 : decode cL_allocateRest 14 = .ok (.ireturn, 1) := by decide +kernel
theorem dL_allocateRest_15 : decode cL_allocateRest 15 = .ok (.iconst 0, 1) := by decide +kernel
theorem dL_allocateRest_16 : decode cL_allocateRest 16 = .ok (.ireturn, 1) := by decide +kernel
theorem dL_release_0 : decode cL_release 0 = .ok (.aload_n 3, 1) := by decide +kernel
theorem dL_release_1 : decode cL_release 1 = .ok (.iconst 0, 1) := by decide +kernel
theorem dL_release_2 : decode cL_release 2 = .ok (.aload_n 0, 1) := by decide +kernel
theorem dL_release_3 : decode cL_release 3 = .ok (.iload_n 1, 1) := by decide +kernel
theorem dL_release_4 : decode cL_release 4 = .ok (.iload_n 2, 1) := by decide +kernel
theorem dL_release_5 : decode cL_release 5 = .ok (.invokevirtual 48, 3) := by decide +kernel
theorem dL_release_8 : decode cL_release 8 = .ok (.i2l, 1) := by decide +kernel
theorem dL_release_9 : decode cL_release 9 = .ok (.lastore, 1) := by decide +kernel
theorem dL_release_10 : decode cL_release 10 = .ok (.goto 7, 3) := by decide +kernel
theorem dL_release_13 : decode cL_release 13 = .ok (.astore 4, 2) := by decide +kernel
theorem dL_release_15 : decode cL_release 15 = .ok (.iconst 1, 1) := by decide +kernel
theorem dL_release_16 : decode cL_release 16 = .ok (.ireturn, 1) := by decide +kernel
theorem dL_release_17 : decode cL_release 17 = .ok (.iconst 0, 1) := by decide +kernel
theorem dL_release_18 : decode cL_release 18 = .ok (.ireturn, 1) := by decide +kernel
theorem dL_reverse_0 : decode cL_reverse 0 = .ok (.aload_n 2, 1) := by decide +kernel
theorem dL_reverse_1 : decode cL_reverse 1 = .ok (.iconst 0, 1) := by decide +kernel
theorem dL_reverse_2 : decode cL_reverse 2 = .ok (.aload_n 0, 1) := by decide +kernel
theorem dL_reverse_3 : decode cL_reverse 3 = .ok (.iload_n 1, 1) := by decide +kernel
theorem dL_reverse_4 : decode cL_reverse 4 = .ok (.invokevirtual 51, 3) := by decide +kernel
theorem dL_reverse_7 : decode cL_reverse 7 = .ok (.i2l, 1) := by decide +kernel
theorem dL_reverse_8 : decode cL_reverse 8 = .ok (.lastore, 1) := by decide +kernel
theorem dL_reverse_9 : decode cL_reverse 9 = .ok (.goto 9, 3) := by decide +kernel
theorem dL_reverse_12 : decode cL_reverse 12 = .ok (.astore_n 3, 1) := by decide +kernel
theorem dL_reverse_13 : decode cL_reverse 13 = .ok (.iconst 1, 1) := by decide +kernel
theorem dL_reverse_14 : decode cL_reverse 14 = .ok (.ireturn, 1) := by decide +kernel
theorem dL_reverse_15 : decode cL_reverse 15 = .ok (.astore_n 3, 1) := by decide +kernel
theorem dL_reverse_16 : decode cL_reverse 16 = .ok (.iconst 2, 1) := by decide +kernel
theorem dL_reverse_17 : decode cL_reverse 17 = .ok (.ireturn, 1) := by decide +kernel
theorem dL_reverse_18 : decode cL_reverse 18 = .ok (.iconst 0, 1) := by decide +kernel
theorem dL_reverse_19 : decode cL_reverse 19 = .ok (.ireturn, 1) := by decide +kernel
theorem dL_dispute_0 : decode cL_dispute 0 = .ok (.aload_n 3, 1) := by decide +kernel
theorem dL_dispute_1 : decode cL_dispute 1 = .ok (.iconst 0, 1) := by decide +kernel
theorem dL_dispute_2 : decode cL_dispute 2 = .ok (.aload_n 0, 1) := by decide +kernel
theorem dL_dispute_3 : decode cL_dispute 3 = .ok (.iload_n 1, 1) := by decide +kernel
theorem dL_dispute_4 : decode cL_dispute 4 = .ok (.iload_n 2, 1) := by decide +kernel
theorem dL_dispute_5 : decode cL_dispute 5 = .ok (.invokevirtual 54, 3) := by decide +kernel
theorem dL_dispute_8 : decode cL_dispute 8 = .ok (.i2l, 1) := by decide +kernel
theorem dL_dispute_9 : decode cL_dispute 9 = .ok (.lastore, 1) := by decide +kernel
theorem dL_dispute_10 : decode cL_dispute 10 = .ok (.goto 15, 3) := by decide +kernel
theorem dL_dispute_13 : decode cL_dispute 13 = .ok (.astore 4, 2) := by decide +kernel
theorem dL_dispute_15 : decode cL_dispute 15 = .ok (.iconst 1, 1) := by decide +kernel
theorem dL_dispute_16 : decode cL_dispute 16 = .ok (.ireturn, 1) := by decide +kernel
theorem dL_dispute_17 : decode cL_dispute 17 = .ok (.astore 4, 2) := by decide +kernel
theorem dL_dispute_19 : decode cL_dispute 19 = .ok (.iconst 2, 1) := by decide +kernel
theorem dL_dispute_20 : decode cL_dispute 20 = .ok (.ireturn, 1) := by decide +kernel
theorem dL_dispute_21 : decode cL_dispute 21 = .ok (.astore 4, 2) := by decide +kernel
theorem dL_dispute_23 : decode cL_dispute 23 = .ok (.iconst 3, 1) := by decide +kernel
theorem dL_dispute_24 : decode cL_dispute 24 = .ok (.ireturn, 1) := by decide +kernel
theorem dL_dispute_25 : decode cL_dispute 25 = .ok (.iconst 0, 1) := by decide +kernel
theorem dL_dispute_26 : decode cL_dispute 26 = .ok (.ireturn, 1) := by decide +kernel
theorem dL_disputeAll_0 : decode cL_disputeAll 0 = .ok (.aload_n 3, 1) := by decide +kernel
theorem dL_disputeAll_1 : decode cL_disputeAll 1 = .ok (.iconst 0, 1) := by decide +kernel
theorem dL_disputeAll_2 : decode cL_disputeAll 2 = .ok (.aload_n 0, 1) := by decide +kernel
theorem dL_disputeAll_3 : decode cL_disputeAll 3 = .ok (.iload_n 1, 1) := by decide +kernel
theorem dL_disputeAll_4 : decode cL_disputeAll 4 = .ok (.iload_n 2, 1) := by decide +kernel
theorem dL_disputeAll_5 : decode cL_disputeAll 5 = .ok (.invokevirtual 57, 3) := by decide +kernel
theorem dL_disputeAll_8 : decode cL_disputeAll 8 = .ok (.i2l, 1) := by decide +kernel
theorem dL_disputeAll_9 : decode cL_disputeAll 9 = .ok (.lastore, 1) := by decide +kernel
theorem dL_disputeAll_10 : decode cL_disputeAll 10 = .ok (.goto 15, 3) := by decide +kernel
theorem dL_disputeAll_13 : decode cL_disputeAll 13 = .ok (.astore 4, 2) := by decide +kernel
theorem dL_disputeAll_15 : decode cL_disputeAll 15 = .ok (.iconst 1, 1) := by decide +kernel
theorem dL_disputeAll_16 : decode cL_disputeAll 16 = .ok (.ireturn, 1) := by decide +kernel
theorem dL_disputeAll_17 : decode cL_disputeAll 17 = .ok (.astore 4, 2) := by decide +kernel
theorem dL_disputeAll_19 : decode cL_disputeAll 19 = .ok (.iconst 2, 1) := by decide +kernel
theorem dL_disputeAll_20 : decode cL_disputeAll 20 = .ok (.ireturn, 1) := by decide +kernel
theorem dL_disputeAll_21 : decode cL_disputeAll 21 = .ok (.astore 4, 2) := by decide +kernel
theorem dL_disputeAll_23 : decode cL_disputeAll 23 = .ok (.iconst 3, 1) := by decide +kernel
theorem dL_disputeAll_24 : decode cL_disputeAll 24 = .ok (.ireturn, 1) := by decide +kernel
theorem dL_disputeAll_25 : decode cL_disputeAll 25 = .ok (.iconst 0, 1) := by decide +kernel
theorem dL_disputeAll_26 : decode cL_disputeAll 26 = .ok (.ireturn, 1) := by decide +kernel
theorem dL_settle_0 : decode cL_settle 0 = .ok (.aload_n 3, 1) := by decide +kernel
theorem dL_settle_1 : decode cL_settle 1 = .ok (.iconst 0, 1) := by decide +kernel
theorem dL_settle_2 : decode cL_settle 2 = .ok (.aload_n 0, 1) := by decide +kernel
theorem dL_settle_3 : decode cL_settle 3 = .ok (.iload_n 1, 1) := by decide +kernel
theorem dL_settle_4 : decode cL_settle 4 = .ok (.iload_n 2, 1) := by decide +kernel
theorem dL_settle_5 : decode cL_settle 5 = .ok (.invokevirtual 60, 3) := by decide +kernel
theorem dL_settle_8 : decode cL_settle 8 = .ok (.i2l, 1) := by decide +kernel
theorem dL_settle_9 : decode cL_settle 9 = .ok (.lastore, 1) := by decide +kernel
theorem dL_settle_10 : decode cL_settle 10 = .ok (.goto 15, 3) := by decide +kernel
theorem dL_settle_13 : decode cL_settle 13 = .ok (.astore 4, 2) := by decide +kernel
theorem dL_settle_15 : decode cL_settle 15 = .ok (.iconst 1, 1) := by decide +kernel
theorem dL_settle_16 : decode cL_settle 16 = .ok (.ireturn, 1) := by decide +kernel
theorem dL_settle_17 : decode cL_settle 17 = .ok (.astore 4, 2) := by decide +kernel
theorem dL_settle_19 : decode cL_settle 19 = .ok (.iconst 2, 1) := by decide +kernel
theorem dL_settle_20 : decode cL_settle 20 = .ok (.ireturn, 1) := by decide +kernel
theorem dL_settle_21 : decode cL_settle 21 = .ok (.astore 4, 2) := by decide +kernel
theorem dL_settle_23 : decode cL_settle 23 = .ok (.iconst 3, 1) := by decide +kernel
theorem dL_settle_24 : decode cL_settle 24 = .ok (.ireturn, 1) := by decide +kernel
theorem dL_settle_25 : decode cL_settle 25 = .ok (.iconst 0, 1) := by decide +kernel
theorem dL_settle_26 : decode cL_settle 26 = .ok (.ireturn, 1) := by decide +kernel
theorem dL_chargeInterest_0 : decode cL_chargeInterest 0 = .ok (.aload_n 3, 1) := by decide +kernel
theorem dL_chargeInterest_1 : decode cL_chargeInterest 1 = .ok (.iconst 0, 1) := by decide +kernel
theorem dL_chargeInterest_2 : decode cL_chargeInterest 2 = .ok (.aload_n 0, 1) := by decide +kernel
theorem dL_chargeInterest_3 : decode cL_chargeInterest 3 = .ok (.iload_n 1, 1) := by decide +kernel
theorem dL_chargeInterest_4 : decode cL_chargeInterest 4 = .ok (.iload_n 2, 1) := by decide +kernel
theorem dL_chargeInterest_5 : decode cL_chargeInterest 5 = .ok (.invokevirtual 63, 3) := by decide +kernel
theorem dL_chargeInterest_8 : decode cL_chargeInterest 8 = .ok (.i2l, 1) := by decide +kernel
theorem dL_chargeInterest_9 : decode cL_chargeInterest 9 = .ok (.lastore, 1) := by decide +kernel
theorem dL_chargeInterest_10 : decode cL_chargeInterest 10 = .ok (.goto 15, 3) := by decide +kernel
theorem dL_chargeInterest_13 : decode cL_chargeInterest 13 = .ok (.astore 4, 2) := by decide +kernel
theorem dL_chargeInterest_15 : decode cL_chargeInterest 15 = .ok (.iconst 1, 1) := by decide +kernel
theorem dL_chargeInterest_16 : decode cL_chargeInterest 16 = .ok (.ireturn, 1) := by decide +kernel
theorem dL_chargeInterest_17 : decode cL_chargeInterest 17 = .ok (.astore 4, 2) := by decide +kernel
theorem dL_chargeInterest_19 : decode cL_chargeInterest 19 = .ok (.iconst 2, 1) := by decide +kernel
theorem dL_chargeInterest_20 : decode cL_chargeInterest 20 = .ok (.ireturn, 1) := by decide +kernel
theorem dL_chargeInterest_21 : decode cL_chargeInterest 21 = .ok (.astore 4, 2) := by decide +kernel
theorem dL_chargeInterest_23 : decode cL_chargeInterest 23 = .ok (.iconst 3, 1) := by decide +kernel
theorem dL_chargeInterest_24 : decode cL_chargeInterest 24 = .ok (.ireturn, 1) := by decide +kernel
theorem dL_chargeInterest_25 : decode cL_chargeInterest 25 = .ok (.iconst 0, 1) := by decide +kernel
theorem dL_chargeInterest_26 : decode cL_chargeInterest 26 = .ok (.ireturn, 1) := by decide +kernel
theorem dL_accrued_0 : decode cL_accrued 0 = .ok (.aload_n 2, 1) := by decide +kernel
theorem dL_accrued_1 : decode cL_accrued 1 = .ok (.iconst 0, 1) := by decide +kernel
theorem dL_accrued_2 : decode cL_accrued 2 = .ok (.aload_n 0, 1) := by decide +kernel
theorem dL_accrued_3 : decode cL_accrued 3 = .ok (.iload_n 1, 1) := by decide +kernel
theorem dL_accrued_4 : decode cL_accrued 4 = .ok (.invokevirtual 66, 3) := by decide +kernel
theorem dL_accrued_7 : decode cL_accrued 7 = .ok (.i2l, 1) := by decide +kernel
theorem dL_accrued_8 : decode cL_accrued 8 = .ok (.lastore, 1) := by decide +kernel
theorem dL_accrued_9 : decode cL_accrued 9 = .ok (.goto 6, 3) := by decide +kernel
theorem dL_accrued_12 : decode cL_accrued 12 = .ok (.astore_n 3, 1) := by decide +kernel
theorem dL_accrued_13 : decode cL_accrued 13 = .ok (.iconst 1, 1) := by decide +kernel
theorem dL_accrued_14 : decode cL_accrued 14 = .ok (.ireturn, 1) := by decide +kernel
theorem dL_accrued_15 : decode cL_accrued 15 = .ok (.iconst 0, 1) := by decide +kernel
theorem dL_accrued_16 : decode cL_accrued 16 = .ok (.ireturn, 1) := by decide +kernel
theorem dL_isInterest_0 : decode cL_isInterest 0 = .ok (.aload_n 2, 1) := by decide +kernel
theorem dL_isInterest_1 : decode cL_isInterest 1 = .ok (.iconst 0, 1) := by decide +kernel
theorem dL_isInterest_2 : decode cL_isInterest 2 = .ok (.aload_n 0, 1) := by decide +kernel
theorem dL_isInterest_3 : decode cL_isInterest 3 = .ok (.iload_n 1, 1) := by decide +kernel
theorem dL_isInterest_4 : decode cL_isInterest 4 = .ok (.invokevirtual 69, 3) := by decide +kernel
theorem dL_isInterest_7 : decode cL_isInterest 7 = .ok (.ifCond .eq 7, 3) := by decide +kernel
theorem dL_isInterest_10 : decode cL_isInterest 10 = .ok (.lconst 1, 1) := by decide +kernel
theorem dL_isInterest_11 : decode cL_isInterest 11 = .ok (.goto 4, 3) := by decide +kernel
theorem dL_isInterest_14 : decode cL_isInterest 14 = .ok (.lconst 0, 1) := by decide +kernel
theorem dL_isInterest_15 : decode cL_isInterest 15 = .ok (.lastore, 1) := by decide +kernel
theorem dL_isInterest_16 : decode cL_isInterest 16 = .ok (.goto 6, 3) := by decide +kernel
theorem dL_isInterest_19 : decode cL_isInterest 19 = .ok (.astore_n 3, 1) := by decide +kernel
theorem dL_isInterest_20 : decode cL_isInterest 20 = .ok (.iconst 1, 1) := by decide +kernel
theorem dL_isInterest_21 : decode cL_isInterest 21 = .ok (.ireturn, 1) := by decide +kernel
theorem dL_isInterest_22 : decode cL_isInterest 22 = .ok (.iconst 0, 1) := by decide +kernel
theorem dL_isInterest_23 : decode cL_isInterest 23 = .ok (.ireturn, 1) := by decide +kernel
theorem dL_amountOf_0 : decode cL_amountOf 0 = .ok (.aload_n 2, 1) := by decide +kernel
theorem dL_amountOf_1 : decode cL_amountOf 1 = .ok (.iconst 0, 1) := by decide +kernel
theorem dL_amountOf_2 : decode cL_amountOf 2 = .ok (.aload_n 0, 1) := by decide +kernel
theorem dL_amountOf_3 : decode cL_amountOf 3 = .ok (.iload_n 1, 1) := by decide +kernel
theorem dL_amountOf_4 : decode cL_amountOf 4 = .ok (.invokevirtual 73, 3) := by decide +kernel
theorem dL_amountOf_7 : decode cL_amountOf 7 = .ok (.i2l, 1) := by decide +kernel
theorem dL_amountOf_8 : decode cL_amountOf 8 = .ok (.lastore, 1) := by decide +kernel
theorem dL_amountOf_9 : decode cL_amountOf 9 = .ok (.goto 6, 3) := by decide +kernel
theorem dL_amountOf_12 : decode cL_amountOf 12 = .ok (.astore_n 3, 1) := by decide +kernel
theorem dL_amountOf_13 : decode cL_amountOf 13 = .ok (.iconst 1, 1) := by decide +kernel
theorem dL_amountOf_14 : decode cL_amountOf 14 = .ok (.ireturn, 1) := by decide +kernel
theorem dL_amountOf_15 : decode cL_amountOf 15 = .ok (.iconst 0, 1) := by decide +kernel
theorem dL_amountOf_16 : decode cL_amountOf 16 = .ok (.ireturn, 1) := by decide +kernel
theorem dL_dueDay_0 : decode cL_dueDay 0 = .ok (.aload_n 2, 1) := by decide +kernel
theorem dL_dueDay_1 : decode cL_dueDay 1 = .ok (.iconst 0, 1) := by decide +kernel
theorem dL_dueDay_2 : decode cL_dueDay 2 = .ok (.aload_n 0, 1) := by decide +kernel
theorem dL_dueDay_3 : decode cL_dueDay 3 = .ok (.iload_n 1, 1) := by decide +kernel
theorem dL_dueDay_4 : decode cL_dueDay 4 = .ok (.invokevirtual 76, 3) := by decide +kernel
theorem dL_dueDay_7 : decode cL_dueDay 7 = .ok (.i2l, 1) := by decide +kernel
theorem dL_dueDay_8 : decode cL_dueDay 8 = .ok (.lastore, 1) := by decide +kernel
theorem dL_dueDay_9 : decode cL_dueDay 9 = .ok (.goto 6, 3) := by decide +kernel
theorem dL_dueDay_12 : decode cL_dueDay 12 = .ok (.astore_n 3, 1) := by decide +kernel
theorem dL_dueDay_13 : decode cL_dueDay 13 = .ok (.iconst 1, 1) := by decide +kernel
theorem dL_dueDay_14 : decode cL_dueDay 14 = .ok (.ireturn, 1) := by decide +kernel
theorem dL_dueDay_15 : decode cL_dueDay 15 = .ok (.iconst 0, 1) := by decide +kernel
theorem dL_dueDay_16 : decode cL_dueDay 16 = .ok (.ireturn, 1) := by decide +kernel
theorem dL_openOf_0 : decode cL_openOf 0 = .ok (.aload_n 2, 1) := by decide +kernel
theorem dL_openOf_1 : decode cL_openOf 1 = .ok (.iconst 0, 1) := by decide +kernel
theorem dL_openOf_2 : decode cL_openOf 2 = .ok (.aload_n 0, 1) := by decide +kernel
theorem dL_openOf_3 : decode cL_openOf 3 = .ok (.iload_n 1, 1) := by decide +kernel
theorem dL_openOf_4 : decode cL_openOf 4 = .ok (.invokevirtual 79, 3) := by decide +kernel
theorem dL_openOf_7 : decode cL_openOf 7 = .ok (.i2l, 1) := by decide +kernel
theorem dL_openOf_8 : decode cL_openOf 8 = .ok (.lastore, 1) := by decide +kernel
theorem dL_openOf_9 : decode cL_openOf 9 = .ok (.goto 6, 3) := by decide +kernel
theorem dL_openOf_12 : decode cL_openOf 12 = .ok (.astore_n 3, 1) := by decide +kernel
theorem dL_openOf_13 : decode cL_openOf 13 = .ok (.iconst 1, 1) := by decide +kernel
theorem dL_openOf_14 : decode cL_openOf 14 = .ok (.ireturn, 1) := by decide +kernel
theorem dL_openOf_15 : decode cL_openOf 15 = .ok (.iconst 0, 1) := by decide +kernel
theorem dL_openOf_16 : decode cL_openOf 16 = .ok (.ireturn, 1) := by decide +kernel
theorem dL_openByLedger_0 : decode cL_openByLedger 0 = .ok (.aload_n 2, 1) := by decide +kernel
theorem dL_openByLedger_1 : decode cL_openByLedger 1 = .ok (.iconst 0, 1) := by decide +kernel
theorem dL_openByLedger_2 : decode cL_openByLedger 2 = .ok (.aload_n 0, 1) := by decide +kernel
theorem dL_openByLedger_3 : decode cL_openByLedger 3 = .ok (.iload_n 1, 1) := by decide +kernel
theorem dL_openByLedger_4 : decode cL_openByLedger 4 = .ok (.invokevirtual 82, 3) := by decide +kernel
theorem dL_openByLedger_7 : decode cL_openByLedger 7 = .ok (.i2l, 1) := by decide +kernel
theorem dL_openByLedger_8 : decode cL_openByLedger 8 = .ok (.lastore, 1) := by decide +kernel
theorem dL_openByLedger_9 : decode cL_openByLedger 9 = .ok (.goto 6, 3) := by decide +kernel
theorem dL_openByLedger_12 : decode cL_openByLedger 12 = .ok (.astore_n 3, 1) := by decide +kernel
theorem dL_openByLedger_13 : decode cL_openByLedger 13 = .ok (.iconst 1, 1) := by decide +kernel
theorem dL_openByLedger_14 : decode cL_openByLedger 14 = .ok (.ireturn, 1) := by decide +kernel
theorem dL_openByLedger_15 : decode cL_openByLedger 15 = .ok (.iconst 0, 1) := by decide +kernel
theorem dL_openByLedger_16 : decode cL_openByLedger 16 = .ok (.ireturn, 1) := by decide +kernel
theorem dL_disputedOf_0 : decode cL_disputedOf 0 = .ok (.aload_n 2, 1) := by decide +kernel
theorem dL_disputedOf_1 : decode cL_disputedOf 1 = .ok (.iconst 0, 1) := by decide +kernel
theorem dL_disputedOf_2 : decode cL_disputedOf 2 = .ok (.aload_n 0, 1) := by decide +kernel
theorem dL_disputedOf_3 : decode cL_disputedOf 3 = .ok (.iload_n 1, 1) := by decide +kernel
theorem dL_disputedOf_4 : decode cL_disputedOf 4 = .ok (.invokevirtual 85, 3) := by decide +kernel
theorem dL_disputedOf_7 : decode cL_disputedOf 7 = .ok (.i2l, 1) := by decide +kernel
theorem dL_disputedOf_8 : decode cL_disputedOf 8 = .ok (.lastore, 1) := by decide +kernel
theorem dL_disputedOf_9 : decode cL_disputedOf 9 = .ok (.goto 6, 3) := by decide +kernel
theorem dL_disputedOf_12 : decode cL_disputedOf 12 = .ok (.astore_n 3, 1) := by decide +kernel
theorem dL_disputedOf_13 : decode cL_disputedOf 13 = .ok (.iconst 1, 1) := by decide +kernel
theorem dL_disputedOf_14 : decode cL_disputedOf 14 = .ok (.ireturn, 1) := by decide +kernel
theorem dL_disputedOf_15 : decode cL_disputedOf 15 = .ok (.iconst 0, 1) := by decide +kernel
theorem dL_disputedOf_16 : decode cL_disputedOf 16 = .ok (.ireturn, 1) := by decide +kernel
theorem dL_allocated_0 : decode cL_allocated 0 = .ok (.aload_n 3, 1) := by decide +kernel
theorem dL_allocated_1 : decode cL_allocated 1 = .ok (.iconst 0, 1) := by decide +kernel
theorem dL_allocated_2 : decode cL_allocated 2 = .ok (.aload_n 0, 1) := by decide +kernel
theorem dL_allocated_3 : decode cL_allocated 3 = .ok (.iload_n 1, 1) := by decide +kernel
theorem dL_allocated_4 : decode cL_allocated 4 = .ok (.iload_n 2, 1) := by decide +kernel
theorem dL_allocated_5 : decode cL_allocated 5 = .ok (.invokevirtual 88, 3) := by decide +kernel
theorem dL_allocated_8 : decode cL_allocated 8 = .ok (.i2l, 1) := by decide +kernel
theorem dL_allocated_9 : decode cL_allocated 9 = .ok (.lastore, 1) := by decide +kernel
theorem dL_allocated_10 : decode cL_allocated 10 = .ok (.goto 7, 3) := by decide +kernel
theorem dL_allocated_13 : decode cL_allocated 13 = .ok (.astore 4, 2) := by decide +kernel
theorem dL_allocated_15 : decode cL_allocated 15 = .ok (.iconst 1, 1) := by decide +kernel
theorem dL_allocated_16 : decode cL_allocated 16 = .ok (.ireturn, 1) := by decide +kernel
theorem dL_allocated_17 : decode cL_allocated 17 = .ok (.iconst 0, 1) := by decide +kernel
theorem dL_allocated_18 : decode cL_allocated 18 = .ok (.ireturn, 1) := by decide +kernel
theorem dL_unallocated_0 : decode cL_unallocated 0 = .ok (.aload_n 2, 1) := by decide +kernel
theorem dL_unallocated_1 : decode cL_unallocated 1 = .ok (.iconst 0, 1) := by decide +kernel
theorem dL_unallocated_2 : decode cL_unallocated 2 = .ok (.aload_n 0, 1) := by decide +kernel
theorem dL_unallocated_3 : decode cL_unallocated 3 = .ok (.iload_n 1, 1) := by decide +kernel
theorem dL_unallocated_4 : decode cL_unallocated 4 = .ok (.invokevirtual 91, 3) := by decide +kernel
theorem dL_unallocated_7 : decode cL_unallocated 7 = .ok (.i2l, 1) := by decide +kernel
theorem dL_unallocated_8 : decode cL_unallocated 8 = .ok (.lastore, 1) := by decide +kernel
theorem dL_unallocated_9 : decode cL_unallocated 9 = .ok (.goto 6, 3) := by decide +kernel
theorem dL_unallocated_12 : decode cL_unallocated 12 = .ok (.astore_n 3, 1) := by decide +kernel
theorem dL_unallocated_13 : decode cL_unallocated 13 = .ok (.iconst 1, 1) := by decide +kernel
theorem dL_unallocated_14 : decode cL_unallocated 14 = .ok (.ireturn, 1) := by decide +kernel
theorem dL_unallocated_15 : decode cL_unallocated 15 = .ok (.iconst 0, 1) := by decide +kernel
theorem dL_unallocated_16 : decode cL_unallocated 16 = .ok (.ireturn, 1) := by decide +kernel
theorem dL_balance_0 : decode cL_balance 0 = .ok (.aload_n 2, 1) := by decide +kernel
theorem dL_balance_1 : decode cL_balance 1 = .ok (.iconst 0, 1) := by decide +kernel
theorem dL_balance_2 : decode cL_balance 2 = .ok (.aload_n 0, 1) := by decide +kernel
theorem dL_balance_3 : decode cL_balance 3 = .ok (.iload_n 1, 1) := by decide +kernel
theorem dL_balance_4 : decode cL_balance 4 = .ok (.invokevirtual 94, 3) := by decide +kernel
theorem dL_balance_7 : decode cL_balance 7 = .ok (.i2l, 1) := by decide +kernel
theorem dL_balance_8 : decode cL_balance 8 = .ok (.lastore, 1) := by decide +kernel
theorem dL_balance_9 : decode cL_balance 9 = .ok (.goto 6, 3) := by decide +kernel
theorem dL_balance_12 : decode cL_balance 12 = .ok (.astore_n 3, 1) := by decide +kernel
theorem dL_balance_13 : decode cL_balance 13 = .ok (.iconst 1, 1) := by decide +kernel
theorem dL_balance_14 : decode cL_balance 14 = .ok (.ireturn, 1) := by decide +kernel
theorem dL_balance_15 : decode cL_balance 15 = .ok (.iconst 0, 1) := by decide +kernel
theorem dL_balance_16 : decode cL_balance 16 = .ok (.ireturn, 1) := by decide +kernel
theorem dL_bucketOf_0 : decode cL_bucketOf 0 = .ok (.aload_n 2, 1) := by decide +kernel
theorem dL_bucketOf_1 : decode cL_bucketOf 1 = .ok (.iconst 0, 1) := by decide +kernel
theorem dL_bucketOf_2 : decode cL_bucketOf 2 = .ok (.aload_n 0, 1) := by decide +kernel
theorem dL_bucketOf_3 : decode cL_bucketOf 3 = .ok (.iload_n 1, 1) := by decide +kernel
theorem dL_bucketOf_4 : decode cL_bucketOf 4 = .ok (.invokevirtual 97, 3) := by decide +kernel
theorem dL_bucketOf_7 : decode cL_bucketOf 7 = .ok (.i2l, 1) := by decide +kernel
theorem dL_bucketOf_8 : decode cL_bucketOf 8 = .ok (.lastore, 1) := by decide +kernel
theorem dL_bucketOf_9 : decode cL_bucketOf 9 = .ok (.goto 6, 3) := by decide +kernel
theorem dL_bucketOf_12 : decode cL_bucketOf 12 = .ok (.astore_n 3, 1) := by decide +kernel
theorem dL_bucketOf_13 : decode cL_bucketOf 13 = .ok (.iconst 1, 1) := by decide +kernel
theorem dL_bucketOf_14 : decode cL_bucketOf 14 = .ok (.ireturn, 1) := by decide +kernel
theorem dL_bucketOf_15 : decode cL_bucketOf 15 = .ok (.iconst 0, 1) := by decide +kernel
theorem dL_bucketOf_16 : decode cL_bucketOf 16 = .ok (.ireturn, 1) := by decide +kernel
theorem dL_ageing_0 : decode cL_ageing 0 = .ok (.aload_n 3, 1) := by decide +kernel
theorem dL_ageing_1 : decode cL_ageing 1 = .ok (.iconst 0, 1) := by decide +kernel
theorem dL_ageing_2 : decode cL_ageing 2 = .ok (.aload_n 0, 1) := by decide +kernel
theorem dL_ageing_3 : decode cL_ageing 3 = .ok (.iload_n 1, 1) := by decide +kernel
theorem dL_ageing_4 : decode cL_ageing 4 = .ok (.iload_n 2, 1) := by decide +kernel
theorem dL_ageing_5 : decode cL_ageing 5 = .ok (.invokevirtual 100, 3) := by decide +kernel
theorem dL_ageing_8 : decode cL_ageing 8 = .ok (.i2l, 1) := by decide +kernel
theorem dL_ageing_9 : decode cL_ageing 9 = .ok (.lastore, 1) := by decide +kernel
theorem dL_ageing_10 : decode cL_ageing 10 = .ok (.goto 7, 3) := by decide +kernel
theorem dL_ageing_13 : decode cL_ageing 13 = .ok (.astore 4, 2) := by decide +kernel
theorem dL_ageing_15 : decode cL_ageing 15 = .ok (.iconst 1, 1) := by decide +kernel
theorem dL_ageing_16 : decode cL_ageing 16 = .ok (.ireturn, 1) := by decide +kernel
theorem dL_ageing_17 : decode cL_ageing 17 = .ok (.iconst 0, 1) := by decide +kernel
theorem dL_ageing_18 : decode cL_ageing 18 = .ok (.ireturn, 1) := by decide +kernel
theorem dL_oldest_0 : decode cL_oldest 0 = .ok (.aload_n 2, 1) := by decide +kernel
theorem dL_oldest_1 : decode cL_oldest 1 = .ok (.iconst 0, 1) := by decide +kernel
theorem dL_oldest_2 : decode cL_oldest 2 = .ok (.aload_n 0, 1) := by decide +kernel
theorem dL_oldest_3 : decode cL_oldest 3 = .ok (.iload_n 1, 1) := by decide +kernel
theorem dL_oldest_4 : decode cL_oldest 4 = .ok (.invokevirtual 103, 3) := by decide +kernel
theorem dL_oldest_7 : decode cL_oldest 7 = .ok (.i2l, 1) := by decide +kernel
theorem dL_oldest_8 : decode cL_oldest 8 = .ok (.lastore, 1) := by decide +kernel
theorem dL_oldest_9 : decode cL_oldest 9 = .ok (.goto 6, 3) := by decide +kernel
theorem dL_oldest_12 : decode cL_oldest 12 = .ok (.astore_n 3, 1) := by decide +kernel
theorem dL_oldest_13 : decode cL_oldest 13 = .ok (.iconst 1, 1) := by decide +kernel
theorem dL_oldest_14 : decode cL_oldest 14 = .ok (.ireturn, 1) := by decide +kernel
theorem dL_oldest_15 : decode cL_oldest 15 = .ok (.iconst 0, 1) := by decide +kernel
theorem dL_oldest_16 : decode cL_oldest 16 = .ok (.ireturn, 1) := by decide +kernel
theorem dL_levelOf_0 : decode cL_levelOf 0 = .ok (.aload_n 2, 1) := by decide +kernel
theorem dL_levelOf_1 : decode cL_levelOf 1 = .ok (.iconst 0, 1) := by decide +kernel
theorem dL_levelOf_2 : decode cL_levelOf 2 = .ok (.aload_n 0, 1) := by decide +kernel
theorem dL_levelOf_3 : decode cL_levelOf 3 = .ok (.iload_n 1, 1) := by decide +kernel
theorem dL_levelOf_4 : decode cL_levelOf 4 = .ok (.invokevirtual 106, 3) := by decide +kernel
theorem dL_levelOf_7 : decode cL_levelOf 7 = .ok (.i2l, 1) := by decide +kernel
theorem dL_levelOf_8 : decode cL_levelOf 8 = .ok (.lastore, 1) := by decide +kernel
theorem dL_levelOf_9 : decode cL_levelOf 9 = .ok (.goto 6, 3) := by decide +kernel
theorem dL_levelOf_12 : decode cL_levelOf 12 = .ok (.astore_n 3, 1) := by decide +kernel
theorem dL_levelOf_13 : decode cL_levelOf 13 = .ok (.iconst 1, 1) := by decide +kernel
theorem dL_levelOf_14 : decode cL_levelOf 14 = .ok (.ireturn, 1) := by decide +kernel
theorem dL_levelOf_15 : decode cL_levelOf 15 = .ok (.iconst 0, 1) := by decide +kernel
theorem dL_levelOf_16 : decode cL_levelOf 16 = .ok (.ireturn, 1) := by decide +kernel
theorem dL_daysToReminder_0 : decode cL_daysToReminder 0 = .ok (.aload_n 2, 1) := by decide +kernel
theorem dL_daysToReminder_1 : decode cL_daysToReminder 1 = .ok (.iconst 0, 1) := by decide +kernel
theorem dL_daysToReminder_2 : decode cL_daysToReminder 2 = .ok (.aload_n 0, 1) := by decide +kernel
theorem dL_daysToReminder_3 : decode cL_daysToReminder 3 = .ok (.iload_n 1, 1) := by decide +kernel
theorem dL_daysToReminder_4 : decode cL_daysToReminder 4 = .ok (.invokevirtual 109, 3) := by decide +kernel
theorem dL_daysToReminder_7 : decode cL_daysToReminder 7 = .ok (.i2l, 1) := by decide +kernel
theorem dL_daysToReminder_8 : decode cL_daysToReminder 8 = .ok (.lastore, 1) := by decide +kernel
theorem dL_daysToReminder_9 : decode cL_daysToReminder 9 = .ok (.goto 6, 3) := by decide +kernel
theorem dL_daysToReminder_12 : decode cL_daysToReminder 12 = .ok (.astore_n 3, 1) := by decide +kernel
theorem dL_daysToReminder_13 : decode cL_daysToReminder 13 = .ok (.iconst 1, 1) := by decide +kernel
theorem dL_daysToReminder_14 : decode cL_daysToReminder 14 = .ok (.ireturn, 1) := by decide +kernel
theorem dL_daysToReminder_15 : decode cL_daysToReminder 15 = .ok (.iconst 0, 1) := by decide +kernel
theorem dL_daysToReminder_16 : decode cL_daysToReminder 16 = .ok (.ireturn, 1) := by decide +kernel
theorem dL_invoicesAt_0 : decode cL_invoicesAt 0 = .ok (.aload_n 2, 1) := by decide +kernel
theorem dL_invoicesAt_1 : decode cL_invoicesAt 1 = .ok (.iconst 0, 1) := by decide +kernel
theorem dL_invoicesAt_2 : decode cL_invoicesAt 2 = .ok (.aload_n 0, 1) := by decide +kernel
theorem dL_invoicesAt_3 : decode cL_invoicesAt 3 = .ok (.iload_n 1, 1) := by decide +kernel
theorem dL_invoicesAt_4 : decode cL_invoicesAt 4 = .ok (.invokevirtual 112, 3) := by decide +kernel
theorem dL_invoicesAt_7 : decode cL_invoicesAt 7 = .ok (.i2l, 1) := by decide +kernel
theorem dL_invoicesAt_8 : decode cL_invoicesAt 8 = .ok (.lastore, 1) := by decide +kernel
theorem dL_invoicesAt_9 : decode cL_invoicesAt 9 = .ok (.goto 6, 3) := by decide +kernel
theorem dL_invoicesAt_12 : decode cL_invoicesAt 12 = .ok (.astore_n 3, 1) := by decide +kernel
theorem dL_invoicesAt_13 : decode cL_invoicesAt 13 = .ok (.iconst 1, 1) := by decide +kernel
theorem dL_invoicesAt_14 : decode cL_invoicesAt 14 = .ok (.ireturn, 1) := by decide +kernel
theorem dL_invoicesAt_15 : decode cL_invoicesAt 15 = .ok (.iconst 0, 1) := by decide +kernel
theorem dL_invoicesAt_16 : decode cL_invoicesAt 16 = .ok (.ireturn, 1) := by decide +kernel
theorem dL_lineInvoice_0 : decode cL_lineInvoice 0 = .ok (.aload_n 2, 1) := by decide +kernel
theorem dL_lineInvoice_1 : decode cL_lineInvoice 1 = .ok (.iconst 0, 1) := by decide +kernel
theorem dL_lineInvoice_2 : decode cL_lineInvoice 2 = .ok (.aload_n 0, 1) := by decide +kernel
theorem dL_lineInvoice_3 : decode cL_lineInvoice 3 = .ok (.iload_n 1, 1) := by decide +kernel
theorem dL_lineInvoice_4 : decode cL_lineInvoice 4 = .ok (.invokevirtual 115, 3) := by decide +kernel
theorem dL_lineInvoice_7 : decode cL_lineInvoice 7 = .ok (.i2l, 1) := by decide +kernel
theorem dL_lineInvoice_8 : decode cL_lineInvoice 8 = .ok (.lastore, 1) := by decide +kernel
theorem dL_lineInvoice_9 : decode cL_lineInvoice 9 = .ok (.goto 6, 3) := by decide +kernel
theorem dL_lineInvoice_12 : decode cL_lineInvoice 12 = .ok (.astore_n 3, 1) := by decide +kernel
theorem dL_lineInvoice_13 : decode cL_lineInvoice 13 = .ok (.iconst 1, 1) := by decide +kernel
theorem dL_lineInvoice_14 : decode cL_lineInvoice 14 = .ok (.ireturn, 1) := by decide +kernel
theorem dL_lineInvoice_15 : decode cL_lineInvoice 15 = .ok (.iconst 0, 1) := by decide +kernel
theorem dL_lineInvoice_16 : decode cL_lineInvoice 16 = .ok (.ireturn, 1) := by decide +kernel
theorem dL_lineAmount_0 : decode cL_lineAmount 0 = .ok (.aload_n 2, 1) := by decide +kernel
theorem dL_lineAmount_1 : decode cL_lineAmount 1 = .ok (.iconst 0, 1) := by decide +kernel
theorem dL_lineAmount_2 : decode cL_lineAmount 2 = .ok (.aload_n 0, 1) := by decide +kernel
theorem dL_lineAmount_3 : decode cL_lineAmount 3 = .ok (.iload_n 1, 1) := by decide +kernel
theorem dL_lineAmount_4 : decode cL_lineAmount 4 = .ok (.invokevirtual 118, 3) := by decide +kernel
theorem dL_lineAmount_7 : decode cL_lineAmount 7 = .ok (.i2l, 1) := by decide +kernel
theorem dL_lineAmount_8 : decode cL_lineAmount 8 = .ok (.lastore, 1) := by decide +kernel
theorem dL_lineAmount_9 : decode cL_lineAmount 9 = .ok (.goto 6, 3) := by decide +kernel
theorem dL_lineAmount_12 : decode cL_lineAmount 12 = .ok (.astore_n 3, 1) := by decide +kernel
theorem dL_lineAmount_13 : decode cL_lineAmount 13 = .ok (.iconst 1, 1) := by decide +kernel
theorem dL_lineAmount_14 : decode cL_lineAmount 14 = .ok (.ireturn, 1) := by decide +kernel
theorem dL_lineAmount_15 : decode cL_lineAmount 15 = .ok (.iconst 0, 1) := by decide +kernel
theorem dL_lineAmount_16 : decode cL_lineAmount 16 = .ok (.ireturn, 1) := by decide +kernel
theorem dL_law_0 : decode cL_law 0 = .ok (.new 8, 3) := by decide +kernel
theorem dL_law_3 : decode cL_law 3 = .ok (.dup, 1) := by decide +kernel
theorem dL_law_4 : decode cL_law 4 = .ok (.invokespecial 121, 3) := by decide +kernel
theorem dL_law_7 : decode cL_law 7 = .ok (.astore_n 1, 1) := by decide +kernel
theorem dL_law_8 : decode cL_law 8 = .ok (.new 122, 3) := by decide +kernel
theorem dL_law_11 : decode cL_law 11 = .ok (.dup, 1) := by decide +kernel
theorem dL_law_12 : decode cL_law 12 = .ok (.invokespecial 124, 3) := by decide +kernel
theorem dL_law_15 : decode cL_law 15 = .ok (.astore_n 2, 1) := by decide +kernel
theorem dL_law_16 : decode cL_law 16 = .ok (.iconst 1, 1) := by decide +kernel
theorem dL_law_17 : decode cL_law 17 = .ok (.newarray .long, 2) := by decide +kernel
theorem dL_law_19 : decode cL_law 19 = .ok (.astore_n 3, 1) := by decide +kernel
theorem dL_law_20 : decode cL_law 20 = .ok (.iconst 0, 1) := by decide +kernel
theorem dL_law_21 : decode cL_law 21 = .ok (.istore 4, 2) := by decide +kernel
theorem dL_law_23 : decode cL_law 23 = .ok (.iload 4, 2) := by decide +kernel
theorem dL_law_25 : decode cL_law 25 = .ok (.aload_n 0, 1) := by decide +kernel
theorem dL_law_26 : decode cL_law 26 = .ok (.arraylength, 1) := by decide +kernel
theorem dL_law_27 : decode cL_law 27 = .ok (.iconst 4, 1) := by decide +kernel
theorem dL_law_28 : decode cL_law 28 = .ok (.isub, 1) := by decide +kernel
theorem dL_law_29 : decode cL_law 29 = .ok (.if_icmp .gt 2389, 3) := by decide +kernel
theorem dL_law_32 : decode cL_law 32 = .ok (.aload_n 0, 1) := by decide +kernel
theorem dL_law_33 : decode cL_law 33 = .ok (.iload 4, 2) := by decide +kernel
theorem dL_law_35 : decode cL_law 35 = .ok (.iaload, 1) := by decide +kernel
theorem dL_law_36 : decode cL_law 36 = .ok (.bipush 63, 2) := by decide +kernel
theorem dL_law_38 : decode cL_law 38 = .ok (.iand, 1) := by decide +kernel
theorem dL_law_39 : decode cL_law 39 = .ok (.tableswitch 2373 0 38 #[169, 249, 317, 385, 453, 466, 522, 602, 682, 750, 830, 886, 954, 1010, 1078, 1146, 1214, 1282, 1338, 1401, 1414, 1427, 1440, 1496, 1552, 1608, 1664, 1720, 1788, 1844, 1900, 1956, 2024, 2080, 2136, 2192, 2248, 2261, 2317], 169) := by decide +kernel
theorem dL_law_208 : decode cL_law 208 = .ok (.aload_n 1, 1) := by decide +kernel
theorem dL_law_209 : decode cL_law 209 = .ok (.aload_n 0, 1) := by decide +kernel
theorem dL_law_210 : decode cL_law 210 = .ok (.iload 4, 2) := by decide +kernel
theorem dL_law_212 : decode cL_law 212 = .ok (.iconst 1, 1) := by decide +kernel
theorem dL_law_213 : decode cL_law 213 = .ok (.iadd, 1) := by decide +kernel
theorem dL_law_214 : decode cL_law 214 = .ok (.iaload, 1) := by decide +kernel
theorem dL_law_215 : decode cL_law 215 = .ok (.aload_n 0, 1) := by decide +kernel
theorem dL_law_216 : decode cL_law 216 = .ok (.iload 4, 2) := by decide +kernel
theorem dL_law_218 : decode cL_law 218 = .ok (.iconst 2, 1) := by decide +kernel
theorem dL_law_219 : decode cL_law 219 = .ok (.iadd, 1) := by decide +kernel
theorem dL_law_220 : decode cL_law 220 = .ok (.iaload, 1) := by decide +kernel
theorem dL_law_221 : decode cL_law 221 = .ok (.aload_n 0, 1) := by decide +kernel
theorem dL_law_222 : decode cL_law 222 = .ok (.iload 4, 2) := by decide +kernel
theorem dL_law_224 : decode cL_law 224 = .ok (.iconst 3, 1) := by decide +kernel
theorem dL_law_225 : decode cL_law 225 = .ok (.iadd, 1) := by decide +kernel
theorem dL_law_226 : decode cL_law 226 = .ok (.iaload, 1) := by decide +kernel
theorem dL_law_227 : decode cL_law 227 = .ok (.aload_n 3, 1) := by decide +kernel
theorem dL_law_228 : decode cL_law 228 = .ok (.invokestatic 125, 3) := by decide +kernel
theorem dL_law_231 : decode cL_law 231 = .ok (.istore 5, 2) := by decide +kernel
theorem dL_law_233 : decode cL_law 233 = .ok (.aload_n 2, 1) := by decide +kernel
theorem dL_law_234 : decode cL_law 234 = .ok (.aload_n 0, 1) := by decide +kernel
theorem dL_law_235 : decode cL_law 235 = .ok (.iload 4, 2) := by decide +kernel
theorem dL_law_237 : decode cL_law 237 = .ok (.iconst 1, 1) := by decide +kernel
theorem dL_law_238 : decode cL_law 238 = .ok (.iadd, 1) := by decide +kernel
theorem dL_law_239 : decode cL_law 239 = .ok (.iaload, 1) := by decide +kernel
theorem dL_law_240 : decode cL_law 240 = .ok (.aload_n 0, 1) := by decide +kernel
theorem dL_law_241 : decode cL_law 241 = .ok (.iload 4, 2) := by decide +kernel
theorem dL_law_243 : decode cL_law 243 = .ok (.iconst 2, 1) := by decide +kernel
theorem dL_law_244 : decode cL_law 244 = .ok (.iadd, 1) := by decide +kernel
theorem dL_law_245 : decode cL_law 245 = .ok (.iaload, 1) := by decide +kernel
theorem dL_law_246 : decode cL_law 246 = .ok (.aload_n 0, 1) := by decide +kernel
theorem dL_law_247 : decode cL_law 247 = .ok (.iload 4, 2) := by decide +kernel
theorem dL_law_249 : decode cL_law 249 = .ok (.iconst 3, 1) := by decide +kernel
theorem dL_law_250 : decode cL_law 250 = .ok (.iadd, 1) := by decide +kernel
theorem dL_law_251 : decode cL_law 251 = .ok (.iaload, 1) := by decide +kernel
theorem dL_law_252 : decode cL_law 252 = .ok (.invokevirtual 130, 3) := by decide +kernel
theorem dL_law_255 : decode cL_law 255 = .ok (.istore 6, 2) := by decide +kernel
theorem dL_law_257 : decode cL_law 257 = .ok (.aload_n 2, 1) := by decide +kernel
theorem dL_law_258 : decode cL_law 258 = .ok (.invokevirtual 131, 3) := by decide +kernel
theorem dL_law_261 : decode cL_law 261 = .ok (.iload 5, 2) := by decide +kernel
theorem dL_law_263 : decode cL_law 263 = .ok (.if_icmp .eq 5, 3) := by decide +kernel
theorem dL_law_266 : decode cL_law 266 = .ok (.iconst 0, 1) := by decide +kernel
theorem dL_law_267 : decode cL_law 267 = .ok (.ireturn, 1) := by decide +kernel
theorem dL_law_268 : decode cL_law 268 = .ok (.iload 5, 2) := by decide +kernel
theorem dL_law_270 : decode cL_law 270 = .ok (.ifCond .ne 15, 3) := by decide +kernel
theorem dL_law_273 : decode cL_law 273 = .ok (.aload_n 3, 1) := by decide +kernel
theorem dL_law_274 : decode cL_law 274 = .ok (.iconst 0, 1) := by decide +kernel
theorem dL_law_275 : decode cL_law 275 = .ok (.laload, 1) := by decide +kernel
theorem dL_law_276 : decode cL_law 276 = .ok (.iload 6, 2) := by decide +kernel
theorem dL_law_278 : decode cL_law 278 = .ok (.i2l, 1) := by decide +kernel
theorem dL_law_279 : decode cL_law 279 = .ok (.lcmp, 1) := by decide +kernel
theorem dL_law_280 : decode cL_law 280 = .ok (.ifCond .eq 5, 3) := by decide +kernel
theorem dL_law_283 : decode cL_law 283 = .ok (.iconst 0, 1) := by decide +kernel
theorem dL_law_284 : decode cL_law 284 = .ok (.ireturn, 1) := by decide +kernel
theorem dL_law_285 : decode cL_law 285 = .ok (.goto 2127, 3) := by decide +kernel
theorem dL_law_288 : decode cL_law 288 = .ok (.aload_n 1, 1) := by decide +kernel
theorem dL_law_289 : decode cL_law 289 = .ok (.aload_n 0, 1) := by decide +kernel
theorem dL_law_290 : decode cL_law 290 = .ok (.iload 4, 2) := by decide +kernel
theorem dL_law_292 : decode cL_law 292 = .ok (.iconst 1, 1) := by decide +kernel
theorem dL_law_293 : decode cL_law 293 = .ok (.iadd, 1) := by decide +kernel
theorem dL_law_294 : decode cL_law 294 = .ok (.iaload, 1) := by decide +kernel
theorem dL_law_295 : decode cL_law 295 = .ok (.aload_n 0, 1) := by decide +kernel
theorem dL_law_296 : decode cL_law 296 = .ok (.iload 4, 2) := by decide +kernel
theorem dL_law_298 : decode cL_law 298 = .ok (.iconst 2, 1) := by decide +kernel
theorem dL_law_299 : decode cL_law 299 = .ok (.iadd, 1) := by decide +kernel
theorem dL_law_300 : decode cL_law 300 = .ok (.iaload, 1) := by decide +kernel
theorem dL_law_301 : decode cL_law 301 = .ok (.aload_n 3, 1) := by decide +kernel
theorem dL_law_302 : decode cL_law 302 = .ok (.invokestatic 135, 3) := by decide +kernel
theorem dL_law_305 : decode cL_law 305 = .ok (.istore 5, 2) := by decide +kernel
theorem dL_law_307 : decode cL_law 307 = .ok (.aload_n 2, 1) := by decide +kernel
theorem dL_law_308 : decode cL_law 308 = .ok (.aload_n 0, 1) := by decide +kernel
theorem dL_law_309 : decode cL_law 309 = .ok (.iload 4, 2) := by decide +kernel
theorem dL_law_311 : decode cL_law 311 = .ok (.iconst 1, 1) := by decide +kernel
theorem dL_law_312 : decode cL_law 312 = .ok (.iadd, 1) := by decide +kernel
theorem dL_law_313 : decode cL_law 313 = .ok (.iaload, 1) := by decide +kernel
theorem dL_law_314 : decode cL_law 314 = .ok (.aload_n 0, 1) := by decide +kernel
theorem dL_law_315 : decode cL_law 315 = .ok (.iload 4, 2) := by decide +kernel
theorem dL_law_317 : decode cL_law 317 = .ok (.iconst 2, 1) := by decide +kernel
theorem dL_law_318 : decode cL_law 318 = .ok (.iadd, 1) := by decide +kernel
theorem dL_law_319 : decode cL_law 319 = .ok (.iaload, 1) := by decide +kernel
theorem dL_law_320 : decode cL_law 320 = .ok (.invokevirtual 138, 3) := by decide +kernel
theorem dL_law_323 : decode cL_law 323 = .ok (.istore 6, 2) := by decide +kernel
theorem dL_law_325 : decode cL_law 325 = .ok (.aload_n 2, 1) := by decide +kernel
theorem dL_law_326 : decode cL_law 326 = .ok (.invokevirtual 131, 3) := by decide +kernel
theorem dL_law_329 : decode cL_law 329 = .ok (.iload 5, 2) := by decide +kernel
theorem dL_law_331 : decode cL_law 331 = .ok (.if_icmp .eq 5, 3) := by decide +kernel
theorem dL_law_334 : decode cL_law 334 = .ok (.iconst 0, 1) := by decide +kernel
theorem dL_law_335 : decode cL_law 335 = .ok (.ireturn, 1) := by decide +kernel
theorem dL_law_336 : decode cL_law 336 = .ok (.iload 5, 2) := by decide +kernel
theorem dL_law_338 : decode cL_law 338 = .ok (.ifCond .ne 15, 3) := by decide +kernel
theorem dL_law_341 : decode cL_law 341 = .ok (.aload_n 3, 1) := by decide +kernel
theorem dL_law_342 : decode cL_law 342 = .ok (.iconst 0, 1) := by decide +kernel
theorem dL_law_343 : decode cL_law 343 = .ok (.laload, 1) := by decide +kernel
theorem dL_law_344 : decode cL_law 344 = .ok (.iload 6, 2) := by decide +kernel
theorem dL_law_346 : decode cL_law 346 = .ok (.i2l, 1) := by decide +kernel
theorem dL_law_347 : decode cL_law 347 = .ok (.lcmp, 1) := by decide +kernel
theorem dL_law_348 : decode cL_law 348 = .ok (.ifCond .eq 5, 3) := by decide +kernel
theorem dL_law_351 : decode cL_law 351 = .ok (.iconst 0, 1) := by decide +kernel
theorem dL_law_352 : decode cL_law 352 = .ok (.ireturn, 1) := by decide +kernel
theorem dL_law_353 : decode cL_law 353 = .ok (.goto 2059, 3) := by decide +kernel
theorem dL_law_356 : decode cL_law 356 = .ok (.aload_n 1, 1) := by decide +kernel
theorem dL_law_357 : decode cL_law 357 = .ok (.aload_n 0, 1) := by decide +kernel
theorem dL_law_358 : decode cL_law 358 = .ok (.iload 4, 2) := by decide +kernel
theorem dL_law_360 : decode cL_law 360 = .ok (.iconst 1, 1) := by decide +kernel
theorem dL_law_361 : decode cL_law 361 = .ok (.iadd, 1) := by decide +kernel
theorem dL_law_362 : decode cL_law 362 = .ok (.iaload, 1) := by decide +kernel
theorem dL_law_363 : decode cL_law 363 = .ok (.aload_n 0, 1) := by decide +kernel
theorem dL_law_364 : decode cL_law 364 = .ok (.iload 4, 2) := by decide +kernel
theorem dL_law_366 : decode cL_law 366 = .ok (.iconst 2, 1) := by decide +kernel
theorem dL_law_367 : decode cL_law 367 = .ok (.iadd, 1) := by decide +kernel
theorem dL_law_368 : decode cL_law 368 = .ok (.iaload, 1) := by decide +kernel
theorem dL_law_369 : decode cL_law 369 = .ok (.aload_n 3, 1) := by decide +kernel
theorem dL_law_370 : decode cL_law 370 = .ok (.invokestatic 139, 3) := by decide +kernel
theorem dL_law_373 : decode cL_law 373 = .ok (.istore 5, 2) := by decide +kernel
theorem dL_law_375 : decode cL_law 375 = .ok (.aload_n 2, 1) := by decide +kernel
theorem dL_law_376 : decode cL_law 376 = .ok (.aload_n 0, 1) := by decide +kernel
theorem dL_law_377 : decode cL_law 377 = .ok (.iload 4, 2) := by decide +kernel
theorem dL_law_379 : decode cL_law 379 = .ok (.iconst 1, 1) := by decide +kernel
theorem dL_law_380 : decode cL_law 380 = .ok (.iadd, 1) := by decide +kernel
theorem dL_law_381 : decode cL_law 381 = .ok (.iaload, 1) := by decide +kernel
theorem dL_law_382 : decode cL_law 382 = .ok (.aload_n 0, 1) := by decide +kernel
theorem dL_law_383 : decode cL_law 383 = .ok (.iload 4, 2) := by decide +kernel
theorem dL_law_385 : decode cL_law 385 = .ok (.iconst 2, 1) := by decide +kernel
theorem dL_law_386 : decode cL_law 386 = .ok (.iadd, 1) := by decide +kernel
theorem dL_law_387 : decode cL_law 387 = .ok (.iaload, 1) := by decide +kernel
theorem dL_law_388 : decode cL_law 388 = .ok (.invokevirtual 141, 3) := by decide +kernel
theorem dL_law_391 : decode cL_law 391 = .ok (.istore 6, 2) := by decide +kernel
theorem dL_law_393 : decode cL_law 393 = .ok (.aload_n 2, 1) := by decide +kernel
theorem dL_law_394 : decode cL_law 394 = .ok (.invokevirtual 131, 3) := by decide +kernel
theorem dL_law_397 : decode cL_law 397 = .ok (.iload 5, 2) := by decide +kernel
theorem dL_law_399 : decode cL_law 399 = .ok (.if_icmp .eq 5, 3) := by decide +kernel
theorem dL_law_402 : decode cL_law 402 = .ok (.iconst 0, 1) := by decide +kernel
theorem dL_law_403 : decode cL_law 403 = .ok (.ireturn, 1) := by decide +kernel
theorem dL_law_404 : decode cL_law 404 = .ok (.iload 5, 2) := by decide +kernel
theorem dL_law_406 : decode cL_law 406 = .ok (.ifCond .ne 15, 3) := by decide +kernel
theorem dL_law_409 : decode cL_law 409 = .ok (.aload_n 3, 1) := by decide +kernel
theorem dL_law_410 : decode cL_law 410 = .ok (.iconst 0, 1) := by decide +kernel
theorem dL_law_411 : decode cL_law 411 = .ok (.laload, 1) := by decide +kernel
theorem dL_law_412 : decode cL_law 412 = .ok (.iload 6, 2) := by decide +kernel
theorem dL_law_414 : decode cL_law 414 = .ok (.i2l, 1) := by decide +kernel
theorem dL_law_415 : decode cL_law 415 = .ok (.lcmp, 1) := by decide +kernel
theorem dL_law_416 : decode cL_law 416 = .ok (.ifCond .eq 5, 3) := by decide +kernel
theorem dL_law_419 : decode cL_law 419 = .ok (.iconst 0, 1) := by decide +kernel
theorem dL_law_420 : decode cL_law 420 = .ok (.ireturn, 1) := by decide +kernel
theorem dL_law_421 : decode cL_law 421 = .ok (.goto 1991, 3) := by decide +kernel
theorem dL_law_424 : decode cL_law 424 = .ok (.aload_n 1, 1) := by decide +kernel
theorem dL_law_425 : decode cL_law 425 = .ok (.aload_n 0, 1) := by decide +kernel
theorem dL_law_426 : decode cL_law 426 = .ok (.iload 4, 2) := by decide +kernel
theorem dL_law_428 : decode cL_law 428 = .ok (.iconst 1, 1) := by decide +kernel
theorem dL_law_429 : decode cL_law 429 = .ok (.iadd, 1) := by decide +kernel
theorem dL_law_430 : decode cL_law 430 = .ok (.iaload, 1) := by decide +kernel
theorem dL_law_431 : decode cL_law 431 = .ok (.aload_n 0, 1) := by decide +kernel
theorem dL_law_432 : decode cL_law 432 = .ok (.iload 4, 2) := by decide +kernel
theorem dL_law_434 : decode cL_law 434 = .ok (.iconst 2, 1) := by decide +kernel
theorem dL_law_435 : decode cL_law 435 = .ok (.iadd, 1) := by decide +kernel
theorem dL_law_436 : decode cL_law 436 = .ok (.iaload, 1) := by decide +kernel
theorem dL_law_437 : decode cL_law 437 = .ok (.aload_n 3, 1) := by decide +kernel
theorem dL_law_438 : decode cL_law 438 = .ok (.invokestatic 142, 3) := by decide +kernel
theorem dL_law_441 : decode cL_law 441 = .ok (.istore 5, 2) := by decide +kernel
theorem dL_law_443 : decode cL_law 443 = .ok (.aload_n 2, 1) := by decide +kernel
theorem dL_law_444 : decode cL_law 444 = .ok (.aload_n 0, 1) := by decide +kernel
theorem dL_law_445 : decode cL_law 445 = .ok (.iload 4, 2) := by decide +kernel
theorem dL_law_447 : decode cL_law 447 = .ok (.iconst 1, 1) := by decide +kernel
theorem dL_law_448 : decode cL_law 448 = .ok (.iadd, 1) := by decide +kernel
theorem dL_law_449 : decode cL_law 449 = .ok (.iaload, 1) := by decide +kernel
theorem dL_law_450 : decode cL_law 450 = .ok (.aload_n 0, 1) := by decide +kernel
theorem dL_law_451 : decode cL_law 451 = .ok (.iload 4, 2) := by decide +kernel
theorem dL_law_453 : decode cL_law 453 = .ok (.iconst 2, 1) := by decide +kernel
theorem dL_law_454 : decode cL_law 454 = .ok (.iadd, 1) := by decide +kernel
theorem dL_law_455 : decode cL_law 455 = .ok (.iaload, 1) := by decide +kernel
theorem dL_law_456 : decode cL_law 456 = .ok (.invokevirtual 144, 3) := by decide +kernel
theorem dL_law_459 : decode cL_law 459 = .ok (.istore 6, 2) := by decide +kernel
theorem dL_law_461 : decode cL_law 461 = .ok (.aload_n 2, 1) := by decide +kernel
theorem dL_law_462 : decode cL_law 462 = .ok (.invokevirtual 131, 3) := by decide +kernel
theorem dL_law_465 : decode cL_law 465 = .ok (.iload 5, 2) := by decide +kernel
theorem dL_law_467 : decode cL_law 467 = .ok (.if_icmp .eq 5, 3) := by decide +kernel
theorem dL_law_470 : decode cL_law 470 = .ok (.iconst 0, 1) := by decide +kernel
theorem dL_law_471 : decode cL_law 471 = .ok (.ireturn, 1) := by decide +kernel
theorem dL_law_472 : decode cL_law 472 = .ok (.iload 5, 2) := by decide +kernel
theorem dL_law_474 : decode cL_law 474 = .ok (.ifCond .ne 15, 3) := by decide +kernel
theorem dL_law_477 : decode cL_law 477 = .ok (.aload_n 3, 1) := by decide +kernel
theorem dL_law_478 : decode cL_law 478 = .ok (.iconst 0, 1) := by decide +kernel
theorem dL_law_479 : decode cL_law 479 = .ok (.laload, 1) := by decide +kernel
theorem dL_law_480 : decode cL_law 480 = .ok (.iload 6, 2) := by decide +kernel
theorem dL_law_482 : decode cL_law 482 = .ok (.i2l, 1) := by decide +kernel
theorem dL_law_483 : decode cL_law 483 = .ok (.lcmp, 1) := by decide +kernel
theorem dL_law_484 : decode cL_law 484 = .ok (.ifCond .eq 5, 3) := by decide +kernel
theorem dL_law_487 : decode cL_law 487 = .ok (.iconst 0, 1) := by decide +kernel
theorem dL_law_488 : decode cL_law 488 = .ok (.ireturn, 1) := by decide +kernel
theorem dL_law_489 : decode cL_law 489 = .ok (.goto 1923, 3) := by decide +kernel
theorem dL_law_492 : decode cL_law 492 = .ok (.aload_n 1, 1) := by decide +kernel
theorem dL_law_493 : decode cL_law 493 = .ok (.invokevirtual 145, 3) := by decide +kernel
theorem dL_law_496 : decode cL_law 496 = .ok (.aload_n 2, 1) := by decide +kernel
theorem dL_law_497 : decode cL_law 497 = .ok (.invokevirtual 148, 3) := by decide +kernel
theorem dL_law_500 : decode cL_law 500 = .ok (.if_icmp .eq 1912, 3) := by decide +kernel
theorem dL_law_503 : decode cL_law 503 = .ok (.iconst 0, 1) := by decide +kernel
theorem dL_law_504 : decode cL_law 504 = .ok (.ireturn, 1) := by decide +kernel
theorem dL_law_505 : decode cL_law 505 = .ok (.aload_n 1, 1) := by decide +kernel
theorem dL_law_506 : decode cL_law 506 = .ok (.aload_n 0, 1) := by decide +kernel
theorem dL_law_507 : decode cL_law 507 = .ok (.iload 4, 2) := by decide +kernel
theorem dL_law_509 : decode cL_law 509 = .ok (.iconst 1, 1) := by decide +kernel
theorem dL_law_510 : decode cL_law 510 = .ok (.iadd, 1) := by decide +kernel
theorem dL_law_511 : decode cL_law 511 = .ok (.iaload, 1) := by decide +kernel
theorem dL_law_512 : decode cL_law 512 = .ok (.aload_n 3, 1) := by decide +kernel
theorem dL_law_513 : decode cL_law 513 = .ok (.invokestatic 149, 3) := by decide +kernel
theorem dL_law_516 : decode cL_law 516 = .ok (.istore 5, 2) := by decide +kernel
theorem dL_law_518 : decode cL_law 518 = .ok (.aload_n 2, 1) := by decide +kernel
theorem dL_law_519 : decode cL_law 519 = .ok (.aload_n 0, 1) := by decide +kernel
theorem dL_law_520 : decode cL_law 520 = .ok (.iload 4, 2) := by decide +kernel
theorem dL_law_522 : decode cL_law 522 = .ok (.iconst 1, 1) := by decide +kernel
theorem dL_law_523 : decode cL_law 523 = .ok (.iadd, 1) := by decide +kernel
theorem dL_law_524 : decode cL_law 524 = .ok (.iaload, 1) := by decide +kernel
theorem dL_law_525 : decode cL_law 525 = .ok (.invokevirtual 152, 3) := by decide +kernel
theorem dL_law_528 : decode cL_law 528 = .ok (.istore 6, 2) := by decide +kernel
theorem dL_law_530 : decode cL_law 530 = .ok (.aload_n 2, 1) := by decide +kernel
theorem dL_law_531 : decode cL_law 531 = .ok (.invokevirtual 131, 3) := by decide +kernel
theorem dL_law_534 : decode cL_law 534 = .ok (.iload 5, 2) := by decide +kernel
theorem dL_law_536 : decode cL_law 536 = .ok (.if_icmp .eq 5, 3) := by decide +kernel
theorem dL_law_539 : decode cL_law 539 = .ok (.iconst 0, 1) := by decide +kernel
theorem dL_law_540 : decode cL_law 540 = .ok (.ireturn, 1) := by decide +kernel
theorem dL_law_541 : decode cL_law 541 = .ok (.iload 5, 2) := by decide +kernel
theorem dL_law_543 : decode cL_law 543 = .ok (.ifCond .ne 15, 3) := by decide +kernel
theorem dL_law_546 : decode cL_law 546 = .ok (.aload_n 3, 1) := by decide +kernel
theorem dL_law_547 : decode cL_law 547 = .ok (.iconst 0, 1) := by decide +kernel
theorem dL_law_548 : decode cL_law 548 = .ok (.laload, 1) := by decide +kernel
theorem dL_law_549 : decode cL_law 549 = .ok (.iload 6, 2) := by decide +kernel
theorem dL_law_551 : decode cL_law 551 = .ok (.i2l, 1) := by decide +kernel
theorem dL_law_552 : decode cL_law 552 = .ok (.lcmp, 1) := by decide +kernel
theorem dL_law_553 : decode cL_law 553 = .ok (.ifCond .eq 5, 3) := by decide +kernel
theorem dL_law_556 : decode cL_law 556 = .ok (.iconst 0, 1) := by decide +kernel
theorem dL_law_557 : decode cL_law 557 = .ok (.ireturn, 1) := by decide +kernel
theorem dL_law_558 : decode cL_law 558 = .ok (.goto 1854, 3) := by decide +kernel
theorem dL_law_561 : decode cL_law 561 = .ok (.aload_n 1, 1) := by decide +kernel
theorem dL_law_562 : decode cL_law 562 = .ok (.aload_n 0, 1) := by decide +kernel
theorem dL_law_563 : decode cL_law 563 = .ok (.iload 4, 2) := by decide +kernel
theorem dL_law_565 : decode cL_law 565 = .ok (.iconst 1, 1) := by decide +kernel
theorem dL_law_566 : decode cL_law 566 = .ok (.iadd, 1) := by decide +kernel
theorem dL_law_567 : decode cL_law 567 = .ok (.iaload, 1) := by decide +kernel
theorem dL_law_568 : decode cL_law 568 = .ok (.aload_n 0, 1) := by decide +kernel
theorem dL_law_569 : decode cL_law 569 = .ok (.iload 4, 2) := by decide +kernel
theorem dL_law_571 : decode cL_law 571 = .ok (.iconst 2, 1) := by decide +kernel
theorem dL_law_572 : decode cL_law 572 = .ok (.iadd, 1) := by decide +kernel
theorem dL_law_573 : decode cL_law 573 = .ok (.iaload, 1) := by decide +kernel
theorem dL_law_574 : decode cL_law 574 = .ok (.aload_n 0, 1) := by decide +kernel
theorem dL_law_575 : decode cL_law 575 = .ok (.iload 4, 2) := by decide +kernel
theorem dL_law_577 : decode cL_law 577 = .ok (.iconst 3, 1) := by decide +kernel
theorem dL_law_578 : decode cL_law 578 = .ok (.iadd, 1) := by decide +kernel
theorem dL_law_579 : decode cL_law 579 = .ok (.iaload, 1) := by decide +kernel
theorem dL_law_580 : decode cL_law 580 = .ok (.aload_n 3, 1) := by decide +kernel
theorem dL_law_581 : decode cL_law 581 = .ok (.invokestatic 153, 3) := by decide +kernel
theorem dL_law_584 : decode cL_law 584 = .ok (.istore 5, 2) := by decide +kernel
theorem dL_law_586 : decode cL_law 586 = .ok (.aload_n 2, 1) := by decide +kernel
theorem dL_law_587 : decode cL_law 587 = .ok (.aload_n 0, 1) := by decide +kernel
theorem dL_law_588 : decode cL_law 588 = .ok (.iload 4, 2) := by decide +kernel
theorem dL_law_590 : decode cL_law 590 = .ok (.iconst 1, 1) := by decide +kernel
theorem dL_law_591 : decode cL_law 591 = .ok (.iadd, 1) := by decide +kernel
theorem dL_law_592 : decode cL_law 592 = .ok (.iaload, 1) := by decide +kernel
theorem dL_law_593 : decode cL_law 593 = .ok (.aload_n 0, 1) := by decide +kernel
theorem dL_law_594 : decode cL_law 594 = .ok (.iload 4, 2) := by decide +kernel
theorem dL_law_596 : decode cL_law 596 = .ok (.iconst 2, 1) := by decide +kernel
theorem dL_law_597 : decode cL_law 597 = .ok (.iadd, 1) := by decide +kernel
theorem dL_law_598 : decode cL_law 598 = .ok (.iaload, 1) := by decide +kernel
theorem dL_law_599 : decode cL_law 599 = .ok (.aload_n 0, 1) := by decide +kernel
theorem dL_law_600 : decode cL_law 600 = .ok (.iload 4, 2) := by decide +kernel
theorem dL_law_602 : decode cL_law 602 = .ok (.iconst 3, 1) := by decide +kernel
theorem dL_law_603 : decode cL_law 603 = .ok (.iadd, 1) := by decide +kernel
theorem dL_law_604 : decode cL_law 604 = .ok (.iaload, 1) := by decide +kernel
theorem dL_law_605 : decode cL_law 605 = .ok (.invokevirtual 155, 3) := by decide +kernel
theorem dL_law_608 : decode cL_law 608 = .ok (.istore 6, 2) := by decide +kernel
theorem dL_law_610 : decode cL_law 610 = .ok (.aload_n 2, 1) := by decide +kernel
theorem dL_law_611 : decode cL_law 611 = .ok (.invokevirtual 131, 3) := by decide +kernel
theorem dL_law_614 : decode cL_law 614 = .ok (.iload 5, 2) := by decide +kernel
theorem dL_law_616 : decode cL_law 616 = .ok (.if_icmp .eq 5, 3) := by decide +kernel
theorem dL_law_619 : decode cL_law 619 = .ok (.iconst 0, 1) := by decide +kernel
theorem dL_law_620 : decode cL_law 620 = .ok (.ireturn, 1) := by decide +kernel
theorem dL_law_621 : decode cL_law 621 = .ok (.iload 5, 2) := by decide +kernel
theorem dL_law_623 : decode cL_law 623 = .ok (.ifCond .ne 15, 3) := by decide +kernel
theorem dL_law_626 : decode cL_law 626 = .ok (.aload_n 3, 1) := by decide +kernel
theorem dL_law_627 : decode cL_law 627 = .ok (.iconst 0, 1) := by decide +kernel
theorem dL_law_628 : decode cL_law 628 = .ok (.laload, 1) := by decide +kernel
theorem dL_law_629 : decode cL_law 629 = .ok (.iload 6, 2) := by decide +kernel
theorem dL_law_631 : decode cL_law 631 = .ok (.i2l, 1) := by decide +kernel
theorem dL_law_632 : decode cL_law 632 = .ok (.lcmp, 1) := by decide +kernel
theorem dL_law_633 : decode cL_law 633 = .ok (.ifCond .eq 5, 3) := by decide +kernel
theorem dL_law_636 : decode cL_law 636 = .ok (.iconst 0, 1) := by decide +kernel
theorem dL_law_637 : decode cL_law 637 = .ok (.ireturn, 1) := by decide +kernel
theorem dL_law_638 : decode cL_law 638 = .ok (.goto 1774, 3) := by decide +kernel
theorem dL_law_641 : decode cL_law 641 = .ok (.aload_n 1, 1) := by decide +kernel
theorem dL_law_642 : decode cL_law 642 = .ok (.aload_n 0, 1) := by decide +kernel
theorem dL_law_643 : decode cL_law 643 = .ok (.iload 4, 2) := by decide +kernel
theorem dL_law_645 : decode cL_law 645 = .ok (.iconst 1, 1) := by decide +kernel
theorem dL_law_646 : decode cL_law 646 = .ok (.iadd, 1) := by decide +kernel
theorem dL_law_647 : decode cL_law 647 = .ok (.iaload, 1) := by decide +kernel
theorem dL_law_648 : decode cL_law 648 = .ok (.aload_n 0, 1) := by decide +kernel
theorem dL_law_649 : decode cL_law 649 = .ok (.iload 4, 2) := by decide +kernel
theorem dL_law_651 : decode cL_law 651 = .ok (.iconst 2, 1) := by decide +kernel
theorem dL_law_652 : decode cL_law 652 = .ok (.iadd, 1) := by decide +kernel
theorem dL_law_653 : decode cL_law 653 = .ok (.iaload, 1) := by decide +kernel
theorem dL_law_654 : decode cL_law 654 = .ok (.aload_n 0, 1) := by decide +kernel
theorem dL_law_655 : decode cL_law 655 = .ok (.iload 4, 2) := by decide +kernel
theorem dL_law_657 : decode cL_law 657 = .ok (.iconst 3, 1) := by decide +kernel
theorem dL_law_658 : decode cL_law 658 = .ok (.iadd, 1) := by decide +kernel
theorem dL_law_659 : decode cL_law 659 = .ok (.iaload, 1) := by decide +kernel
theorem dL_law_660 : decode cL_law 660 = .ok (.aload_n 3, 1) := by decide +kernel
theorem dL_law_661 : decode cL_law 661 = .ok (.invokestatic 156, 3) := by decide +kernel
theorem dL_law_664 : decode cL_law 664 = .ok (.istore 5, 2) := by decide +kernel
theorem dL_law_666 : decode cL_law 666 = .ok (.aload_n 2, 1) := by decide +kernel
theorem dL_law_667 : decode cL_law 667 = .ok (.aload_n 0, 1) := by decide +kernel
theorem dL_law_668 : decode cL_law 668 = .ok (.iload 4, 2) := by decide +kernel
theorem dL_law_670 : decode cL_law 670 = .ok (.iconst 1, 1) := by decide +kernel
theorem dL_law_671 : decode cL_law 671 = .ok (.iadd, 1) := by decide +kernel
theorem dL_law_672 : decode cL_law 672 = .ok (.iaload, 1) := by decide +kernel
theorem dL_law_673 : decode cL_law 673 = .ok (.aload_n 0, 1) := by decide +kernel
theorem dL_law_674 : decode cL_law 674 = .ok (.iload 4, 2) := by decide +kernel
theorem dL_law_676 : decode cL_law 676 = .ok (.iconst 2, 1) := by decide +kernel
theorem dL_law_677 : decode cL_law 677 = .ok (.iadd, 1) := by decide +kernel
theorem dL_law_678 : decode cL_law 678 = .ok (.iaload, 1) := by decide +kernel
theorem dL_law_679 : decode cL_law 679 = .ok (.aload_n 0, 1) := by decide +kernel
theorem dL_law_680 : decode cL_law 680 = .ok (.iload 4, 2) := by decide +kernel
theorem dL_law_682 : decode cL_law 682 = .ok (.iconst 3, 1) := by decide +kernel
theorem dL_law_683 : decode cL_law 683 = .ok (.iadd, 1) := by decide +kernel
theorem dL_law_684 : decode cL_law 684 = .ok (.iaload, 1) := by decide +kernel
theorem dL_law_685 : decode cL_law 685 = .ok (.invokevirtual 158, 3) := by decide +kernel
theorem dL_law_688 : decode cL_law 688 = .ok (.istore 6, 2) := by decide +kernel
theorem dL_law_690 : decode cL_law 690 = .ok (.aload_n 2, 1) := by decide +kernel
theorem dL_law_691 : decode cL_law 691 = .ok (.invokevirtual 131, 3) := by decide +kernel
theorem dL_law_694 : decode cL_law 694 = .ok (.iload 5, 2) := by decide +kernel
theorem dL_law_696 : decode cL_law 696 = .ok (.if_icmp .eq 5, 3) := by decide +kernel
theorem dL_law_699 : decode cL_law 699 = .ok (.iconst 0, 1) := by decide +kernel
theorem dL_law_700 : decode cL_law 700 = .ok (.ireturn, 1) := by decide +kernel
theorem dL_law_701 : decode cL_law 701 = .ok (.iload 5, 2) := by decide +kernel
theorem dL_law_703 : decode cL_law 703 = .ok (.ifCond .ne 15, 3) := by decide +kernel
theorem dL_law_706 : decode cL_law 706 = .ok (.aload_n 3, 1) := by decide +kernel
theorem dL_law_707 : decode cL_law 707 = .ok (.iconst 0, 1) := by decide +kernel
theorem dL_law_708 : decode cL_law 708 = .ok (.laload, 1) := by decide +kernel
theorem dL_law_709 : decode cL_law 709 = .ok (.iload 6, 2) := by decide +kernel
theorem dL_law_711 : decode cL_law 711 = .ok (.i2l, 1) := by decide +kernel
theorem dL_law_712 : decode cL_law 712 = .ok (.lcmp, 1) := by decide +kernel
theorem dL_law_713 : decode cL_law 713 = .ok (.ifCond .eq 5, 3) := by decide +kernel
theorem dL_law_716 : decode cL_law 716 = .ok (.iconst 0, 1) := by decide +kernel
theorem dL_law_717 : decode cL_law 717 = .ok (.ireturn, 1) := by decide +kernel
theorem dL_law_718 : decode cL_law 718 = .ok (.goto 1694, 3) := by decide +kernel
theorem dL_law_721 : decode cL_law 721 = .ok (.aload_n 1, 1) := by decide +kernel
theorem dL_law_722 : decode cL_law 722 = .ok (.aload_n 0, 1) := by decide +kernel
theorem dL_law_723 : decode cL_law 723 = .ok (.iload 4, 2) := by decide +kernel
theorem dL_law_725 : decode cL_law 725 = .ok (.iconst 1, 1) := by decide +kernel
theorem dL_law_726 : decode cL_law 726 = .ok (.iadd, 1) := by decide +kernel
theorem dL_law_727 : decode cL_law 727 = .ok (.iaload, 1) := by decide +kernel
theorem dL_law_728 : decode cL_law 728 = .ok (.aload_n 0, 1) := by decide +kernel
theorem dL_law_729 : decode cL_law 729 = .ok (.iload 4, 2) := by decide +kernel
theorem dL_law_731 : decode cL_law 731 = .ok (.iconst 2, 1) := by decide +kernel
theorem dL_law_732 : decode cL_law 732 = .ok (.iadd, 1) := by decide +kernel
theorem dL_law_733 : decode cL_law 733 = .ok (.iaload, 1) := by decide +kernel
theorem dL_law_734 : decode cL_law 734 = .ok (.aload_n 3, 1) := by decide +kernel
theorem dL_law_735 : decode cL_law 735 = .ok (.invokestatic 159, 3) := by decide +kernel
theorem dL_law_738 : decode cL_law 738 = .ok (.istore 5, 2) := by decide +kernel
theorem dL_law_740 : decode cL_law 740 = .ok (.aload_n 2, 1) := by decide +kernel
theorem dL_law_741 : decode cL_law 741 = .ok (.aload_n 0, 1) := by decide +kernel
theorem dL_law_742 : decode cL_law 742 = .ok (.iload 4, 2) := by decide +kernel
theorem dL_law_744 : decode cL_law 744 = .ok (.iconst 1, 1) := by decide +kernel
theorem dL_law_745 : decode cL_law 745 = .ok (.iadd, 1) := by decide +kernel
theorem dL_law_746 : decode cL_law 746 = .ok (.iaload, 1) := by decide +kernel
theorem dL_law_747 : decode cL_law 747 = .ok (.aload_n 0, 1) := by decide +kernel
theorem dL_law_748 : decode cL_law 748 = .ok (.iload 4, 2) := by decide +kernel
theorem dL_law_750 : decode cL_law 750 = .ok (.iconst 2, 1) := by decide +kernel
theorem dL_law_751 : decode cL_law 751 = .ok (.iadd, 1) := by decide +kernel
theorem dL_law_752 : decode cL_law 752 = .ok (.iaload, 1) := by decide +kernel
theorem dL_law_753 : decode cL_law 753 = .ok (.invokevirtual 161, 3) := by decide +kernel
theorem dL_law_756 : decode cL_law 756 = .ok (.istore 6, 2) := by decide +kernel
theorem dL_law_758 : decode cL_law 758 = .ok (.aload_n 2, 1) := by decide +kernel
theorem dL_law_759 : decode cL_law 759 = .ok (.invokevirtual 131, 3) := by decide +kernel
theorem dL_law_762 : decode cL_law 762 = .ok (.iload 5, 2) := by decide +kernel
theorem dL_law_764 : decode cL_law 764 = .ok (.if_icmp .eq 5, 3) := by decide +kernel
theorem dL_law_767 : decode cL_law 767 = .ok (.iconst 0, 1) := by decide +kernel
theorem dL_law_768 : decode cL_law 768 = .ok (.ireturn, 1) := by decide +kernel
theorem dL_law_769 : decode cL_law 769 = .ok (.iload 5, 2) := by decide +kernel
theorem dL_law_771 : decode cL_law 771 = .ok (.ifCond .ne 15, 3) := by decide +kernel
theorem dL_law_774 : decode cL_law 774 = .ok (.aload_n 3, 1) := by decide +kernel
theorem dL_law_775 : decode cL_law 775 = .ok (.iconst 0, 1) := by decide +kernel
theorem dL_law_776 : decode cL_law 776 = .ok (.laload, 1) := by decide +kernel
theorem dL_law_777 : decode cL_law 777 = .ok (.iload 6, 2) := by decide +kernel
theorem dL_law_779 : decode cL_law 779 = .ok (.i2l, 1) := by decide +kernel
theorem dL_law_780 : decode cL_law 780 = .ok (.lcmp, 1) := by decide +kernel
theorem dL_law_781 : decode cL_law 781 = .ok (.ifCond .eq 5, 3) := by decide +kernel
theorem dL_law_784 : decode cL_law 784 = .ok (.iconst 0, 1) := by decide +kernel
theorem dL_law_785 : decode cL_law 785 = .ok (.ireturn, 1) := by decide +kernel
theorem dL_law_786 : decode cL_law 786 = .ok (.goto 1626, 3) := by decide +kernel
theorem dL_law_789 : decode cL_law 789 = .ok (.aload_n 1, 1) := by decide +kernel
theorem dL_law_790 : decode cL_law 790 = .ok (.aload_n 0, 1) := by decide +kernel
theorem dL_law_791 : decode cL_law 791 = .ok (.iload 4, 2) := by decide +kernel
theorem dL_law_793 : decode cL_law 793 = .ok (.iconst 1, 1) := by decide +kernel
theorem dL_law_794 : decode cL_law 794 = .ok (.iadd, 1) := by decide +kernel
theorem dL_law_795 : decode cL_law 795 = .ok (.iaload, 1) := by decide +kernel
theorem dL_law_796 : decode cL_law 796 = .ok (.aload_n 0, 1) := by decide +kernel
theorem dL_law_797 : decode cL_law 797 = .ok (.iload 4, 2) := by decide +kernel
theorem dL_law_799 : decode cL_law 799 = .ok (.iconst 2, 1) := by decide +kernel
theorem dL_law_800 : decode cL_law 800 = .ok (.iadd, 1) := by decide +kernel
theorem dL_law_801 : decode cL_law 801 = .ok (.iaload, 1) := by decide +kernel
theorem dL_law_802 : decode cL_law 802 = .ok (.aload_n 0, 1) := by decide +kernel
theorem dL_law_803 : decode cL_law 803 = .ok (.iload 4, 2) := by decide +kernel
theorem dL_law_805 : decode cL_law 805 = .ok (.iconst 3, 1) := by decide +kernel
theorem dL_law_806 : decode cL_law 806 = .ok (.iadd, 1) := by decide +kernel
theorem dL_law_807 : decode cL_law 807 = .ok (.iaload, 1) := by decide +kernel
theorem dL_law_808 : decode cL_law 808 = .ok (.aload_n 3, 1) := by decide +kernel
theorem dL_law_809 : decode cL_law 809 = .ok (.invokestatic 162, 3) := by decide +kernel
theorem dL_law_812 : decode cL_law 812 = .ok (.istore 5, 2) := by decide +kernel
theorem dL_law_814 : decode cL_law 814 = .ok (.aload_n 2, 1) := by decide +kernel
theorem dL_law_815 : decode cL_law 815 = .ok (.aload_n 0, 1) := by decide +kernel
theorem dL_law_816 : decode cL_law 816 = .ok (.iload 4, 2) := by decide +kernel
theorem dL_law_818 : decode cL_law 818 = .ok (.iconst 1, 1) := by decide +kernel
theorem dL_law_819 : decode cL_law 819 = .ok (.iadd, 1) := by decide +kernel
theorem dL_law_820 : decode cL_law 820 = .ok (.iaload, 1) := by decide +kernel
theorem dL_law_821 : decode cL_law 821 = .ok (.aload_n 0, 1) := by decide +kernel
theorem dL_law_822 : decode cL_law 822 = .ok (.iload 4, 2) := by decide +kernel
theorem dL_law_824 : decode cL_law 824 = .ok (.iconst 2, 1) := by decide +kernel
theorem dL_law_825 : decode cL_law 825 = .ok (.iadd, 1) := by decide +kernel
theorem dL_law_826 : decode cL_law 826 = .ok (.iaload, 1) := by decide +kernel
theorem dL_law_827 : decode cL_law 827 = .ok (.aload_n 0, 1) := by decide +kernel
theorem dL_law_828 : decode cL_law 828 = .ok (.iload 4, 2) := by decide +kernel
theorem dL_law_830 : decode cL_law 830 = .ok (.iconst 3, 1) := by decide +kernel
theorem dL_law_831 : decode cL_law 831 = .ok (.iadd, 1) := by decide +kernel
theorem dL_law_832 : decode cL_law 832 = .ok (.iaload, 1) := by decide +kernel
theorem dL_law_833 : decode cL_law 833 = .ok (.invokevirtual 164, 3) := by decide +kernel
theorem dL_law_836 : decode cL_law 836 = .ok (.istore 6, 2) := by decide +kernel
theorem dL_law_838 : decode cL_law 838 = .ok (.aload_n 2, 1) := by decide +kernel
theorem dL_law_839 : decode cL_law 839 = .ok (.invokevirtual 131, 3) := by decide +kernel
theorem dL_law_842 : decode cL_law 842 = .ok (.iload 5, 2) := by decide +kernel
theorem dL_law_844 : decode cL_law 844 = .ok (.if_icmp .eq 5, 3) := by decide +kernel
theorem dL_law_847 : decode cL_law 847 = .ok (.iconst 0, 1) := by decide +kernel
theorem dL_law_848 : decode cL_law 848 = .ok (.ireturn, 1) := by decide +kernel
theorem dL_law_849 : decode cL_law 849 = .ok (.iload 5, 2) := by decide +kernel
theorem dL_law_851 : decode cL_law 851 = .ok (.ifCond .ne 15, 3) := by decide +kernel
theorem dL_law_854 : decode cL_law 854 = .ok (.aload_n 3, 1) := by decide +kernel
theorem dL_law_855 : decode cL_law 855 = .ok (.iconst 0, 1) := by decide +kernel
theorem dL_law_856 : decode cL_law 856 = .ok (.laload, 1) := by decide +kernel
theorem dL_law_857 : decode cL_law 857 = .ok (.iload 6, 2) := by decide +kernel
theorem dL_law_859 : decode cL_law 859 = .ok (.i2l, 1) := by decide +kernel
theorem dL_law_860 : decode cL_law 860 = .ok (.lcmp, 1) := by decide +kernel
theorem dL_law_861 : decode cL_law 861 = .ok (.ifCond .eq 5, 3) := by decide +kernel
theorem dL_law_864 : decode cL_law 864 = .ok (.iconst 0, 1) := by decide +kernel
theorem dL_law_865 : decode cL_law 865 = .ok (.ireturn, 1) := by decide +kernel
theorem dL_law_866 : decode cL_law 866 = .ok (.goto 1546, 3) := by decide +kernel
theorem dL_law_869 : decode cL_law 869 = .ok (.aload_n 1, 1) := by decide +kernel
theorem dL_law_870 : decode cL_law 870 = .ok (.aload_n 0, 1) := by decide +kernel
theorem dL_law_871 : decode cL_law 871 = .ok (.iload 4, 2) := by decide +kernel
theorem dL_law_873 : decode cL_law 873 = .ok (.iconst 1, 1) := by decide +kernel
theorem dL_law_874 : decode cL_law 874 = .ok (.iadd, 1) := by decide +kernel
theorem dL_law_875 : decode cL_law 875 = .ok (.iaload, 1) := by decide +kernel
theorem dL_law_876 : decode cL_law 876 = .ok (.aload_n 3, 1) := by decide +kernel
theorem dL_law_877 : decode cL_law 877 = .ok (.invokestatic 165, 3) := by decide +kernel
theorem dL_law_880 : decode cL_law 880 = .ok (.istore 5, 2) := by decide +kernel
