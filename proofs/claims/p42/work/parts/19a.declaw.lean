theorem dL_draw_0 : decode cL_draw 0 = .ok (.iload_n 1, 1) := by decide +kernel
theorem dL_draw_1 : decode cL_draw 1 = .ok (.aload_n 0, 1) := by decide +kernel
theorem dL_draw_2 : decode cL_draw 2 = .ok (.arraylength, 1) := by decide +kernel
theorem dL_draw_3 : decode cL_draw 3 = .ok (.if_icmp .ge 9, 3) := by decide +kernel
theorem dL_draw_6 : decode cL_draw 6 = .ok (.aload_n 0, 1) := by decide +kernel
theorem dL_draw_7 : decode cL_draw 7 = .ok (.iload_n 1, 1) := by decide +kernel
theorem dL_draw_8 : decode cL_draw 8 = .ok (.iaload, 1) := by decide +kernel
theorem dL_draw_9 : decode cL_draw 9 = .ok (.goto 11, 3) := by decide +kernel
theorem dL_draw_12 : decode cL_draw 12 = .ok (.ldc 7, 2) := by decide +kernel
theorem dL_draw_14 : decode cL_draw 14 = .ok (.iload_n 1, 1) := by decide +kernel
theorem dL_draw_15 : decode cL_draw 15 = .ok (.imul, 1) := by decide +kernel
theorem dL_draw_16 : decode cL_draw 16 = .ok (.sipush 11497, 3) := by decide +kernel
theorem dL_draw_19 : decode cL_draw 19 = .ok (.iadd, 1) := by decide +kernel
theorem dL_draw_20 : decode cL_draw 20 = .ok (.ldc 8, 2) := by decide +kernel
theorem dL_draw_22 : decode cL_draw 22 = .ok (.iand, 1) := by decide +kernel
theorem dL_draw_23 : decode cL_draw 23 = .ok (.ireturn, 1) := by decide +kernel
theorem dL_from_0 : decode cL_from 0 = .ok (.lload_n 0, 1) := by decide +kernel
theorem dL_from_1 : decode cL_from 1 = .ok (.lload_n 2, 1) := by decide +kernel
theorem dL_from_2 : decode cL_from 2 = .ok (.lcmp, 1) := by decide +kernel
theorem dL_from_3 : decode cL_from 3 = .ok (.ifCond .lt 14, 3) := by decide +kernel
theorem dL_from_6 : decode cL_from 6 = .ok (.lload_n 0, 1) := by decide +kernel
theorem dL_from_7 : decode cL_from 7 = .ok (.lload 4, 2) := by decide +kernel
theorem dL_from_9 : decode cL_from 9 = .ok (.lcmp, 1) := by decide +kernel
theorem dL_from_10 : decode cL_from 10 = .ok (.ifCond .gt 7, 3) := by decide +kernel
theorem dL_from_13 : decode cL_from 13 = .ok (.iconst 1, 1) := by decide +kernel
theorem dL_from_14 : decode cL_from 14 = .ok (.goto 4, 3) := by decide +kernel
theorem dL_from_17 : decode cL_from 17 = .ok (.iconst 0, 1) := by decide +kernel
theorem dL_from_18 : decode cL_from 18 = .ok (.ireturn, 1) := by decide +kernel
theorem dL_customer_0 : decode cL_customer 0 = .ok (.aload_n 0, 1) := by decide +kernel
theorem dL_customer_1 : decode cL_customer 1 = .ok (.iload_n 1, 1) := by decide +kernel
theorem dL_customer_2 : decode cL_customer 2 = .ok (.iload_n 2, 1) := by decide +kernel
theorem dL_customer_3 : decode cL_customer 3 = .ok (.iload_n 3, 1) := by decide +kernel
theorem dL_customer_4 : decode cL_customer 4 = .ok (.invokevirtual 9, 3) := by decide +kernel
theorem dL_customer_7 : decode cL_customer 7 = .ok (.i2l, 1) := by decide +kernel
theorem dL_customer_8 : decode cL_customer 8 = .ok (.lreturn, 1) := by decide +kernel
theorem dL_customer_9 : decode cL_customer 9 = .ok (.astore 4, 2) := by decide +kernel
theorem dL_customer_11 : decode cL_customer 11 = .ok (.ldc2_w 17, 3) := by decide +kernel
theorem dL_customer_14 : decode cL_customer 14 = .ok (.lreturn, 1) := by decide +kernel
theorem dL_customer_15 : decode cL_customer 15 = .ok (.astore 4, 2) := by decide +kernel
theorem dL_customer_17 : decode cL_customer 17 = .ok (.ldc2_w 21, 3) := by decide +kernel
theorem dL_customer_20 : decode cL_customer 20 = .ok (.lreturn, 1) := by decide +kernel
theorem dL_rule_0 : decode cL_rule 0 = .ok (.aload_n 0, 1) := by decide +kernel
theorem dL_rule_1 : decode cL_rule 1 = .ok (.iload_n 1, 1) := by decide +kernel
theorem dL_rule_2 : decode cL_rule 2 = .ok (.iload_n 2, 1) := by decide +kernel
theorem dL_rule_3 : decode cL_rule 3 = .ok (.invokevirtual 23, 3) := by decide +kernel
theorem dL_rule_6 : decode cL_rule 6 = .ok (.i2l, 1) := by decide +kernel
theorem dL_rule_7 : decode cL_rule 7 = .ok (.lreturn, 1) := by decide +kernel
theorem dL_rule_8 : decode cL_rule 8 = .ok (.astore_n 3, 1) := by decide +kernel
theorem dL_rule_9 : decode cL_rule 9 = .ok (.ldc2_w 29, 3) := by decide +kernel
theorem dL_rule_12 : decode cL_rule 12 = .ok (.lreturn, 1) := by decide +kernel
theorem dL_rule_13 : decode cL_rule 13 = .ok (.astore_n 3, 1) := by decide +kernel
theorem dL_rule_14 : decode cL_rule 14 = .ok (.ldc2_w 17, 3) := by decide +kernel
theorem dL_rule_17 : decode cL_rule 17 = .ok (.lreturn, 1) := by decide +kernel
theorem dL_rate_0 : decode cL_rate 0 = .ok (.aload_n 0, 1) := by decide +kernel
theorem dL_rate_1 : decode cL_rate 1 = .ok (.iload_n 1, 1) := by decide +kernel
theorem dL_rate_2 : decode cL_rate 2 = .ok (.iload_n 2, 1) := by decide +kernel
theorem dL_rate_3 : decode cL_rate 3 = .ok (.invokevirtual 31, 3) := by decide +kernel
theorem dL_rate_6 : decode cL_rate 6 = .ok (.i2l, 1) := by decide +kernel
theorem dL_rate_7 : decode cL_rate 7 = .ok (.lreturn, 1) := by decide +kernel
theorem dL_rate_8 : decode cL_rate 8 = .ok (.astore_n 3, 1) := by decide +kernel
theorem dL_rate_9 : decode cL_rate 9 = .ok (.ldc2_w 29, 3) := by decide +kernel
theorem dL_rate_12 : decode cL_rate 12 = .ok (.lreturn, 1) := by decide +kernel
theorem dL_rate_13 : decode cL_rate 13 = .ok (.astore_n 3, 1) := by decide +kernel
theorem dL_rate_14 : decode cL_rate 14 = .ok (.ldc2_w 17, 3) := by decide +kernel
theorem dL_rate_17 : decode cL_rate 17 = .ok (.lreturn, 1) := by decide +kernel
theorem dL_pause_0 : decode cL_pause 0 = .ok (.aload_n 0, 1) := by decide +kernel
theorem dL_pause_1 : decode cL_pause 1 = .ok (.iload_n 1, 1) := by decide +kernel
theorem dL_pause_2 : decode cL_pause 2 = .ok (.iload_n 2, 1) := by decide +kernel
theorem dL_pause_3 : decode cL_pause 3 = .ok (.invokevirtual 34, 3) := by decide +kernel
theorem dL_pause_6 : decode cL_pause 6 = .ok (.i2l, 1) := by decide +kernel
theorem dL_pause_7 : decode cL_pause 7 = .ok (.lreturn, 1) := by decide +kernel
theorem dL_pause_8 : decode cL_pause 8 = .ok (.astore_n 3, 1) := by decide +kernel
theorem dL_pause_9 : decode cL_pause 9 = .ok (.ldc2_w 29, 3) := by decide +kernel
theorem dL_pause_12 : decode cL_pause 12 = .ok (.lreturn, 1) := by decide +kernel
theorem dL_pause_13 : decode cL_pause 13 = .ok (.astore_n 3, 1) := by decide +kernel
theorem dL_pause_14 : decode cL_pause 14 = .ok (.ldc2_w 17, 3) := by decide +kernel
theorem dL_pause_17 : decode cL_pause 17 = .ok (.lreturn, 1) := by decide +kernel
theorem dL_pass_0 : decode cL_pass 0 = .ok (.aload_n 0, 1) := by decide +kernel
theorem dL_pass_1 : decode cL_pass 1 = .ok (.iload_n 1, 1) := by decide +kernel
theorem dL_pass_2 : decode cL_pass 2 = .ok (.invokevirtual 37, 3) := by decide +kernel
theorem dL_pass_5 : decode cL_pass 5 = .ok (.i2l, 1) := by decide +kernel
theorem dL_pass_6 : decode cL_pass 6 = .ok (.lreturn, 1) := by decide +kernel
theorem dL_pass_7 : decode cL_pass 7 = .ok (.astore_n 2, 1) := by decide +kernel
theorem dL_pass_8 : decode cL_pass 8 = .ok (.ldc2_w 17, 3) := by decide +kernel
theorem dL_pass_11 : decode cL_pass 11 = .ok (.lreturn, 1) := by decide +kernel
theorem dL_pass_12 : decode cL_pass 12 = .ok (.astore_n 2, 1) := by decide +kernel
theorem dL_pass_13 : decode cL_pass 13 = .ok (.ldc2_w 21, 3) := by decide +kernel
theorem dL_pass_16 : decode cL_pass 16 = .ok (.lreturn, 1) := by decide +kernel
theorem dL_invoice_0 : decode cL_invoice 0 = .ok (.aload_n 0, 1) := by decide +kernel
theorem dL_invoice_1 : decode cL_invoice 1 = .ok (.iload_n 1, 1) := by decide +kernel
theorem dL_invoice_2 : decode cL_invoice 2 = .ok (.iload_n 2, 1) := by decide +kernel
theorem dL_invoice_3 : decode cL_invoice 3 = .ok (.iload_n 3, 1) := by decide +kernel
theorem dL_invoice_4 : decode cL_invoice 4 = .ok (.invokevirtual 44, 3) := by decide +kernel
theorem dL_invoice_7 : decode cL_invoice 7 = .ok (.i2l, 1) := by decide +kernel
theorem dL_invoice_8 : decode cL_invoice 8 = .ok (.lreturn, 1) := by decide +kernel
theorem dL_invoice_9 : decode cL_invoice 9 = .ok (.astore 4, 2) := by decide +kernel
theorem dL_invoice_11 : decode cL_invoice 11 = .ok (.ldc2_w 29, 3) := by decide +kernel
theorem dL_invoice_14 : decode cL_invoice 14 = .ok (.lreturn, 1) := by decide +kernel
theorem dL_invoice_15 : decode cL_invoice 15 = .ok (.astore 4, 2) := by decide +kernel
theorem dL_invoice_17 : decode cL_invoice 17 = .ok (.ldc2_w 17, 3) := by decide +kernel
theorem dL_invoice_20 : decode cL_invoice 20 = .ok (.lreturn, 1) := by decide +kernel
theorem dL_invoice_21 : decode cL_invoice 21 = .ok (.astore 4, 2) := by decide +kernel
theorem dL_invoice_23 : decode cL_invoice 23 = .ok (.ldc2_w 21, 3) := by decide +kernel
theorem dL_invoice_26 : decode cL_invoice 26 = .ok (.lreturn, 1) := by decide +kernel
theorem dL_pay_0 : decode cL_pay 0 = .ok (.aload_n 0, 1) := by decide +kernel
theorem dL_pay_1 : decode cL_pay 1 = .ok (.iload_n 1, 1) := by decide +kernel
theorem dL_pay_2 : decode cL_pay 2 = .ok (.iload_n 2, 1) := by decide +kernel
theorem dL_pay_3 : decode cL_pay 3 = .ok (.invokevirtual 47, 3) := by decide +kernel
theorem dL_pay_6 : decode cL_pay 6 = .ok (.i2l, 1) := by decide +kernel
theorem dL_pay_7 : decode cL_pay 7 = .ok (.lreturn, 1) := by decide +kernel
theorem dL_pay_8 : decode cL_pay 8 = .ok (.astore_n 3, 1) := by decide +kernel
theorem dL_pay_9 : decode cL_pay 9 = .ok (.ldc2_w 29, 3) := by decide +kernel
theorem dL_pay_12 : decode cL_pay 12 = .ok (.lreturn, 1) := by decide +kernel
theorem dL_pay_13 : decode cL_pay 13 = .ok (.astore_n 3, 1) := by decide +kernel
theorem dL_pay_14 : decode cL_pay 14 = .ok (.ldc2_w 17, 3) := by decide +kernel
theorem dL_pay_17 : decode cL_pay 17 = .ok (.lreturn, 1) := by decide +kernel
theorem dL_pay_18 : decode cL_pay 18 = .ok (.astore_n 3, 1) := by decide +kernel
theorem dL_pay_19 : decode cL_pay 19 = .ok (.ldc2_w 21, 3) := by decide +kernel
theorem dL_pay_22 : decode cL_pay 22 = .ok (.lreturn, 1) := by decide +kernel
theorem dL_allocate_0 : decode cL_allocate 0 = .ok (.aload_n 0, 1) := by decide +kernel
theorem dL_allocate_1 : decode cL_allocate 1 = .ok (.iload_n 1, 1) := by decide +kernel
theorem dL_allocate_2 : decode cL_allocate 2 = .ok (.iload_n 2, 1) := by decide +kernel
theorem dL_allocate_3 : decode cL_allocate 3 = .ok (.iload_n 3, 1) := by decide +kernel
theorem dL_allocate_4 : decode cL_allocate 4 = .ok (.invokevirtual 50, 3) := by decide +kernel
theorem dL_allocate_7 : decode cL_allocate 7 = .ok (.i2l, 1) := by decide +kernel
theorem dL_allocate_8 : decode cL_allocate 8 = .ok (.lreturn, 1) := by decide +kernel
theorem dL_allocate_9 : decode cL_allocate 9 = .ok (.astore 4, 2) := by decide +kernel
theorem dL_allocate_11 : decode cL_allocate 11 = .ok (.ldc2_w 29, 3) := by decide +kernel
theorem dL_allocate_14 : decode cL_allocate 14 = .ok (.lreturn, 1) := by decide +kernel
theorem dL_allocate_15 : decode cL_allocate 15 = .ok (.astore 4, 2) := by decide +kernel
theorem dL_allocate_17 : decode cL_allocate 17 = .ok (.ldc2_w 17, 3) := by decide +kernel
theorem dL_allocate_20 : decode cL_allocate 20 = .ok (.lreturn, 1) := by decide +kernel
theorem dL_allocate_21 : decode cL_allocate 21 = .ok (.astore 4, 2) := by decide +kernel
theorem dL_allocate_23 : decode cL_allocate 23 = .ok (.ldc2_w 21, 3) := by decide +kernel
theorem dL_allocate_26 : decode cL_allocate 26 = .ok (.lreturn, 1) := by decide +kernel
theorem dL_rest_0 : decode cL_rest 0 = .ok (.aload_n 0, 1) := by decide +kernel
theorem dL_rest_1 : decode cL_rest 1 = .ok (.iload_n 1, 1) := by decide +kernel
theorem dL_rest_2 : decode cL_rest 2 = .ok (.invokevirtual 53, 3) := by decide +kernel
theorem dL_rest_5 : decode cL_rest 5 = .ok (.i2l, 1) := by decide +kernel
theorem dL_rest_6 : decode cL_rest 6 = .ok (.lreturn, 1) := by decide +kernel
theorem dL_rest_7 : decode cL_rest 7 = .ok (.astore_n 2, 1) := by decide +kernel
theorem dL_rest_8 : decode cL_rest 8 = .ok (.ldc2_w 29, 3) := by decide +kernel
theorem dL_rest_11 : decode cL_rest 11 = .ok (.lreturn, 1) := by decide +kernel
theorem dL_release_0 : decode cL_release 0 = .ok (.aload_n 0, 1) := by decide +kernel
theorem dL_release_1 : decode cL_release 1 = .ok (.iload_n 1, 1) := by decide +kernel
theorem dL_release_2 : decode cL_release 2 = .ok (.iload_n 2, 1) := by decide +kernel
theorem dL_release_3 : decode cL_release 3 = .ok (.invokevirtual 56, 3) := by decide +kernel
theorem dL_release_6 : decode cL_release 6 = .ok (.i2l, 1) := by decide +kernel
theorem dL_release_7 : decode cL_release 7 = .ok (.lreturn, 1) := by decide +kernel
theorem dL_release_8 : decode cL_release 8 = .ok (.astore_n 3, 1) := by decide +kernel
theorem dL_release_9 : decode cL_release 9 = .ok (.ldc2_w 29, 3) := by decide +kernel
theorem dL_release_12 : decode cL_release 12 = .ok (.lreturn, 1) := by decide +kernel
theorem dL_reverse_0 : decode cL_reverse 0 = .ok (.aload_n 0, 1) := by decide +kernel
theorem dL_reverse_1 : decode cL_reverse 1 = .ok (.iload_n 1, 1) := by decide +kernel
theorem dL_reverse_2 : decode cL_reverse 2 = .ok (.invokevirtual 59, 3) := by decide +kernel
theorem dL_reverse_5 : decode cL_reverse 5 = .ok (.i2l, 1) := by decide +kernel
theorem dL_reverse_6 : decode cL_reverse 6 = .ok (.lreturn, 1) := by decide +kernel
theorem dL_reverse_7 : decode cL_reverse 7 = .ok (.astore_n 2, 1) := by decide +kernel
theorem dL_reverse_8 : decode cL_reverse 8 = .ok (.ldc2_w 29, 3) := by decide +kernel
theorem dL_reverse_11 : decode cL_reverse 11 = .ok (.lreturn, 1) := by decide +kernel
theorem dL_reverse_12 : decode cL_reverse 12 = .ok (.astore_n 2, 1) := by decide +kernel
theorem dL_reverse_13 : decode cL_reverse 13 = .ok (.ldc2_w 21, 3) := by decide +kernel
theorem dL_reverse_16 : decode cL_reverse 16 = .ok (.lreturn, 1) := by decide +kernel
theorem dL_dispute_0 : decode cL_dispute 0 = .ok (.aload_n 0, 1) := by decide +kernel
theorem dL_dispute_1 : decode cL_dispute 1 = .ok (.iload_n 1, 1) := by decide +kernel
theorem dL_dispute_2 : decode cL_dispute 2 = .ok (.iload_n 2, 1) := by decide +kernel
theorem dL_dispute_3 : decode cL_dispute 3 = .ok (.invokevirtual 62, 3) := by decide +kernel
theorem dL_dispute_6 : decode cL_dispute 6 = .ok (.i2l, 1) := by decide +kernel
theorem dL_dispute_7 : decode cL_dispute 7 = .ok (.lreturn, 1) := by decide +kernel
theorem dL_dispute_8 : decode cL_dispute 8 = .ok (.astore_n 3, 1) := by decide +kernel
theorem dL_dispute_9 : decode cL_dispute 9 = .ok (.ldc2_w 29, 3) := by decide +kernel
theorem dL_dispute_12 : decode cL_dispute 12 = .ok (.lreturn, 1) := by decide +kernel
theorem dL_dispute_13 : decode cL_dispute 13 = .ok (.astore_n 3, 1) := by decide +kernel
theorem dL_dispute_14 : decode cL_dispute 14 = .ok (.ldc2_w 17, 3) := by decide +kernel
theorem dL_dispute_17 : decode cL_dispute 17 = .ok (.lreturn, 1) := by decide +kernel
theorem dL_dispute_18 : decode cL_dispute 18 = .ok (.astore_n 3, 1) := by decide +kernel
theorem dL_dispute_19 : decode cL_dispute 19 = .ok (.ldc2_w 21, 3) := by decide +kernel
theorem dL_dispute_22 : decode cL_dispute 22 = .ok (.lreturn, 1) := by decide +kernel
theorem dL_disputeAll_0 : decode cL_disputeAll 0 = .ok (.aload_n 0, 1) := by decide +kernel
theorem dL_disputeAll_1 : decode cL_disputeAll 1 = .ok (.iload_n 1, 1) := by decide +kernel
theorem dL_disputeAll_2 : decode cL_disputeAll 2 = .ok (.iload_n 2, 1) := by decide +kernel
theorem dL_disputeAll_3 : decode cL_disputeAll 3 = .ok (.invokevirtual 65, 3) := by decide +kernel
theorem dL_disputeAll_6 : decode cL_disputeAll 6 = .ok (.i2l, 1) := by decide +kernel
theorem dL_disputeAll_7 : decode cL_disputeAll 7 = .ok (.lreturn, 1) := by decide +kernel
theorem dL_disputeAll_8 : decode cL_disputeAll 8 = .ok (.astore_n 3, 1) := by decide +kernel
theorem dL_disputeAll_9 : decode cL_disputeAll 9 = .ok (.ldc2_w 29, 3) := by decide +kernel
theorem dL_disputeAll_12 : decode cL_disputeAll 12 = .ok (.lreturn, 1) := by decide +kernel
theorem dL_disputeAll_13 : decode cL_disputeAll 13 = .ok (.astore_n 3, 1) := by decide +kernel
theorem dL_disputeAll_14 : decode cL_disputeAll 14 = .ok (.ldc2_w 17, 3) := by decide +kernel
theorem dL_disputeAll_17 : decode cL_disputeAll 17 = .ok (.lreturn, 1) := by decide +kernel
theorem dL_disputeAll_18 : decode cL_disputeAll 18 = .ok (.astore_n 3, 1) := by decide +kernel
theorem dL_disputeAll_19 : decode cL_disputeAll 19 = .ok (.ldc2_w 21, 3) := by decide +kernel
theorem dL_disputeAll_22 : decode cL_disputeAll 22 = .ok (.lreturn, 1) := by decide +kernel
theorem dL_settle_0 : decode cL_settle 0 = .ok (.aload_n 0, 1) := by decide +kernel
theorem dL_settle_1 : decode cL_settle 1 = .ok (.iload_n 1, 1) := by decide +kernel
theorem dL_settle_2 : decode cL_settle 2 = .ok (.iload_n 2, 1) := by decide +kernel
theorem dL_settle_3 : decode cL_settle 3 = .ok (.invokevirtual 68, 3) := by decide +kernel
theorem dL_settle_6 : decode cL_settle 6 = .ok (.i2l, 1) := by decide +kernel
theorem dL_settle_7 : decode cL_settle 7 = .ok (.lreturn, 1) := by decide +kernel
theorem dL_settle_8 : decode cL_settle 8 = .ok (.astore_n 3, 1) := by decide +kernel
theorem dL_settle_9 : decode cL_settle 9 = .ok (.ldc2_w 29, 3) := by decide +kernel
theorem dL_settle_12 : decode cL_settle 12 = .ok (.lreturn, 1) := by decide +kernel
theorem dL_settle_13 : decode cL_settle 13 = .ok (.astore_n 3, 1) := by decide +kernel
theorem dL_settle_14 : decode cL_settle 14 = .ok (.ldc2_w 21, 3) := by decide +kernel
theorem dL_settle_17 : decode cL_settle 17 = .ok (.lreturn, 1) := by decide +kernel
theorem dL_settle_18 : decode cL_settle 18 = .ok (.astore_n 3, 1) := by decide +kernel
theorem dL_settle_19 : decode cL_settle 19 = .ok (.ldc2_w 17, 3) := by decide +kernel
theorem dL_settle_22 : decode cL_settle 22 = .ok (.lreturn, 1) := by decide +kernel
theorem dL_charge_0 : decode cL_charge 0 = .ok (.aload_n 0, 1) := by decide +kernel
theorem dL_charge_1 : decode cL_charge 1 = .ok (.iload_n 1, 1) := by decide +kernel
theorem dL_charge_2 : decode cL_charge 2 = .ok (.iload_n 2, 1) := by decide +kernel
theorem dL_charge_3 : decode cL_charge 3 = .ok (.invokevirtual 71, 3) := by decide +kernel
theorem dL_charge_6 : decode cL_charge 6 = .ok (.i2l, 1) := by decide +kernel
theorem dL_charge_7 : decode cL_charge 7 = .ok (.lreturn, 1) := by decide +kernel
theorem dL_charge_8 : decode cL_charge 8 = .ok (.astore_n 3, 1) := by decide +kernel
theorem dL_charge_9 : decode cL_charge 9 = .ok (.ldc2_w 29, 3) := by decide +kernel
theorem dL_charge_12 : decode cL_charge 12 = .ok (.lreturn, 1) := by decide +kernel
theorem dL_charge_13 : decode cL_charge 13 = .ok (.astore_n 3, 1) := by decide +kernel
theorem dL_charge_14 : decode cL_charge 14 = .ok (.ldc2_w 17, 3) := by decide +kernel
theorem dL_charge_17 : decode cL_charge 17 = .ok (.lreturn, 1) := by decide +kernel
theorem dL_charge_18 : decode cL_charge 18 = .ok (.astore_n 3, 1) := by decide +kernel
theorem dL_charge_19 : decode cL_charge 19 = .ok (.ldc2_w 21, 3) := by decide +kernel
theorem dL_charge_22 : decode cL_charge 22 = .ok (.lreturn, 1) := by decide +kernel
theorem dL_accrued_0 : decode cL_accrued 0 = .ok (.aload_n 0, 1) := by decide +kernel
theorem dL_accrued_1 : decode cL_accrued 1 = .ok (.iload_n 1, 1) := by decide +kernel
theorem dL_accrued_2 : decode cL_accrued 2 = .ok (.invokevirtual 74, 3) := by decide +kernel
theorem dL_accrued_5 : decode cL_accrued 5 = .ok (.i2l, 1) := by decide +kernel
theorem dL_accrued_6 : decode cL_accrued 6 = .ok (.lreturn, 1) := by decide +kernel
theorem dL_accrued_7 : decode cL_accrued 7 = .ok (.astore_n 2, 1) := by decide +kernel
theorem dL_accrued_8 : decode cL_accrued 8 = .ok (.ldc2_w 29, 3) := by decide +kernel
theorem dL_accrued_11 : decode cL_accrued 11 = .ok (.lreturn, 1) := by decide +kernel
theorem dL_interest_0 : decode cL_interest 0 = .ok (.aload_n 0, 1) := by decide +kernel
theorem dL_interest_1 : decode cL_interest 1 = .ok (.iload_n 1, 1) := by decide +kernel
theorem dL_interest_2 : decode cL_interest 2 = .ok (.invokevirtual 77, 3) := by decide +kernel
theorem dL_interest_5 : decode cL_interest 5 = .ok (.ifCond .eq 7, 3) := by decide +kernel
theorem dL_interest_8 : decode cL_interest 8 = .ok (.lconst 1, 1) := by decide +kernel
theorem dL_interest_9 : decode cL_interest 9 = .ok (.goto 4, 3) := by decide +kernel
theorem dL_interest_12 : decode cL_interest 12 = .ok (.lconst 0, 1) := by decide +kernel
theorem dL_interest_13 : decode cL_interest 13 = .ok (.lreturn, 1) := by decide +kernel
theorem dL_interest_14 : decode cL_interest 14 = .ok (.astore_n 2, 1) := by decide +kernel
theorem dL_interest_15 : decode cL_interest 15 = .ok (.ldc2_w 29, 3) := by decide +kernel
theorem dL_interest_18 : decode cL_interest 18 = .ok (.lreturn, 1) := by decide +kernel
theorem dL_amount_0 : decode cL_amount 0 = .ok (.aload_n 0, 1) := by decide +kernel
theorem dL_amount_1 : decode cL_amount 1 = .ok (.iload_n 1, 1) := by decide +kernel
theorem dL_amount_2 : decode cL_amount 2 = .ok (.invokevirtual 81, 3) := by decide +kernel
theorem dL_amount_5 : decode cL_amount 5 = .ok (.i2l, 1) := by decide +kernel
theorem dL_amount_6 : decode cL_amount 6 = .ok (.lreturn, 1) := by decide +kernel
theorem dL_amount_7 : decode cL_amount 7 = .ok (.astore_n 2, 1) := by decide +kernel
theorem dL_amount_8 : decode cL_amount 8 = .ok (.ldc2_w 29, 3) := by decide +kernel
theorem dL_amount_11 : decode cL_amount 11 = .ok (.lreturn, 1) := by decide +kernel
theorem dL_due_0 : decode cL_due 0 = .ok (.aload_n 0, 1) := by decide +kernel
theorem dL_due_1 : decode cL_due 1 = .ok (.iload_n 1, 1) := by decide +kernel
theorem dL_due_2 : decode cL_due 2 = .ok (.invokevirtual 84, 3) := by decide +kernel
theorem dL_due_5 : decode cL_due 5 = .ok (.i2l, 1) := by decide +kernel
theorem dL_due_6 : decode cL_due 6 = .ok (.lreturn, 1) := by decide +kernel
theorem dL_due_7 : decode cL_due 7 = .ok (.astore_n 2, 1) := by decide +kernel
theorem dL_due_8 : decode cL_due 8 = .ok (.ldc2_w 29, 3) := by decide +kernel
theorem dL_due_11 : decode cL_due 11 = .ok (.lreturn, 1) := by decide +kernel
theorem dL_open_0 : decode cL_open 0 = .ok (.aload_n 0, 1) := by decide +kernel
theorem dL_open_1 : decode cL_open 1 = .ok (.iload_n 1, 1) := by decide +kernel
theorem dL_open_2 : decode cL_open 2 = .ok (.invokevirtual 87, 3) := by decide +kernel
theorem dL_open_5 : decode cL_open 5 = .ok (.i2l, 1) := by decide +kernel
theorem dL_open_6 : decode cL_open 6 = .ok (.lreturn, 1) := by decide +kernel
theorem dL_open_7 : decode cL_open 7 = .ok (.astore_n 2, 1) := by decide +kernel
theorem dL_open_8 : decode cL_open 8 = .ok (.ldc2_w 29, 3) := by decide +kernel
theorem dL_open_11 : decode cL_open 11 = .ok (.lreturn, 1) := by decide +kernel
theorem dL_byLedger_0 : decode cL_byLedger 0 = .ok (.aload_n 0, 1) := by decide +kernel
theorem dL_byLedger_1 : decode cL_byLedger 1 = .ok (.iload_n 1, 1) := by decide +kernel
theorem dL_byLedger_2 : decode cL_byLedger 2 = .ok (.invokevirtual 90, 3) := by decide +kernel
theorem dL_byLedger_5 : decode cL_byLedger 5 = .ok (.i2l, 1) := by decide +kernel
theorem dL_byLedger_6 : decode cL_byLedger 6 = .ok (.lreturn, 1) := by decide +kernel
theorem dL_byLedger_7 : decode cL_byLedger 7 = .ok (.astore_n 2, 1) := by decide +kernel
theorem dL_byLedger_8 : decode cL_byLedger 8 = .ok (.ldc2_w 29, 3) := by decide +kernel
theorem dL_byLedger_11 : decode cL_byLedger 11 = .ok (.lreturn, 1) := by decide +kernel
theorem dL_disputed_0 : decode cL_disputed 0 = .ok (.aload_n 0, 1) := by decide +kernel
theorem dL_disputed_1 : decode cL_disputed 1 = .ok (.iload_n 1, 1) := by decide +kernel
theorem dL_disputed_2 : decode cL_disputed 2 = .ok (.invokevirtual 93, 3) := by decide +kernel
theorem dL_disputed_5 : decode cL_disputed 5 = .ok (.i2l, 1) := by decide +kernel
theorem dL_disputed_6 : decode cL_disputed 6 = .ok (.lreturn, 1) := by decide +kernel
theorem dL_disputed_7 : decode cL_disputed 7 = .ok (.astore_n 2, 1) := by decide +kernel
theorem dL_disputed_8 : decode cL_disputed 8 = .ok (.ldc2_w 29, 3) := by decide +kernel
theorem dL_disputed_11 : decode cL_disputed 11 = .ok (.lreturn, 1) := by decide +kernel
theorem dL_allocated_0 : decode cL_allocated 0 = .ok (.aload_n 0, 1) := by decide +kernel
theorem dL_allocated_1 : decode cL_allocated 1 = .ok (.iload_n 1, 1) := by decide +kernel
theorem dL_allocated_2 : decode cL_allocated 2 = .ok (.iload_n 2, 1) := by decide +kernel
theorem dL_allocated_3 : decode cL_allocated 3 = .ok (.invokevirtual 96, 3) := by decide +kernel
theorem dL_allocated_6 : decode cL_allocated 6 = .ok (.i2l, 1) := by decide +kernel
theorem dL_allocated_7 : decode cL_allocated 7 = .ok (.lreturn, 1) := by decide +kernel
theorem dL_allocated_8 : decode cL_allocated 8 = .ok (.astore_n 3, 1) := by decide +kernel
theorem dL_allocated_9 : decode cL_allocated 9 = .ok (.ldc2_w 29, 3) := by decide +kernel
theorem dL_allocated_12 : decode cL_allocated 12 = .ok (.lreturn, 1) := by decide +kernel
theorem dL_unallocated_0 : decode cL_unallocated 0 = .ok (.aload_n 0, 1) := by decide +kernel
theorem dL_unallocated_1 : decode cL_unallocated 1 = .ok (.iload_n 1, 1) := by decide +kernel
theorem dL_unallocated_2 : decode cL_unallocated 2 = .ok (.invokevirtual 99, 3) := by decide +kernel
theorem dL_unallocated_5 : decode cL_unallocated 5 = .ok (.i2l, 1) := by decide +kernel
theorem dL_unallocated_6 : decode cL_unallocated 6 = .ok (.lreturn, 1) := by decide +kernel
theorem dL_unallocated_7 : decode cL_unallocated 7 = .ok (.astore_n 2, 1) := by decide +kernel
theorem dL_unallocated_8 : decode cL_unallocated 8 = .ok (.ldc2_w 29, 3) := by decide +kernel
theorem dL_unallocated_11 : decode cL_unallocated 11 = .ok (.lreturn, 1) := by decide +kernel
theorem dL_balance_0 : decode cL_balance 0 = .ok (.aload_n 0, 1) := by decide +kernel
theorem dL_balance_1 : decode cL_balance 1 = .ok (.iload_n 1, 1) := by decide +kernel
theorem dL_balance_2 : decode cL_balance 2 = .ok (.invokevirtual 102, 3) := by decide +kernel
theorem dL_balance_5 : decode cL_balance 5 = .ok (.i2l, 1) := by decide +kernel
theorem dL_balance_6 : decode cL_balance 6 = .ok (.lreturn, 1) := by decide +kernel
theorem dL_balance_7 : decode cL_balance 7 = .ok (.astore_n 2, 1) := by decide +kernel
theorem dL_balance_8 : decode cL_balance 8 = .ok (.ldc2_w 29, 3) := by decide +kernel
theorem dL_balance_11 : decode cL_balance 11 = .ok (.lreturn, 1) := by decide +kernel
theorem dL_bucket_0 : decode cL_bucket 0 = .ok (.aload_n 0, 1) := by decide +kernel
theorem dL_bucket_1 : decode cL_bucket 1 = .ok (.iload_n 1, 1) := by decide +kernel
theorem dL_bucket_2 : decode cL_bucket 2 = .ok (.invokevirtual 105, 3) := by decide +kernel
theorem dL_bucket_5 : decode cL_bucket 5 = .ok (.i2l, 1) := by decide +kernel
theorem dL_bucket_6 : decode cL_bucket 6 = .ok (.lreturn, 1) := by decide +kernel
theorem dL_bucket_7 : decode cL_bucket 7 = .ok (.astore_n 2, 1) := by decide +kernel
theorem dL_bucket_8 : decode cL_bucket 8 = .ok (.ldc2_w 29, 3) := by decide +kernel
theorem dL_bucket_11 : decode cL_bucket 11 = .ok (.lreturn, 1) := by decide +kernel
theorem dL_ageing_0 : decode cL_ageing 0 = .ok (.aload_n 0, 1) := by decide +kernel
theorem dL_ageing_1 : decode cL_ageing 1 = .ok (.iload_n 1, 1) := by decide +kernel
theorem dL_ageing_2 : decode cL_ageing 2 = .ok (.iload_n 2, 1) := by decide +kernel
theorem dL_ageing_3 : decode cL_ageing 3 = .ok (.invokevirtual 108, 3) := by decide +kernel
theorem dL_ageing_6 : decode cL_ageing 6 = .ok (.i2l, 1) := by decide +kernel
theorem dL_ageing_7 : decode cL_ageing 7 = .ok (.lreturn, 1) := by decide +kernel
theorem dL_ageing_8 : decode cL_ageing 8 = .ok (.astore_n 3, 1) := by decide +kernel
theorem dL_ageing_9 : decode cL_ageing 9 = .ok (.ldc2_w 29, 3) := by decide +kernel
theorem dL_ageing_12 : decode cL_ageing 12 = .ok (.lreturn, 1) := by decide +kernel
theorem dL_oldest_0 : decode cL_oldest 0 = .ok (.aload_n 0, 1) := by decide +kernel
theorem dL_oldest_1 : decode cL_oldest 1 = .ok (.iload_n 1, 1) := by decide +kernel
theorem dL_oldest_2 : decode cL_oldest 2 = .ok (.invokevirtual 111, 3) := by decide +kernel
theorem dL_oldest_5 : decode cL_oldest 5 = .ok (.i2l, 1) := by decide +kernel
theorem dL_oldest_6 : decode cL_oldest 6 = .ok (.lreturn, 1) := by decide +kernel
theorem dL_oldest_7 : decode cL_oldest 7 = .ok (.astore_n 2, 1) := by decide +kernel
theorem dL_oldest_8 : decode cL_oldest 8 = .ok (.ldc2_w 29, 3) := by decide +kernel
theorem dL_oldest_11 : decode cL_oldest 11 = .ok (.lreturn, 1) := by decide +kernel
theorem dL_level_0 : decode cL_level 0 = .ok (.aload_n 0, 1) := by decide +kernel
theorem dL_level_1 : decode cL_level 1 = .ok (.iload_n 1, 1) := by decide +kernel
theorem dL_level_2 : decode cL_level 2 = .ok (.invokevirtual 114, 3) := by decide +kernel
theorem dL_level_5 : decode cL_level 5 = .ok (.i2l, 1) := by decide +kernel
theorem dL_level_6 : decode cL_level 6 = .ok (.lreturn, 1) := by decide +kernel
theorem dL_level_7 : decode cL_level 7 = .ok (.astore_n 2, 1) := by decide +kernel
theorem dL_level_8 : decode cL_level 8 = .ok (.ldc2_w 29, 3) := by decide +kernel
theorem dL_level_11 : decode cL_level 11 = .ok (.lreturn, 1) := by decide +kernel
theorem dL_toReminder_0 : decode cL_toReminder 0 = .ok (.aload_n 0, 1) := by decide +kernel
theorem dL_toReminder_1 : decode cL_toReminder 1 = .ok (.iload_n 1, 1) := by decide +kernel
theorem dL_toReminder_2 : decode cL_toReminder 2 = .ok (.invokevirtual 117, 3) := by decide +kernel
theorem dL_toReminder_5 : decode cL_toReminder 5 = .ok (.i2l, 1) := by decide +kernel
theorem dL_toReminder_6 : decode cL_toReminder 6 = .ok (.lreturn, 1) := by decide +kernel
theorem dL_toReminder_7 : decode cL_toReminder 7 = .ok (.astore_n 2, 1) := by decide +kernel
theorem dL_toReminder_8 : decode cL_toReminder 8 = .ok (.ldc2_w 29, 3) := by decide +kernel
theorem dL_toReminder_11 : decode cL_toReminder 11 = .ok (.lreturn, 1) := by decide +kernel
theorem dL_atLevel_0 : decode cL_atLevel 0 = .ok (.aload_n 0, 1) := by decide +kernel
theorem dL_atLevel_1 : decode cL_atLevel 1 = .ok (.iload_n 1, 1) := by decide +kernel
theorem dL_atLevel_2 : decode cL_atLevel 2 = .ok (.invokevirtual 120, 3) := by decide +kernel
theorem dL_atLevel_5 : decode cL_atLevel 5 = .ok (.i2l, 1) := by decide +kernel
theorem dL_atLevel_6 : decode cL_atLevel 6 = .ok (.lreturn, 1) := by decide +kernel
theorem dL_atLevel_7 : decode cL_atLevel 7 = .ok (.astore_n 2, 1) := by decide +kernel
theorem dL_atLevel_8 : decode cL_atLevel 8 = .ok (.ldc2_w 17, 3) := by decide +kernel
theorem dL_atLevel_11 : decode cL_atLevel 11 = .ok (.lreturn, 1) := by decide +kernel
theorem dL_lineOf_0 : decode cL_lineOf 0 = .ok (.aload_n 0, 1) := by decide +kernel
theorem dL_lineOf_1 : decode cL_lineOf 1 = .ok (.iload_n 1, 1) := by decide +kernel
theorem dL_lineOf_2 : decode cL_lineOf 2 = .ok (.invokevirtual 123, 3) := by decide +kernel
theorem dL_lineOf_5 : decode cL_lineOf 5 = .ok (.i2l, 1) := by decide +kernel
theorem dL_lineOf_6 : decode cL_lineOf 6 = .ok (.lreturn, 1) := by decide +kernel
theorem dL_lineOf_7 : decode cL_lineOf 7 = .ok (.astore_n 2, 1) := by decide +kernel
theorem dL_lineOf_8 : decode cL_lineOf 8 = .ok (.ldc2_w 29, 3) := by decide +kernel
theorem dL_lineOf_11 : decode cL_lineOf 11 = .ok (.lreturn, 1) := by decide +kernel
theorem dL_lineAmount_0 : decode cL_lineAmount 0 = .ok (.aload_n 0, 1) := by decide +kernel
theorem dL_lineAmount_1 : decode cL_lineAmount 1 = .ok (.iload_n 1, 1) := by decide +kernel
theorem dL_lineAmount_2 : decode cL_lineAmount 2 = .ok (.invokevirtual 126, 3) := by decide +kernel
theorem dL_lineAmount_5 : decode cL_lineAmount 5 = .ok (.i2l, 1) := by decide +kernel
theorem dL_lineAmount_6 : decode cL_lineAmount 6 = .ok (.lreturn, 1) := by decide +kernel
theorem dL_lineAmount_7 : decode cL_lineAmount 7 = .ok (.astore_n 2, 1) := by decide +kernel
theorem dL_lineAmount_8 : decode cL_lineAmount 8 = .ok (.ldc2_w 29, 3) := by decide +kernel
theorem dL_lineAmount_11 : decode cL_lineAmount 11 = .ok (.lreturn, 1) := by decide +kernel
theorem dL_now_0 : decode cL_now 0 = .ok (.ldc2_w 129, 3) := by decide +kernel
theorem dL_now_3 : decode cL_now 3 = .ok (.ldc2_w 129, 3) := by decide +kernel
theorem dL_now_6 : decode cL_now 6 = .ok (.aload_n 0, 1) := by decide +kernel
theorem dL_now_7 : decode cL_now 7 = .ok (.invokevirtual 131, 3) := by decide +kernel
theorem dL_now_10 : decode cL_now 10 = .ok (.i2l, 1) := by decide +kernel
theorem dL_now_11 : decode cL_now 11 = .ok (.lmul, 1) := by decide +kernel
theorem dL_now_12 : decode cL_now 12 = .ok (.aload_n 0, 1) := by decide +kernel
theorem dL_now_13 : decode cL_now 13 = .ok (.invokevirtual 135, 3) := by decide +kernel
theorem dL_now_16 : decode cL_now 16 = .ok (.i2l, 1) := by decide +kernel
theorem dL_now_17 : decode cL_now 17 = .ok (.ladd, 1) := by decide +kernel
theorem dL_now_18 : decode cL_now 18 = .ok (.lmul, 1) := by decide +kernel
theorem dL_now_19 : decode cL_now 19 = .ok (.aload_n 0, 1) := by decide +kernel
theorem dL_now_20 : decode cL_now 20 = .ok (.invokevirtual 138, 3) := by decide +kernel
theorem dL_now_23 : decode cL_now 23 = .ok (.i2l, 1) := by decide +kernel
theorem dL_now_24 : decode cL_now 24 = .ok (.ladd, 1) := by decide +kernel
theorem dL_now_25 : decode cL_now 25 = .ok (.lstore_n 1, 1) := by decide +kernel
theorem dL_now_26 : decode cL_now 26 = .ok (.iconst 0, 1) := by decide +kernel
theorem dL_now_27 : decode cL_now 27 = .ok (.istore_n 3, 1) := by decide +kernel
theorem dL_now_28 : decode cL_now 28 = .ok (.iload_n 3, 1) := by decide +kernel
theorem dL_now_29 : decode cL_now 29 = .ok (.aload_n 0, 1) := by decide +kernel
theorem dL_now_30 : decode cL_now 30 = .ok (.invokevirtual 141, 3) := by decide +kernel
theorem dL_now_33 : decode cL_now 33 = .ok (.if_icmp .ge 61, 3) := by decide +kernel
theorem dL_now_36 : decode cL_now 36 = .ok (.ldc2_w 129, 3) := by decide +kernel
theorem dL_now_39 : decode cL_now 39 = .ok (.ldc2_w 129, 3) := by decide +kernel
theorem dL_now_42 : decode cL_now 42 = .ok (.ldc2_w 129, 3) := by decide +kernel
theorem dL_now_45 : decode cL_now 45 = .ok (.lload_n 1, 1) := by decide +kernel
theorem dL_now_46 : decode cL_now 46 = .ok (.lmul, 1) := by decide +kernel
theorem dL_now_47 : decode cL_now 47 = .ok (.aload_n 0, 1) := by decide +kernel
theorem dL_now_48 : decode cL_now 48 = .ok (.iload_n 3, 1) := by decide +kernel
theorem dL_now_49 : decode cL_now 49 = .ok (.invokestatic 144, 3) := by decide +kernel
theorem dL_now_52 : decode cL_now 52 = .ok (.ladd, 1) := by decide +kernel
theorem dL_now_53 : decode cL_now 53 = .ok (.lmul, 1) := by decide +kernel
theorem dL_now_54 : decode cL_now 54 = .ok (.aload_n 0, 1) := by decide +kernel
theorem dL_now_55 : decode cL_now 55 = .ok (.iload_n 3, 1) := by decide +kernel
theorem dL_now_56 : decode cL_now 56 = .ok (.invokestatic 150, 3) := by decide +kernel
theorem dL_now_59 : decode cL_now 59 = .ok (.ladd, 1) := by decide +kernel
theorem dL_now_60 : decode cL_now 60 = .ok (.lmul, 1) := by decide +kernel
theorem dL_now_61 : decode cL_now 61 = .ok (.aload_n 0, 1) := by decide +kernel
theorem dL_now_62 : decode cL_now 62 = .ok (.iload_n 3, 1) := by decide +kernel
theorem dL_now_63 : decode cL_now 63 = .ok (.invokestatic 153, 3) := by decide +kernel
theorem dL_now_66 : decode cL_now 66 = .ok (.ladd, 1) := by decide +kernel
theorem dL_now_67 : decode cL_now 67 = .ok (.ldc2_w 155, 3) := by decide +kernel
theorem dL_now_70 : decode cL_now 70 = .ok (.aload_n 0, 1) := by decide +kernel
theorem dL_now_71 : decode cL_now 71 = .ok (.iload_n 3, 1) := by decide +kernel
theorem dL_now_72 : decode cL_now 72 = .ok (.invokestatic 157, 3) := by decide +kernel
theorem dL_now_75 : decode cL_now 75 = .ok (.lmul, 1) := by decide +kernel
theorem dL_now_76 : decode cL_now 76 = .ok (.ladd, 1) := by decide +kernel
theorem dL_now_77 : decode cL_now 77 = .ok (.ldc2_w 160, 3) := by decide +kernel
theorem dL_now_80 : decode cL_now 80 = .ok (.aload_n 0, 1) := by decide +kernel
theorem dL_now_81 : decode cL_now 81 = .ok (.iload_n 3, 1) := by decide +kernel
theorem dL_now_82 : decode cL_now 82 = .ok (.invokestatic 162, 3) := by decide +kernel
theorem dL_now_85 : decode cL_now 85 = .ok (.lmul, 1) := by decide +kernel
theorem dL_now_86 : decode cL_now 86 = .ok (.ladd, 1) := by decide +kernel
theorem dL_now_87 : decode cL_now 87 = .ok (.lstore_n 1, 1) := by decide +kernel
theorem dL_now_88 : decode cL_now 88 = .ok (.iinc 3 1, 3) := by decide +kernel
theorem dL_now_91 : decode cL_now 91 = .ok (.goto (-63), 3) := by decide +kernel
theorem dL_now_94 : decode cL_now 94 = .ok (.iconst 0, 1) := by decide +kernel
theorem dL_now_95 : decode cL_now 95 = .ok (.istore_n 3, 1) := by decide +kernel
theorem dL_now_96 : decode cL_now 96 = .ok (.iload_n 3, 1) := by decide +kernel
theorem dL_now_97 : decode cL_now 97 = .ok (.aload_n 0, 1) := by decide +kernel
theorem dL_now_98 : decode cL_now 98 = .ok (.invokevirtual 165, 3) := by decide +kernel
theorem dL_now_101 : decode cL_now 101 = .ok (.if_icmp .ge 21, 3) := by decide +kernel
theorem dL_now_104 : decode cL_now 104 = .ok (.ldc2_w 129, 3) := by decide +kernel
theorem dL_now_107 : decode cL_now 107 = .ok (.lload_n 1, 1) := by decide +kernel
theorem dL_now_108 : decode cL_now 108 = .ok (.lmul, 1) := by decide +kernel
theorem dL_now_109 : decode cL_now 109 = .ok (.aload_n 0, 1) := by decide +kernel
theorem dL_now_110 : decode cL_now 110 = .ok (.iload_n 3, 1) := by decide +kernel
theorem dL_now_111 : decode cL_now 111 = .ok (.invokestatic 168, 3) := by decide +kernel
theorem dL_now_114 : decode cL_now 114 = .ok (.ladd, 1) := by decide +kernel
theorem dL_now_115 : decode cL_now 115 = .ok (.lstore_n 1, 1) := by decide +kernel
theorem dL_now_116 : decode cL_now 116 = .ok (.iinc 3 1, 3) := by decide +kernel
theorem dL_now_119 : decode cL_now 119 = .ok (.goto (-23), 3) := by decide +kernel
theorem dL_now_122 : decode cL_now 122 = .ok (.lload_n 1, 1) := by decide +kernel
theorem dL_now_123 : decode cL_now 123 = .ok (.lreturn, 1) := by decide +kernel
theorem dL_refuses_0 : decode cL_refuses 0 = .ok (.aload_n 0, 1) := by decide +kernel
theorem dL_refuses_1 : decode cL_refuses 1 = .ok (.invokestatic 170, 3) := by decide +kernel
theorem dL_refuses_4 : decode cL_refuses 4 = .ok (.lstore_n 1, 1) := by decide +kernel
theorem dL_refuses_5 : decode cL_refuses 5 = .ok (.aload_n 0, 1) := by decide +kernel
theorem dL_refuses_6 : decode cL_refuses 6 = .ok (.invokevirtual 141, 3) := by decide +kernel
theorem dL_refuses_9 : decode cL_refuses 9 = .ok (.istore_n 3, 1) := by decide +kernel
theorem dL_refuses_10 : decode cL_refuses 10 = .ok (.aload_n 0, 1) := by decide +kernel
theorem dL_refuses_11 : decode cL_refuses 11 = .ok (.invokevirtual 135, 3) := by decide +kernel
theorem dL_refuses_14 : decode cL_refuses 14 = .ok (.istore 4, 2) := by decide +kernel
theorem dL_refuses_16 : decode cL_refuses 16 = .ok (.aload_n 0, 1) := by decide +kernel
theorem dL_refuses_17 : decode cL_refuses 17 = .ok (.invokevirtual 165, 3) := by decide +kernel
theorem dL_refuses_20 : decode cL_refuses 20 = .ok (.istore 5, 2) := by decide +kernel
theorem dL_refuses_22 : decode cL_refuses 22 = .ok (.aload_n 0, 1) := by decide +kernel
theorem dL_refuses_23 : decode cL_refuses 23 = .ok (.iconst 3, 1) := by decide +kernel
theorem dL_refuses_24 : decode cL_refuses 24 = .ok (.iconst 0, 1) := by decide +kernel
theorem dL_refuses_25 : decode cL_refuses 25 = .ok (.iconst 0, 1) := by decide +kernel
theorem dL_refuses_26 : decode cL_refuses 26 = .ok (.invokestatic 174, 3) := by decide +kernel
theorem dL_refuses_29 : decode cL_refuses 29 = .ok (.ldc2_w 17, 3) := by decide +kernel
theorem dL_refuses_32 : decode cL_refuses 32 = .ok (.lcmp, 1) := by decide +kernel
theorem dL_refuses_33 : decode cL_refuses 33 = .ok (.ifCond .ne 374, 3) := by decide +kernel
theorem dL_refuses_36 : decode cL_refuses 36 = .ok (.aload_n 0, 1) := by decide +kernel
theorem dL_refuses_37 : decode cL_refuses 37 = .ok (.iconst 0, 1) := by decide +kernel
theorem dL_refuses_38 : decode cL_refuses 38 = .ok (.iconst 0, 1) := by decide +kernel
theorem dL_refuses_39 : decode cL_refuses 39 = .ok (.sipush 3001, 3) := by decide +kernel
theorem dL_refuses_42 : decode cL_refuses 42 = .ok (.invokestatic 174, 3) := by decide +kernel
theorem dL_refuses_45 : decode cL_refuses 45 = .ok (.ldc2_w 17, 3) := by decide +kernel
theorem dL_refuses_48 : decode cL_refuses 48 = .ok (.lcmp, 1) := by decide +kernel
theorem dL_refuses_49 : decode cL_refuses 49 = .ok (.ifCond .ne 358, 3) := by decide +kernel
theorem dL_refuses_52 : decode cL_refuses 52 = .ok (.aload_n 0, 1) := by decide +kernel
theorem dL_refuses_53 : decode cL_refuses 53 = .ok (.iload 4, 2) := by decide +kernel
theorem dL_refuses_55 : decode cL_refuses 55 = .ok (.iconst 0, 1) := by decide +kernel
theorem dL_refuses_56 : decode cL_refuses 56 = .ok (.invokestatic 178, 3) := by decide +kernel
theorem dL_refuses_59 : decode cL_refuses 59 = .ok (.ldc2_w 29, 3) := by decide +kernel
theorem dL_refuses_62 : decode cL_refuses 62 = .ok (.lcmp, 1) := by decide +kernel
theorem dL_refuses_63 : decode cL_refuses 63 = .ok (.ifCond .ne 344, 3) := by decide +kernel
theorem dL_refuses_66 : decode cL_refuses 66 = .ok (.aload_n 0, 1) := by decide +kernel
theorem dL_refuses_67 : decode cL_refuses 67 = .ok (.iconst 0, 1) := by decide +kernel
theorem dL_refuses_68 : decode cL_refuses 68 = .ok (.iconst 3, 1) := by decide +kernel
theorem dL_refuses_69 : decode cL_refuses 69 = .ok (.invokestatic 178, 3) := by decide +kernel
theorem dL_refuses_72 : decode cL_refuses 72 = .ok (.ldc2_w 17, 3) := by decide +kernel
theorem dL_refuses_75 : decode cL_refuses 75 = .ok (.lcmp, 1) := by decide +kernel
theorem dL_refuses_76 : decode cL_refuses 76 = .ok (.ifCond .ne 331, 3) := by decide +kernel
theorem dL_refuses_79 : decode cL_refuses 79 = .ok (.aload_n 0, 1) := by decide +kernel
theorem dL_refuses_80 : decode cL_refuses 80 = .ok (.iconst 0, 1) := by decide +kernel
theorem dL_refuses_81 : decode cL_refuses 81 = .ok (.iconst (-1), 1) := by decide +kernel
theorem dL_refuses_82 : decode cL_refuses 82 = .ok (.invokestatic 182, 3) := by decide +kernel
theorem dL_refuses_85 : decode cL_refuses 85 = .ok (.ldc2_w 17, 3) := by decide +kernel
theorem dL_refuses_88 : decode cL_refuses 88 = .ok (.lcmp, 1) := by decide +kernel
theorem dL_refuses_89 : decode cL_refuses 89 = .ok (.ifCond .ne 318, 3) := by decide +kernel
theorem dL_refuses_92 : decode cL_refuses 92 = .ok (.aload_n 0, 1) := by decide +kernel
theorem dL_refuses_93 : decode cL_refuses 93 = .ok (.iconst (-1), 1) := by decide +kernel
theorem dL_refuses_94 : decode cL_refuses 94 = .ok (.iconst 0, 1) := by decide +kernel
theorem dL_refuses_95 : decode cL_refuses 95 = .ok (.invokestatic 185, 3) := by decide +kernel
theorem dL_refuses_98 : decode cL_refuses 98 = .ok (.ldc2_w 29, 3) := by decide +kernel
theorem dL_refuses_101 : decode cL_refuses 101 = .ok (.lcmp, 1) := by decide +kernel
theorem dL_refuses_102 : decode cL_refuses 102 = .ok (.ifCond .ne 305, 3) := by decide +kernel
theorem dL_refuses_105 : decode cL_refuses 105 = .ok (.aload_n 0, 1) := by decide +kernel
theorem dL_refuses_106 : decode cL_refuses 106 = .ok (.iconst 0, 1) := by decide +kernel
theorem dL_refuses_107 : decode cL_refuses 107 = .ok (.iconst (-1), 1) := by decide +kernel
theorem dL_refuses_108 : decode cL_refuses 108 = .ok (.invokestatic 185, 3) := by decide +kernel
theorem dL_refuses_111 : decode cL_refuses 111 = .ok (.ldc2_w 17, 3) := by decide +kernel
theorem dL_refuses_114 : decode cL_refuses 114 = .ok (.lcmp, 1) := by decide +kernel
theorem dL_refuses_115 : decode cL_refuses 115 = .ok (.ifCond .ne 292, 3) := by decide +kernel
theorem dL_refuses_118 : decode cL_refuses 118 = .ok (.aload_n 0, 1) := by decide +kernel
theorem dL_refuses_119 : decode cL_refuses 119 = .ok (.iconst 0, 1) := by decide +kernel
theorem dL_refuses_120 : decode cL_refuses 120 = .ok (.invokestatic 188, 3) := by decide +kernel
theorem dL_refuses_123 : decode cL_refuses 123 = .ok (.ldc2_w 17, 3) := by decide +kernel
theorem dL_refuses_126 : decode cL_refuses 126 = .ok (.lcmp, 1) := by decide +kernel
theorem dL_refuses_127 : decode cL_refuses 127 = .ok (.ifCond .ne 280, 3) := by decide +kernel
theorem dL_refuses_130 : decode cL_refuses 130 = .ok (.aload_n 0, 1) := by decide +kernel
theorem dL_refuses_131 : decode cL_refuses 131 = .ok (.sipush 401, 3) := by decide +kernel
theorem dL_refuses_134 : decode cL_refuses 134 = .ok (.invokestatic 188, 3) := by decide +kernel
theorem dL_refuses_137 : decode cL_refuses 137 = .ok (.ldc2_w 17, 3) := by decide +kernel
theorem dL_refuses_140 : decode cL_refuses 140 = .ok (.lcmp, 1) := by decide +kernel
theorem dL_refuses_141 : decode cL_refuses 141 = .ok (.ifCond .ne 266, 3) := by decide +kernel
theorem dL_refuses_144 : decode cL_refuses 144 = .ok (.aload_n 0, 1) := by decide +kernel
theorem dL_refuses_145 : decode cL_refuses 145 = .ok (.iload 4, 2) := by decide +kernel
theorem dL_refuses_147 : decode cL_refuses 147 = .ok (.iconst 1, 1) := by decide +kernel
theorem dL_refuses_148 : decode cL_refuses 148 = .ok (.iconst 0, 1) := by decide +kernel
theorem dL_refuses_149 : decode cL_refuses 149 = .ok (.invokestatic 191, 3) := by decide +kernel
theorem dL_refuses_152 : decode cL_refuses 152 = .ok (.ldc2_w 29, 3) := by decide +kernel
theorem dL_refuses_155 : decode cL_refuses 155 = .ok (.lcmp, 1) := by decide +kernel
theorem dL_refuses_156 : decode cL_refuses 156 = .ok (.ifCond .ne 251, 3) := by decide +kernel
theorem dL_refuses_159 : decode cL_refuses 159 = .ok (.aload_n 0, 1) := by decide +kernel
theorem dL_refuses_160 : decode cL_refuses 160 = .ok (.iconst 0, 1) := by decide +kernel
theorem dL_refuses_161 : decode cL_refuses 161 = .ok (.iconst 0, 1) := by decide +kernel
theorem dL_refuses_162 : decode cL_refuses 162 = .ok (.iconst 0, 1) := by decide +kernel
theorem dL_refuses_163 : decode cL_refuses 163 = .ok (.invokestatic 191, 3) := by decide +kernel
theorem dL_refuses_166 : decode cL_refuses 166 = .ok (.ldc2_w 17, 3) := by decide +kernel
theorem dL_refuses_169 : decode cL_refuses 169 = .ok (.lcmp, 1) := by decide +kernel
theorem dL_refuses_170 : decode cL_refuses 170 = .ok (.ifCond .ne 237, 3) := by decide +kernel
theorem dL_refuses_173 : decode cL_refuses 173 = .ok (.aload_n 0, 1) := by decide +kernel
theorem dL_refuses_174 : decode cL_refuses 174 = .ok (.iconst 0, 1) := by decide +kernel
theorem dL_refuses_175 : decode cL_refuses 175 = .ok (.iconst 1, 1) := by decide +kernel
theorem dL_refuses_176 : decode cL_refuses 176 = .ok (.bipush 121, 2) := by decide +kernel
theorem dL_refuses_178 : decode cL_refuses 178 = .ok (.invokestatic 191, 3) := by decide +kernel
theorem dL_refuses_181 : decode cL_refuses 181 = .ok (.ldc2_w 17, 3) := by decide +kernel
theorem dL_refuses_184 : decode cL_refuses 184 = .ok (.lcmp, 1) := by decide +kernel
theorem dL_refuses_185 : decode cL_refuses 185 = .ok (.ifCond .ne 222, 3) := by decide +kernel
theorem dL_refuses_188 : decode cL_refuses 188 = .ok (.aload_n 0, 1) := by decide +kernel
theorem dL_refuses_189 : decode cL_refuses 189 = .ok (.iload 4, 2) := by decide +kernel
theorem dL_refuses_191 : decode cL_refuses 191 = .ok (.iconst 1, 1) := by decide +kernel
theorem dL_refuses_192 : decode cL_refuses 192 = .ok (.invokestatic 194, 3) := by decide +kernel
theorem dL_refuses_195 : decode cL_refuses 195 = .ok (.ldc2_w 29, 3) := by decide +kernel
theorem dL_refuses_198 : decode cL_refuses 198 = .ok (.lcmp, 1) := by decide +kernel
theorem dL_refuses_199 : decode cL_refuses 199 = .ok (.ifCond .ne 208, 3) := by decide +kernel
theorem dL_refuses_202 : decode cL_refuses 202 = .ok (.aload_n 0, 1) := by decide +kernel
theorem dL_refuses_203 : decode cL_refuses 203 = .ok (.iconst 0, 1) := by decide +kernel
theorem dL_refuses_204 : decode cL_refuses 204 = .ok (.iconst 0, 1) := by decide +kernel
theorem dL_refuses_205 : decode cL_refuses 205 = .ok (.invokestatic 194, 3) := by decide +kernel
theorem dL_refuses_208 : decode cL_refuses 208 = .ok (.ldc2_w 17, 3) := by decide +kernel
theorem dL_refuses_211 : decode cL_refuses 211 = .ok (.lcmp, 1) := by decide +kernel
theorem dL_refuses_212 : decode cL_refuses 212 = .ok (.ifCond .ne 195, 3) := by decide +kernel
theorem dL_refuses_215 : decode cL_refuses 215 = .ok (.aload_n 0, 1) := by decide +kernel
theorem dL_refuses_216 : decode cL_refuses 216 = .ok (.iload 5, 2) := by decide +kernel
theorem dL_refuses_218 : decode cL_refuses 218 = .ok (.iconst 0, 1) := by decide +kernel
theorem dL_refuses_219 : decode cL_refuses 219 = .ok (.iconst 1, 1) := by decide +kernel
theorem dL_refuses_220 : decode cL_refuses 220 = .ok (.invokestatic 197, 3) := by decide +kernel
theorem dL_refuses_223 : decode cL_refuses 223 = .ok (.ldc2_w 29, 3) := by decide +kernel
theorem dL_refuses_226 : decode cL_refuses 226 = .ok (.lcmp, 1) := by decide +kernel
theorem dL_refuses_227 : decode cL_refuses 227 = .ok (.ifCond .ne 180, 3) := by decide +kernel
theorem dL_refuses_230 : decode cL_refuses 230 = .ok (.aload_n 0, 1) := by decide +kernel
theorem dL_refuses_231 : decode cL_refuses 231 = .ok (.iload 4, 2) := by decide +kernel
theorem dL_refuses_233 : decode cL_refuses 233 = .ok (.invokestatic 199, 3) := by decide +kernel
theorem dL_refuses_236 : decode cL_refuses 236 = .ok (.ldc2_w 29, 3) := by decide +kernel
theorem dL_refuses_239 : decode cL_refuses 239 = .ok (.lcmp, 1) := by decide +kernel
theorem dL_refuses_240 : decode cL_refuses 240 = .ok (.ifCond .ne 167, 3) := by decide +kernel
theorem dL_refuses_243 : decode cL_refuses 243 = .ok (.aload_n 0, 1) := by decide +kernel
theorem dL_refuses_244 : decode cL_refuses 244 = .ok (.iload 5, 2) := by decide +kernel
theorem dL_refuses_246 : decode cL_refuses 246 = .ok (.iconst 0, 1) := by decide +kernel
theorem dL_refuses_247 : decode cL_refuses 247 = .ok (.invokestatic 202, 3) := by decide +kernel
theorem dL_refuses_250 : decode cL_refuses 250 = .ok (.ldc2_w 29, 3) := by decide +kernel
theorem dL_refuses_253 : decode cL_refuses 253 = .ok (.lcmp, 1) := by decide +kernel
theorem dL_refuses_254 : decode cL_refuses 254 = .ok (.ifCond .ne 153, 3) := by decide +kernel
theorem dL_refuses_257 : decode cL_refuses 257 = .ok (.aload_n 0, 1) := by decide +kernel
theorem dL_refuses_258 : decode cL_refuses 258 = .ok (.iload 5, 2) := by decide +kernel
theorem dL_refuses_260 : decode cL_refuses 260 = .ok (.invokestatic 204, 3) := by decide +kernel
theorem dL_refuses_263 : decode cL_refuses 263 = .ok (.ldc2_w 29, 3) := by decide +kernel
theorem dL_refuses_266 : decode cL_refuses 266 = .ok (.lcmp, 1) := by decide +kernel
theorem dL_refuses_267 : decode cL_refuses 267 = .ok (.ifCond .ne 140, 3) := by decide +kernel
theorem dL_refuses_270 : decode cL_refuses 270 = .ok (.aload_n 0, 1) := by decide +kernel
theorem dL_refuses_271 : decode cL_refuses 271 = .ok (.iload_n 3, 1) := by decide +kernel
theorem dL_refuses_272 : decode cL_refuses 272 = .ok (.iconst 1, 1) := by decide +kernel
theorem dL_refuses_273 : decode cL_refuses 273 = .ok (.invokestatic 206, 3) := by decide +kernel
theorem dL_refuses_276 : decode cL_refuses 276 = .ok (.ldc2_w 29, 3) := by decide +kernel
theorem dL_refuses_279 : decode cL_refuses 279 = .ok (.lcmp, 1) := by decide +kernel
theorem dL_refuses_280 : decode cL_refuses 280 = .ok (.ifCond .ne 127, 3) := by decide +kernel
theorem dL_refuses_283 : decode cL_refuses 283 = .ok (.aload_n 0, 1) := by decide +kernel
theorem dL_refuses_284 : decode cL_refuses 284 = .ok (.iload 4, 2) := by decide +kernel
theorem dL_refuses_286 : decode cL_refuses 286 = .ok (.iconst 1, 1) := by decide +kernel
theorem dL_refuses_287 : decode cL_refuses 287 = .ok (.invokestatic 208, 3) := by decide +kernel
theorem dL_refuses_290 : decode cL_refuses 290 = .ok (.ldc2_w 29, 3) := by decide +kernel
theorem dL_refuses_293 : decode cL_refuses 293 = .ok (.lcmp, 1) := by decide +kernel
theorem dL_refuses_294 : decode cL_refuses 294 = .ok (.ifCond .ne 113, 3) := by decide +kernel
theorem dL_refuses_297 : decode cL_refuses 297 = .ok (.aload_n 0, 1) := by decide +kernel
theorem dL_refuses_298 : decode cL_refuses 298 = .ok (.iconst 0, 1) := by decide +kernel
theorem dL_refuses_299 : decode cL_refuses 299 = .ok (.iconst 0, 1) := by decide +kernel
theorem dL_refuses_300 : decode cL_refuses 300 = .ok (.invokestatic 208, 3) := by decide +kernel
theorem dL_refuses_303 : decode cL_refuses 303 = .ok (.ldc2_w 17, 3) := by decide +kernel
theorem dL_refuses_306 : decode cL_refuses 306 = .ok (.lcmp, 1) := by decide +kernel
theorem dL_refuses_307 : decode cL_refuses 307 = .ok (.ifCond .ne 100, 3) := by decide +kernel
theorem dL_refuses_310 : decode cL_refuses 310 = .ok (.aload_n 0, 1) := by decide +kernel
theorem dL_refuses_311 : decode cL_refuses 311 = .ok (.iload_n 3, 1) := by decide +kernel
theorem dL_refuses_312 : decode cL_refuses 312 = .ok (.iconst 0, 1) := by decide +kernel
theorem dL_refuses_313 : decode cL_refuses 313 = .ok (.invokestatic 210, 3) := by decide +kernel
theorem dL_refuses_316 : decode cL_refuses 316 = .ok (.ldc2_w 29, 3) := by decide +kernel
theorem dL_refuses_319 : decode cL_refuses 319 = .ok (.lcmp, 1) := by decide +kernel
theorem dL_refuses_320 : decode cL_refuses 320 = .ok (.ifCond .ne 87, 3) := by decide +kernel
theorem dL_refuses_323 : decode cL_refuses 323 = .ok (.aload_n 0, 1) := by decide +kernel
theorem dL_refuses_324 : decode cL_refuses 324 = .ok (.iload 4, 2) := by decide +kernel
theorem dL_refuses_326 : decode cL_refuses 326 = .ok (.iconst 0, 1) := by decide +kernel
theorem dL_refuses_327 : decode cL_refuses 327 = .ok (.invokestatic 212, 3) := by decide +kernel
theorem dL_refuses_330 : decode cL_refuses 330 = .ok (.ldc2_w 29, 3) := by decide +kernel
theorem dL_refuses_333 : decode cL_refuses 333 = .ok (.lcmp, 1) := by decide +kernel
theorem dL_refuses_334 : decode cL_refuses 334 = .ok (.ifCond .ne 73, 3) := by decide +kernel
theorem dL_refuses_337 : decode cL_refuses 337 = .ok (.aload_n 0, 1) := by decide +kernel
theorem dL_refuses_338 : decode cL_refuses 338 = .ok (.iconst 0, 1) := by decide +kernel
theorem dL_refuses_339 : decode cL_refuses 339 = .ok (.bipush 121, 2) := by decide +kernel
theorem dL_refuses_341 : decode cL_refuses 341 = .ok (.invokestatic 212, 3) := by decide +kernel
theorem dL_refuses_344 : decode cL_refuses 344 = .ok (.ldc2_w 17, 3) := by decide +kernel
theorem dL_refuses_347 : decode cL_refuses 347 = .ok (.lcmp, 1) := by decide +kernel
theorem dL_refuses_348 : decode cL_refuses 348 = .ok (.ifCond .ne 59, 3) := by decide +kernel
theorem dL_refuses_351 : decode cL_refuses 351 = .ok (.aload_n 0, 1) := by decide +kernel
theorem dL_refuses_352 : decode cL_refuses 352 = .ok (.iconst 0, 1) := by decide +kernel
theorem dL_refuses_353 : decode cL_refuses 353 = .ok (.iconst 5, 1) := by decide +kernel
theorem dL_refuses_354 : decode cL_refuses 354 = .ok (.invokestatic 215, 3) := by decide +kernel
theorem dL_refuses_357 : decode cL_refuses 357 = .ok (.ldc2_w 29, 3) := by decide +kernel
theorem dL_refuses_360 : decode cL_refuses 360 = .ok (.lcmp, 1) := by decide +kernel
theorem dL_refuses_361 : decode cL_refuses 361 = .ok (.ifCond .ne 46, 3) := by decide +kernel
theorem dL_refuses_364 : decode cL_refuses 364 = .ok (.aload_n 0, 1) := by decide +kernel
theorem dL_refuses_365 : decode cL_refuses 365 = .ok (.iconst 5, 1) := by decide +kernel
theorem dL_refuses_366 : decode cL_refuses 366 = .ok (.invokestatic 217, 3) := by decide +kernel
theorem dL_refuses_369 : decode cL_refuses 369 = .ok (.ldc2_w 17, 3) := by decide +kernel
theorem dL_refuses_372 : decode cL_refuses 372 = .ok (.lcmp, 1) := by decide +kernel
theorem dL_refuses_373 : decode cL_refuses 373 = .ok (.ifCond .ne 34, 3) := by decide +kernel
theorem dL_refuses_376 : decode cL_refuses 376 = .ok (.aload_n 0, 1) := by decide +kernel
theorem dL_refuses_377 : decode cL_refuses 377 = .ok (.aload_n 0, 1) := by decide +kernel
theorem dL_refuses_378 : decode cL_refuses 378 = .ok (.invokevirtual 138, 3) := by decide +kernel
theorem dL_refuses_381 : decode cL_refuses 381 = .ok (.invokestatic 220, 3) := by decide +kernel
theorem dL_refuses_384 : decode cL_refuses 384 = .ok (.ldc2_w 29, 3) := by decide +kernel
theorem dL_refuses_387 : decode cL_refuses 387 = .ok (.lcmp, 1) := by decide +kernel
theorem dL_refuses_388 : decode cL_refuses 388 = .ok (.ifCond .ne 19, 3) := by decide +kernel
theorem dL_refuses_391 : decode cL_refuses 391 = .ok (.aload_n 0, 1) := by decide +kernel
theorem dL_refuses_392 : decode cL_refuses 392 = .ok (.iconst (-1), 1) := by decide +kernel
theorem dL_refuses_393 : decode cL_refuses 393 = .ok (.invokestatic 223, 3) := by decide +kernel
theorem dL_refuses_396 : decode cL_refuses 396 = .ok (.ldc2_w 29, 3) := by decide +kernel
theorem dL_refuses_399 : decode cL_refuses 399 = .ok (.lcmp, 1) := by decide +kernel
theorem dL_refuses_400 : decode cL_refuses 400 = .ok (.ifCond .ne 7, 3) := by decide +kernel
theorem dL_refuses_403 : decode cL_refuses 403 = .ok (.iconst 1, 1) := by decide +kernel
theorem dL_refuses_404 : decode cL_refuses 404 = .ok (.goto 4, 3) := by decide +kernel
theorem dL_refuses_407 : decode cL_refuses 407 = .ok (.iconst 0, 1) := by decide +kernel
theorem dL_refuses_408 : decode cL_refuses 408 = .ok (.istore 6, 2) := by decide +kernel
theorem dL_refuses_410 : decode cL_refuses 410 = .ok (.iload 6, 2) := by decide +kernel
theorem dL_refuses_412 : decode cL_refuses 412 = .ok (.ifCond .eq 62, 3) := by decide +kernel
theorem dL_refuses_415 : decode cL_refuses 415 = .ok (.iload_n 3, 1) := by decide +kernel
theorem dL_refuses_416 : decode cL_refuses 416 = .ok (.ifCond .eq 45, 3) := by decide +kernel
theorem dL_refuses_419 : decode cL_refuses 419 = .ok (.aload_n 0, 1) := by decide +kernel
theorem dL_refuses_420 : decode cL_refuses 420 = .ok (.iconst 0, 1) := by decide +kernel
theorem dL_refuses_421 : decode cL_refuses 421 = .ok (.iconst 0, 1) := by decide +kernel
theorem dL_refuses_422 : decode cL_refuses 422 = .ok (.invokestatic 206, 3) := by decide +kernel
theorem dL_refuses_425 : decode cL_refuses 425 = .ok (.ldc2_w 17, 3) := by decide +kernel
theorem dL_refuses_428 : decode cL_refuses 428 = .ok (.lcmp, 1) := by decide +kernel
theorem dL_refuses_429 : decode cL_refuses 429 = .ok (.ifCond .ne 45, 3) := by decide +kernel
theorem dL_refuses_432 : decode cL_refuses 432 = .ok (.aload_n 0, 1) := by decide +kernel
theorem dL_refuses_433 : decode cL_refuses 433 = .ok (.iconst 0, 1) := by decide +kernel
theorem dL_refuses_434 : decode cL_refuses 434 = .ok (.iconst (-1), 1) := by decide +kernel
theorem dL_refuses_435 : decode cL_refuses 435 = .ok (.invokestatic 210, 3) := by decide +kernel
theorem dL_refuses_438 : decode cL_refuses 438 = .ok (.aload_n 0, 1) := by decide +kernel
theorem dL_refuses_439 : decode cL_refuses 439 = .ok (.iconst 0, 1) := by decide +kernel
theorem dL_refuses_440 : decode cL_refuses 440 = .ok (.invokestatic 150, 3) := by decide +kernel
theorem dL_refuses_443 : decode cL_refuses 443 = .ok (.lconst 0, 1) := by decide +kernel
theorem dL_refuses_444 : decode cL_refuses 444 = .ok (.lcmp, 1) := by decide +kernel
theorem dL_refuses_445 : decode cL_refuses 445 = .ok (.ifCond .ne 9, 3) := by decide +kernel
theorem dL_refuses_448 : decode cL_refuses 448 = .ok (.ldc2_w 21, 3) := by decide +kernel
theorem dL_refuses_451 : decode cL_refuses 451 = .ok (.goto 6, 3) := by decide +kernel
theorem dL_refuses_454 : decode cL_refuses 454 = .ok (.ldc2_w 17, 3) := by decide +kernel
theorem dL_refuses_457 : decode cL_refuses 457 = .ok (.lcmp, 1) := by decide +kernel
theorem dL_refuses_458 : decode cL_refuses 458 = .ok (.ifCond .ne 16, 3) := by decide +kernel
theorem dL_refuses_461 : decode cL_refuses 461 = .ok (.aload_n 0, 1) := by decide +kernel
theorem dL_refuses_462 : decode cL_refuses 462 = .ok (.invokestatic 170, 3) := by decide +kernel
theorem dL_refuses_465 : decode cL_refuses 465 = .ok (.lload_n 1, 1) := by decide +kernel
theorem dL_refuses_466 : decode cL_refuses 466 = .ok (.lcmp, 1) := by decide +kernel
theorem dL_refuses_467 : decode cL_refuses 467 = .ok (.ifCond .ne 7, 3) := by decide +kernel
theorem dL_refuses_470 : decode cL_refuses 470 = .ok (.iconst 1, 1) := by decide +kernel
theorem dL_refuses_471 : decode cL_refuses 471 = .ok (.goto 4, 3) := by decide +kernel
theorem dL_refuses_474 : decode cL_refuses 474 = .ok (.iconst 0, 1) := by decide +kernel
theorem dL_refuses_475 : decode cL_refuses 475 = .ok (.ireturn, 1) := by decide +kernel
theorem dL_addsUp_0 : decode cL_addsUp 0 = .ok (.iconst 1, 1) := by decide +kernel
theorem dL_addsUp_1 : decode cL_addsUp 1 = .ok (.istore 5, 2) := by decide +kernel
theorem dL_addsUp_3 : decode cL_addsUp 3 = .ok (.iconst 0, 1) := by decide +kernel
theorem dL_addsUp_4 : decode cL_addsUp 4 = .ok (.istore 6, 2) := by decide +kernel
theorem dL_addsUp_6 : decode cL_addsUp 6 = .ok (.iload 6, 2) := by decide +kernel
theorem dL_addsUp_8 : decode cL_addsUp 8 = .ok (.aload_n 0, 1) := by decide +kernel
theorem dL_addsUp_9 : decode cL_addsUp 9 = .ok (.invokevirtual 135, 3) := by decide +kernel
theorem dL_addsUp_12 : decode cL_addsUp 12 = .ok (.if_icmp .ge 165, 3) := by decide +kernel
theorem dL_addsUp_15 : decode cL_addsUp 15 = .ok (.iload 5, 2) := by decide +kernel
theorem dL_addsUp_17 : decode cL_addsUp 17 = .ok (.ifCond .eq 160, 3) := by decide +kernel
theorem dL_addsUp_20 : decode cL_addsUp 20 = .ok (.lconst 0, 1) := by decide +kernel
theorem dL_addsUp_21 : decode cL_addsUp 21 = .ok (.lstore 7, 2) := by decide +kernel
theorem dL_addsUp_23 : decode cL_addsUp 23 = .ok (.lconst 0, 1) := by decide +kernel
theorem dL_addsUp_24 : decode cL_addsUp 24 = .ok (.lstore 9, 2) := by decide +kernel
theorem dL_addsUp_26 : decode cL_addsUp 26 = .ok (.lconst 0, 1) := by decide +kernel
theorem dL_addsUp_27 : decode cL_addsUp 27 = .ok (.lstore 11, 2) := by decide +kernel
theorem dL_addsUp_29 : decode cL_addsUp 29 = .ok (.iconst 0, 1) := by decide +kernel
theorem dL_addsUp_30 : decode cL_addsUp 30 = .ok (.istore 13, 2) := by decide +kernel
theorem dL_addsUp_32 : decode cL_addsUp 32 = .ok (.iload 13, 2) := by decide +kernel
theorem dL_addsUp_34 : decode cL_addsUp 34 = .ok (.aload_n 0, 1) := by decide +kernel
theorem dL_addsUp_35 : decode cL_addsUp 35 = .ok (.invokevirtual 141, 3) := by decide +kernel
theorem dL_addsUp_38 : decode cL_addsUp 38 = .ok (.if_icmp .ge 33, 3) := by decide +kernel
theorem dL_addsUp_41 : decode cL_addsUp 41 = .ok (.lload 7, 2) := by decide +kernel
theorem dL_addsUp_43 : decode cL_addsUp 43 = .ok (.aload_n 1, 1) := by decide +kernel
theorem dL_addsUp_44 : decode cL_addsUp 44 = .ok (.iload 13, 2) := by decide +kernel
theorem dL_addsUp_46 : decode cL_addsUp 46 = .ok (.iaload, 1) := by decide +kernel
theorem dL_addsUp_47 : decode cL_addsUp 47 = .ok (.iload 6, 2) := by decide +kernel
theorem dL_addsUp_49 : decode cL_addsUp 49 = .ok (.if_icmp .ne 12, 3) := by decide +kernel
theorem dL_addsUp_52 : decode cL_addsUp 52 = .ok (.aload_n 0, 1) := by decide +kernel
theorem dL_addsUp_53 : decode cL_addsUp 53 = .ok (.iload 13, 2) := by decide +kernel
theorem dL_addsUp_55 : decode cL_addsUp 55 = .ok (.invokestatic 144, 3) := by decide +kernel
theorem dL_addsUp_58 : decode cL_addsUp 58 = .ok (.goto 4, 3) := by decide +kernel
theorem dL_addsUp_61 : decode cL_addsUp 61 = .ok (.lconst 0, 1) := by decide +kernel
theorem dL_addsUp_62 : decode cL_addsUp 62 = .ok (.ladd, 1) := by decide +kernel
theorem dL_addsUp_63 : decode cL_addsUp 63 = .ok (.lstore 7, 2) := by decide +kernel
theorem dL_addsUp_65 : decode cL_addsUp 65 = .ok (.iinc 13 1, 3) := by decide +kernel
theorem dL_addsUp_68 : decode cL_addsUp 68 = .ok (.goto (-36), 3) := by decide +kernel
theorem dL_addsUp_71 : decode cL_addsUp 71 = .ok (.iconst 0, 1) := by decide +kernel
theorem dL_addsUp_72 : decode cL_addsUp 72 = .ok (.istore 13, 2) := by decide +kernel
theorem dL_addsUp_74 : decode cL_addsUp 74 = .ok (.iload 13, 2) := by decide +kernel
theorem dL_addsUp_76 : decode cL_addsUp 76 = .ok (.aload_n 0, 1) := by decide +kernel
theorem dL_addsUp_77 : decode cL_addsUp 77 = .ok (.invokevirtual 165, 3) := by decide +kernel
theorem dL_addsUp_80 : decode cL_addsUp 80 = .ok (.if_icmp .ge 33, 3) := by decide +kernel
theorem dL_addsUp_83 : decode cL_addsUp 83 = .ok (.lload 9, 2) := by decide +kernel
theorem dL_addsUp_85 : decode cL_addsUp 85 = .ok (.aload_n 3, 1) := by decide +kernel
theorem dL_addsUp_86 : decode cL_addsUp 86 = .ok (.iload 13, 2) := by decide +kernel
theorem dL_addsUp_88 : decode cL_addsUp 88 = .ok (.iaload, 1) := by decide +kernel
theorem dL_addsUp_89 : decode cL_addsUp 89 = .ok (.iload 6, 2) := by decide +kernel
theorem dL_addsUp_91 : decode cL_addsUp 91 = .ok (.if_icmp .ne 12, 3) := by decide +kernel
theorem dL_addsUp_94 : decode cL_addsUp 94 = .ok (.aload_n 0, 1) := by decide +kernel
theorem dL_addsUp_95 : decode cL_addsUp 95 = .ok (.iload 13, 2) := by decide +kernel
theorem dL_addsUp_97 : decode cL_addsUp 97 = .ok (.invokestatic 168, 3) := by decide +kernel
theorem dL_addsUp_100 : decode cL_addsUp 100 = .ok (.goto 4, 3) := by decide +kernel
theorem dL_addsUp_103 : decode cL_addsUp 103 = .ok (.lconst 0, 1) := by decide +kernel
theorem dL_addsUp_104 : decode cL_addsUp 104 = .ok (.ladd, 1) := by decide +kernel
theorem dL_addsUp_105 : decode cL_addsUp 105 = .ok (.lstore 9, 2) := by decide +kernel
theorem dL_addsUp_107 : decode cL_addsUp 107 = .ok (.iinc 13 1, 3) := by decide +kernel
theorem dL_addsUp_110 : decode cL_addsUp 110 = .ok (.goto (-36), 3) := by decide +kernel
theorem dL_addsUp_113 : decode cL_addsUp 113 = .ok (.iconst 0, 1) := by decide +kernel
theorem dL_addsUp_114 : decode cL_addsUp 114 = .ok (.istore 13, 2) := by decide +kernel
theorem dL_addsUp_116 : decode cL_addsUp 116 = .ok (.iload 13, 2) := by decide +kernel
theorem dL_addsUp_118 : decode cL_addsUp 118 = .ok (.iconst 5, 1) := by decide +kernel
theorem dL_addsUp_119 : decode cL_addsUp 119 = .ok (.if_icmp .ge 22, 3) := by decide +kernel
theorem dL_addsUp_122 : decode cL_addsUp 122 = .ok (.lload 11, 2) := by decide +kernel
theorem dL_addsUp_124 : decode cL_addsUp 124 = .ok (.aload_n 0, 1) := by decide +kernel
theorem dL_addsUp_125 : decode cL_addsUp 125 = .ok (.iload 6, 2) := by decide +kernel
theorem dL_addsUp_127 : decode cL_addsUp 127 = .ok (.iload 13, 2) := by decide +kernel
theorem dL_addsUp_129 : decode cL_addsUp 129 = .ok (.invokestatic 215, 3) := by decide +kernel
theorem dL_addsUp_132 : decode cL_addsUp 132 = .ok (.ladd, 1) := by decide +kernel
theorem dL_addsUp_133 : decode cL_addsUp 133 = .ok (.lstore 11, 2) := by decide +kernel
theorem dL_addsUp_135 : decode cL_addsUp 135 = .ok (.iinc 13 1, 3) := by decide +kernel
theorem dL_addsUp_138 : decode cL_addsUp 138 = .ok (.goto (-22), 3) := by decide +kernel
theorem dL_addsUp_141 : decode cL_addsUp 141 = .ok (.aload_n 0, 1) := by decide +kernel
theorem dL_addsUp_142 : decode cL_addsUp 142 = .ok (.iload 6, 2) := by decide +kernel
theorem dL_addsUp_144 : decode cL_addsUp 144 = .ok (.invokestatic 225, 3) := by decide +kernel
theorem dL_addsUp_147 : decode cL_addsUp 147 = .ok (.lload 7, 2) := by decide +kernel
theorem dL_addsUp_149 : decode cL_addsUp 149 = .ok (.lload 9, 2) := by decide +kernel
theorem dL_addsUp_151 : decode cL_addsUp 151 = .ok (.lsub, 1) := by decide +kernel
theorem dL_addsUp_152 : decode cL_addsUp 152 = .ok (.lcmp, 1) := by decide +kernel
theorem dL_addsUp_153 : decode cL_addsUp 153 = .ok (.ifCond .ne 15, 3) := by decide +kernel
theorem dL_addsUp_156 : decode cL_addsUp 156 = .ok (.lload 11, 2) := by decide +kernel
theorem dL_addsUp_158 : decode cL_addsUp 158 = .ok (.lload 7, 2) := by decide +kernel
theorem dL_addsUp_160 : decode cL_addsUp 160 = .ok (.lcmp, 1) := by decide +kernel
theorem dL_addsUp_161 : decode cL_addsUp 161 = .ok (.ifCond .ne 7, 3) := by decide +kernel
theorem dL_addsUp_164 : decode cL_addsUp 164 = .ok (.iconst 1, 1) := by decide +kernel
theorem dL_addsUp_165 : decode cL_addsUp 165 = .ok (.goto 4, 3) := by decide +kernel
theorem dL_addsUp_168 : decode cL_addsUp 168 = .ok (.iconst 0, 1) := by decide +kernel
theorem dL_addsUp_169 : decode cL_addsUp 169 = .ok (.istore 5, 2) := by decide +kernel
theorem dL_addsUp_171 : decode cL_addsUp 171 = .ok (.iinc 6 1, 3) := by decide +kernel
theorem dL_addsUp_174 : decode cL_addsUp 174 = .ok (.goto (-168), 3) := by decide +kernel
theorem dL_addsUp_177 : decode cL_addsUp 177 = .ok (.iconst 0, 1) := by decide +kernel
theorem dL_addsUp_178 : decode cL_addsUp 178 = .ok (.istore 6, 2) := by decide +kernel
theorem dL_addsUp_180 : decode cL_addsUp 180 = .ok (.iload 6, 2) := by decide +kernel
theorem dL_addsUp_182 : decode cL_addsUp 182 = .ok (.aload_n 0, 1) := by decide +kernel
theorem dL_addsUp_183 : decode cL_addsUp 183 = .ok (.invokevirtual 141, 3) := by decide +kernel
theorem dL_addsUp_186 : decode cL_addsUp 186 = .ok (.if_icmp .ge 391, 3) := by decide +kernel
theorem dL_addsUp_189 : decode cL_addsUp 189 = .ok (.iload 5, 2) := by decide +kernel
theorem dL_addsUp_191 : decode cL_addsUp 191 = .ok (.ifCond .eq 386, 3) := by decide +kernel
theorem dL_addsUp_194 : decode cL_addsUp 194 = .ok (.aload_n 0, 1) := by decide +kernel
theorem dL_addsUp_195 : decode cL_addsUp 195 = .ok (.iload 6, 2) := by decide +kernel
theorem dL_addsUp_197 : decode cL_addsUp 197 = .ok (.invokestatic 227, 3) := by decide +kernel
theorem dL_addsUp_200 : decode cL_addsUp 200 = .ok (.aload_n 2, 1) := by decide +kernel
theorem dL_addsUp_201 : decode cL_addsUp 201 = .ok (.iload 6, 2) := by decide +kernel
theorem dL_addsUp_203 : decode cL_addsUp 203 = .ok (.iaload, 1) := by decide +kernel
theorem dL_addsUp_204 : decode cL_addsUp 204 = .ok (.i2l, 1) := by decide +kernel
theorem dL_addsUp_205 : decode cL_addsUp 205 = .ok (.lsub, 1) := by decide +kernel
theorem dL_addsUp_206 : decode cL_addsUp 206 = .ok (.lstore 7, 2) := by decide +kernel
theorem dL_addsUp_208 : decode cL_addsUp 208 = .ok (.iconst 0, 1) := by decide +kernel
theorem dL_addsUp_209 : decode cL_addsUp 209 = .ok (.istore 9, 2) := by decide +kernel
theorem dL_addsUp_211 : decode cL_addsUp 211 = .ok (.iload 9, 2) := by decide +kernel
theorem dL_addsUp_213 : decode cL_addsUp 213 = .ok (.aload_n 0, 1) := by decide +kernel
theorem dL_addsUp_214 : decode cL_addsUp 214 = .ok (.invokevirtual 165, 3) := by decide +kernel
theorem dL_addsUp_217 : decode cL_addsUp 217 = .ok (.if_icmp .ge 71, 3) := by decide +kernel
theorem dL_addsUp_220 : decode cL_addsUp 220 = .ok (.iload 5, 2) := by decide +kernel
theorem dL_addsUp_222 : decode cL_addsUp 222 = .ok (.ifCond .eq 66, 3) := by decide +kernel
theorem dL_addsUp_225 : decode cL_addsUp 225 = .ok (.lload 7, 2) := by decide +kernel
theorem dL_addsUp_227 : decode cL_addsUp 227 = .ok (.aload_n 0, 1) := by decide +kernel
theorem dL_addsUp_228 : decode cL_addsUp 228 = .ok (.iload 9, 2) := by decide +kernel
theorem dL_addsUp_230 : decode cL_addsUp 230 = .ok (.iload 6, 2) := by decide +kernel
theorem dL_addsUp_232 : decode cL_addsUp 232 = .ok (.invokestatic 230, 3) := by decide +kernel
theorem dL_addsUp_235 : decode cL_addsUp 235 = .ok (.lsub, 1) := by decide +kernel
theorem dL_addsUp_236 : decode cL_addsUp 236 = .ok (.lstore 7, 2) := by decide +kernel
theorem dL_addsUp_238 : decode cL_addsUp 238 = .ok (.aload_n 0, 1) := by decide +kernel
theorem dL_addsUp_239 : decode cL_addsUp 239 = .ok (.iload 9, 2) := by decide +kernel
theorem dL_addsUp_241 : decode cL_addsUp 241 = .ok (.iload 6, 2) := by decide +kernel
theorem dL_addsUp_243 : decode cL_addsUp 243 = .ok (.invokestatic 230, 3) := by decide +kernel
theorem dL_addsUp_246 : decode cL_addsUp 246 = .ok (.lconst 0, 1) := by decide +kernel
theorem dL_addsUp_247 : decode cL_addsUp 247 = .ok (.lcmp, 1) := by decide +kernel
theorem dL_addsUp_248 : decode cL_addsUp 248 = .ok (.ifCond .lt 31, 3) := by decide +kernel
theorem dL_addsUp_251 : decode cL_addsUp 251 = .ok (.aload_n 1, 1) := by decide +kernel
theorem dL_addsUp_252 : decode cL_addsUp 252 = .ok (.iload 6, 2) := by decide +kernel
theorem dL_addsUp_254 : decode cL_addsUp 254 = .ok (.iaload, 1) := by decide +kernel
theorem dL_addsUp_255 : decode cL_addsUp 255 = .ok (.aload_n 3, 1) := by decide +kernel
theorem dL_addsUp_256 : decode cL_addsUp 256 = .ok (.iload 9, 2) := by decide +kernel
theorem dL_addsUp_258 : decode cL_addsUp 258 = .ok (.iaload, 1) := by decide +kernel
theorem dL_addsUp_259 : decode cL_addsUp 259 = .ok (.if_icmp .eq 16, 3) := by decide +kernel
theorem dL_addsUp_262 : decode cL_addsUp 262 = .ok (.aload_n 0, 1) := by decide +kernel
theorem dL_addsUp_263 : decode cL_addsUp 263 = .ok (.iload 9, 2) := by decide +kernel
theorem dL_addsUp_265 : decode cL_addsUp 265 = .ok (.iload 6, 2) := by decide +kernel
theorem dL_addsUp_267 : decode cL_addsUp 267 = .ok (.invokestatic 230, 3) := by decide +kernel
theorem dL_addsUp_270 : decode cL_addsUp 270 = .ok (.lconst 0, 1) := by decide +kernel
theorem dL_addsUp_271 : decode cL_addsUp 271 = .ok (.lcmp, 1) := by decide +kernel
theorem dL_addsUp_272 : decode cL_addsUp 272 = .ok (.ifCond .ne 7, 3) := by decide +kernel
theorem dL_addsUp_275 : decode cL_addsUp 275 = .ok (.iconst 1, 1) := by decide +kernel
theorem dL_addsUp_276 : decode cL_addsUp 276 = .ok (.goto 4, 3) := by decide +kernel
theorem dL_addsUp_279 : decode cL_addsUp 279 = .ok (.iconst 0, 1) := by decide +kernel
theorem dL_addsUp_280 : decode cL_addsUp 280 = .ok (.istore 5, 2) := by decide +kernel
theorem dL_addsUp_282 : decode cL_addsUp 282 = .ok (.iinc 9 1, 3) := by decide +kernel
theorem dL_addsUp_285 : decode cL_addsUp 285 = .ok (.goto (-74), 3) := by decide +kernel
theorem dL_addsUp_288 : decode cL_addsUp 288 = .ok (.aload_n 0, 1) := by decide +kernel
theorem dL_addsUp_289 : decode cL_addsUp 289 = .ok (.iload 6, 2) := by decide +kernel
theorem dL_addsUp_291 : decode cL_addsUp 291 = .ok (.invokestatic 144, 3) := by decide +kernel
theorem dL_addsUp_294 : decode cL_addsUp 294 = .ok (.lstore 9, 2) := by decide +kernel
theorem dL_addsUp_296 : decode cL_addsUp 296 = .ok (.aload_n 0, 1) := by decide +kernel
theorem dL_addsUp_297 : decode cL_addsUp 297 = .ok (.iload 6, 2) := by decide +kernel
theorem dL_addsUp_299 : decode cL_addsUp 299 = .ok (.invokestatic 157, 3) := by decide +kernel
theorem dL_addsUp_302 : decode cL_addsUp 302 = .ok (.ldc2_w 232, 3) := by decide +kernel
theorem dL_addsUp_305 : decode cL_addsUp 305 = .ok (.lcmp, 1) := by decide +kernel
theorem dL_addsUp_306 : decode cL_addsUp 306 = .ok (.ifCond .ge 25, 3) := by decide +kernel
theorem dL_addsUp_309 : decode cL_addsUp 309 = .ok (.lload 9, 2) := by decide +kernel
theorem dL_addsUp_311 : decode cL_addsUp 311 = .ok (.lconst 0, 1) := by decide +kernel
theorem dL_addsUp_312 : decode cL_addsUp 312 = .ok (.lcmp, 1) := by decide +kernel
theorem dL_addsUp_313 : decode cL_addsUp 313 = .ok (.ifCond .le 18, 3) := by decide +kernel
theorem dL_addsUp_316 : decode cL_addsUp 316 = .ok (.aload_n 0, 1) := by decide +kernel
theorem dL_addsUp_317 : decode cL_addsUp 317 = .ok (.iload 6, 2) := by decide +kernel
theorem dL_addsUp_319 : decode cL_addsUp 319 = .ok (.invokestatic 150, 3) := by decide +kernel
theorem dL_addsUp_322 : decode cL_addsUp 322 = .ok (.lconst 0, 1) := by decide +kernel
theorem dL_addsUp_323 : decode cL_addsUp 323 = .ok (.lcmp, 1) := by decide +kernel
theorem dL_addsUp_324 : decode cL_addsUp 324 = .ok (.ifCond .ne 7, 3) := by decide +kernel
theorem dL_addsUp_327 : decode cL_addsUp 327 = .ok (.iconst 1, 1) := by decide +kernel
theorem dL_addsUp_328 : decode cL_addsUp 328 = .ok (.goto 4, 3) := by decide +kernel
theorem dL_addsUp_331 : decode cL_addsUp 331 = .ok (.iconst 0, 1) := by decide +kernel
theorem dL_addsUp_332 : decode cL_addsUp 332 = .ok (.istore 11, 2) := by decide +kernel
theorem dL_addsUp_334 : decode cL_addsUp 334 = .ok (.iload 5, 2) := by decide +kernel
theorem dL_addsUp_336 : decode cL_addsUp 336 = .ok (.ifCond .eq 232, 3) := by decide +kernel
theorem dL_addsUp_339 : decode cL_addsUp 339 = .ok (.lload 9, 2) := by decide +kernel
theorem dL_addsUp_341 : decode cL_addsUp 341 = .ok (.lload 7, 2) := by decide +kernel
theorem dL_addsUp_343 : decode cL_addsUp 343 = .ok (.lcmp, 1) := by decide +kernel
theorem dL_addsUp_344 : decode cL_addsUp 344 = .ok (.ifCond .ne 224, 3) := by decide +kernel
theorem dL_addsUp_347 : decode cL_addsUp 347 = .ok (.aload_n 0, 1) := by decide +kernel
theorem dL_addsUp_348 : decode cL_addsUp 348 = .ok (.iload 6, 2) := by decide +kernel
theorem dL_addsUp_350 : decode cL_addsUp 350 = .ok (.invokestatic 234, 3) := by decide +kernel
theorem dL_addsUp_353 : decode cL_addsUp 353 = .ok (.lload 9, 2) := by decide +kernel
theorem dL_addsUp_355 : decode cL_addsUp 355 = .ok (.lcmp, 1) := by decide +kernel
theorem dL_addsUp_356 : decode cL_addsUp 356 = .ok (.ifCond .ne 212, 3) := by decide +kernel
theorem dL_addsUp_359 : decode cL_addsUp 359 = .ok (.aload_n 0, 1) := by decide +kernel
theorem dL_addsUp_360 : decode cL_addsUp 360 = .ok (.iload 6, 2) := by decide +kernel
theorem dL_addsUp_362 : decode cL_addsUp 362 = .ok (.invokestatic 150, 3) := by decide +kernel
theorem dL_addsUp_365 : decode cL_addsUp 365 = .ok (.lconst 0, 1) := by decide +kernel
theorem dL_addsUp_366 : decode cL_addsUp 366 = .ok (.lload 9, 2) := by decide +kernel
theorem dL_addsUp_368 : decode cL_addsUp 368 = .ok (.invokestatic 237, 3) := by decide +kernel
theorem dL_addsUp_371 : decode cL_addsUp 371 = .ok (.ifCond .eq 197, 3) := by decide +kernel
theorem dL_addsUp_374 : decode cL_addsUp 374 = .ok (.aload_n 0, 1) := by decide +kernel
theorem dL_addsUp_375 : decode cL_addsUp 375 = .ok (.iload 6, 2) := by decide +kernel
theorem dL_addsUp_377 : decode cL_addsUp 377 = .ok (.invokestatic 157, 3) := by decide +kernel
theorem dL_addsUp_380 : decode cL_addsUp 380 = .ok (.lconst 0, 1) := by decide +kernel
theorem dL_addsUp_381 : decode cL_addsUp 381 = .ok (.lload 9, 2) := by decide +kernel
theorem dL_addsUp_383 : decode cL_addsUp 383 = .ok (.lconst 0, 1) := by decide +kernel
theorem dL_addsUp_384 : decode cL_addsUp 384 = .ok (.lcmp, 1) := by decide +kernel
theorem dL_addsUp_385 : decode cL_addsUp 385 = .ok (.ifCond .ne 7, 3) := by decide +kernel
theorem dL_addsUp_388 : decode cL_addsUp 388 = .ok (.lconst 0, 1) := by decide +kernel
theorem dL_addsUp_389 : decode cL_addsUp 389 = .ok (.goto 6, 3) := by decide +kernel
theorem dL_addsUp_392 : decode cL_addsUp 392 = .ok (.ldc2_w 232, 3) := by decide +kernel
theorem dL_addsUp_395 : decode cL_addsUp 395 = .ok (.invokestatic 237, 3) := by decide +kernel
theorem dL_addsUp_398 : decode cL_addsUp 398 = .ok (.ifCond .eq 170, 3) := by decide +kernel
theorem dL_addsUp_401 : decode cL_addsUp 401 = .ok (.iload 11, 2) := by decide +kernel
theorem dL_addsUp_403 : decode cL_addsUp 403 = .ok (.ifCond .eq 41, 3) := by decide +kernel
theorem dL_addsUp_406 : decode cL_addsUp 406 = .ok (.aload_n 0, 1) := by decide +kernel
theorem dL_addsUp_407 : decode cL_addsUp 407 = .ok (.iload 6, 2) := by decide +kernel
theorem dL_addsUp_409 : decode cL_addsUp 409 = .ok (.invokestatic 162, 3) := by decide +kernel
theorem dL_addsUp_412 : decode cL_addsUp 412 = .ok (.lconst 1, 1) := by decide +kernel
theorem dL_addsUp_413 : decode cL_addsUp 413 = .ok (.lcmp, 1) := by decide +kernel
theorem dL_addsUp_414 : decode cL_addsUp 414 = .ok (.ifCond .lt 154, 3) := by decide +kernel
theorem dL_addsUp_417 : decode cL_addsUp 417 = .ok (.aload_n 0, 1) := by decide +kernel
theorem dL_addsUp_418 : decode cL_addsUp 418 = .ok (.iload 6, 2) := by decide +kernel
theorem dL_addsUp_420 : decode cL_addsUp 420 = .ok (.invokestatic 162, 3) := by decide +kernel
theorem dL_addsUp_423 : decode cL_addsUp 423 = .ok (.aload_n 0, 1) := by decide +kernel
theorem dL_addsUp_424 : decode cL_addsUp 424 = .ok (.iload 6, 2) := by decide +kernel
theorem dL_addsUp_426 : decode cL_addsUp 426 = .ok (.invokestatic 241, 3) := by decide +kernel
theorem dL_addsUp_429 : decode cL_addsUp 429 = .ok (.aload_n 0, 1) := by decide +kernel
theorem dL_addsUp_430 : decode cL_addsUp 430 = .ok (.invokevirtual 131, 3) := by decide +kernel
theorem dL_addsUp_433 : decode cL_addsUp 433 = .ok (.i2l, 1) := by decide +kernel
theorem dL_addsUp_434 : decode cL_addsUp 434 = .ok (.lsub, 1) := by decide +kernel
theorem dL_addsUp_435 : decode cL_addsUp 435 = .ok (.lconst 1, 1) := by decide +kernel
theorem dL_addsUp_436 : decode cL_addsUp 436 = .ok (.ladd, 1) := by decide +kernel
theorem dL_addsUp_437 : decode cL_addsUp 437 = .ok (.lcmp, 1) := by decide +kernel
theorem dL_addsUp_438 : decode cL_addsUp 438 = .ok (.ifCond .lt 130, 3) := by decide +kernel
theorem dL_addsUp_441 : decode cL_addsUp 441 = .ok (.goto 16, 3) := by decide +kernel
theorem dL_addsUp_444 : decode cL_addsUp 444 = .ok (.aload_n 0, 1) := by decide +kernel
theorem dL_addsUp_445 : decode cL_addsUp 445 = .ok (.iload 6, 2) := by decide +kernel
theorem dL_addsUp_447 : decode cL_addsUp 447 = .ok (.invokestatic 162, 3) := by decide +kernel
theorem dL_addsUp_450 : decode cL_addsUp 450 = .ok (.ldc2_w 244, 3) := by decide +kernel
theorem dL_addsUp_453 : decode cL_addsUp 453 = .ok (.lcmp, 1) := by decide +kernel
theorem dL_addsUp_454 : decode cL_addsUp 454 = .ok (.ifCond .ne 114, 3) := by decide +kernel
theorem dL_addsUp_457 : decode cL_addsUp 457 = .ok (.aload_n 0, 1) := by decide +kernel
theorem dL_addsUp_458 : decode cL_addsUp 458 = .ok (.iload 6, 2) := by decide +kernel
theorem dL_addsUp_460 : decode cL_addsUp 460 = .ok (.invokestatic 246, 3) := by decide +kernel
theorem dL_addsUp_463 : decode cL_addsUp 463 = .ok (.aload_n 0, 1) := by decide +kernel
theorem dL_addsUp_464 : decode cL_addsUp 464 = .ok (.invokevirtual 131, 3) := by decide +kernel
theorem dL_addsUp_467 : decode cL_addsUp 467 = .ok (.i2l, 1) := by decide +kernel
theorem dL_addsUp_468 : decode cL_addsUp 468 = .ok (.aload_n 0, 1) := by decide +kernel
theorem dL_addsUp_469 : decode cL_addsUp 469 = .ok (.iload 6, 2) := by decide +kernel
theorem dL_addsUp_471 : decode cL_addsUp 471 = .ok (.invokestatic 241, 3) := by decide +kernel
theorem dL_addsUp_474 : decode cL_addsUp 474 = .ok (.lcmp, 1) := by decide +kernel
theorem dL_addsUp_475 : decode cL_addsUp 475 = .ok (.ifCond .gt 7, 3) := by decide +kernel
theorem dL_addsUp_478 : decode cL_addsUp 478 = .ok (.lconst 0, 1) := by decide +kernel
theorem dL_addsUp_479 : decode cL_addsUp 479 = .ok (.goto 48, 3) := by decide +kernel
theorem dL_addsUp_482 : decode cL_addsUp 482 = .ok (.aload_n 0, 1) := by decide +kernel
theorem dL_addsUp_483 : decode cL_addsUp 483 = .ok (.invokevirtual 131, 3) := by decide +kernel
theorem dL_addsUp_486 : decode cL_addsUp 486 = .ok (.i2l, 1) := by decide +kernel
theorem dL_addsUp_487 : decode cL_addsUp 487 = .ok (.aload_n 0, 1) := by decide +kernel
theorem dL_addsUp_488 : decode cL_addsUp 488 = .ok (.iload 6, 2) := by decide +kernel
theorem dL_addsUp_490 : decode cL_addsUp 490 = .ok (.invokestatic 241, 3) := by decide +kernel
theorem dL_addsUp_493 : decode cL_addsUp 493 = .ok (.lsub, 1) := by decide +kernel
theorem dL_addsUp_494 : decode cL_addsUp 494 = .ok (.ldc2_w 249, 3) := by decide +kernel
theorem dL_addsUp_497 : decode cL_addsUp 497 = .ok (.lcmp, 1) := by decide +kernel
theorem dL_addsUp_498 : decode cL_addsUp 498 = .ok (.ifCond .le 9, 3) := by decide +kernel
theorem dL_addsUp_501 : decode cL_addsUp 501 = .ok (.ldc2_w 232, 3) := by decide +kernel
theorem dL_addsUp_504 : decode cL_addsUp 504 = .ok (.goto 23, 3) := by decide +kernel
theorem dL_addsUp_507 : decode cL_addsUp 507 = .ok (.aload_n 0, 1) := by decide +kernel
theorem dL_addsUp_508 : decode cL_addsUp 508 = .ok (.invokevirtual 131, 3) := by decide +kernel
theorem dL_addsUp_511 : decode cL_addsUp 511 = .ok (.i2l, 1) := by decide +kernel
theorem dL_addsUp_512 : decode cL_addsUp 512 = .ok (.aload_n 0, 1) := by decide +kernel
theorem dL_addsUp_513 : decode cL_addsUp 513 = .ok (.iload 6, 2) := by decide +kernel
theorem dL_addsUp_515 : decode cL_addsUp 515 = .ok (.invokestatic 241, 3) := by decide +kernel
theorem dL_addsUp_518 : decode cL_addsUp 518 = .ok (.lsub, 1) := by decide +kernel
theorem dL_addsUp_519 : decode cL_addsUp 519 = .ok (.ldc2_w 251, 3) := by decide +kernel
theorem dL_addsUp_522 : decode cL_addsUp 522 = .ok (.ladd, 1) := by decide +kernel
theorem dL_addsUp_523 : decode cL_addsUp 523 = .ok (.ldc2_w 253, 3) := by decide +kernel
theorem dL_addsUp_526 : decode cL_addsUp 526 = .ok (.ldiv, 1) := by decide +kernel
theorem dL_addsUp_527 : decode cL_addsUp 527 = .ok (.lcmp, 1) := by decide +kernel
theorem dL_addsUp_528 : decode cL_addsUp 528 = .ok (.ifCond .ne 40, 3) := by decide +kernel
theorem dL_addsUp_531 : decode cL_addsUp 531 = .ok (.aload_n 0, 1) := by decide +kernel
theorem dL_addsUp_532 : decode cL_addsUp 532 = .ok (.iload 6, 2) := by decide +kernel
theorem dL_addsUp_534 : decode cL_addsUp 534 = .ok (.invokestatic 255, 3) := by decide +kernel
theorem dL_addsUp_537 : decode cL_addsUp 537 = .ok (.lconst 0, 1) := by decide +kernel
theorem dL_addsUp_538 : decode cL_addsUp 538 = .ok (.lcmp, 1) := by decide +kernel
theorem dL_addsUp_539 : decode cL_addsUp 539 = .ok (.ifCond .eq 14, 3) := by decide +kernel
theorem dL_addsUp_542 : decode cL_addsUp 542 = .ok (.aload_n 0, 1) := by decide +kernel
theorem dL_addsUp_543 : decode cL_addsUp 543 = .ok (.iload 6, 2) := by decide +kernel
theorem dL_addsUp_545 : decode cL_addsUp 545 = .ok (.invokestatic 153, 3) := by decide +kernel
theorem dL_addsUp_548 : decode cL_addsUp 548 = .ok (.lconst 0, 1) := by decide +kernel
theorem dL_addsUp_549 : decode cL_addsUp 549 = .ok (.lcmp, 1) := by decide +kernel
theorem dL_addsUp_550 : decode cL_addsUp 550 = .ok (.ifCond .ne 18, 3) := by decide +kernel
theorem dL_addsUp_553 : decode cL_addsUp 553 = .ok (.aload_n 0, 1) := by decide +kernel
theorem dL_addsUp_554 : decode cL_addsUp 554 = .ok (.iload 6, 2) := by decide +kernel
theorem dL_addsUp_556 : decode cL_addsUp 556 = .ok (.invokestatic 153, 3) := by decide +kernel
theorem dL_addsUp_559 : decode cL_addsUp 559 = .ok (.lconst 0, 1) := by decide +kernel
theorem dL_addsUp_560 : decode cL_addsUp 560 = .ok (.lcmp, 1) := by decide +kernel
theorem dL_addsUp_561 : decode cL_addsUp 561 = .ok (.ifCond .lt 7, 3) := by decide +kernel
theorem dL_addsUp_564 : decode cL_addsUp 564 = .ok (.iconst 1, 1) := by decide +kernel
theorem dL_addsUp_565 : decode cL_addsUp 565 = .ok (.goto 4, 3) := by decide +kernel
theorem dL_addsUp_568 : decode cL_addsUp 568 = .ok (.iconst 0, 1) := by decide +kernel
theorem dL_addsUp_569 : decode cL_addsUp 569 = .ok (.istore 5, 2) := by decide +kernel
theorem dL_addsUp_571 : decode cL_addsUp 571 = .ok (.iinc 6 1, 3) := by decide +kernel
theorem dL_addsUp_574 : decode cL_addsUp 574 = .ok (.goto (-394), 3) := by decide +kernel
theorem dL_addsUp_577 : decode cL_addsUp 577 = .ok (.iconst 0, 1) := by decide +kernel
theorem dL_addsUp_578 : decode cL_addsUp 578 = .ok (.istore 6, 2) := by decide +kernel
theorem dL_addsUp_580 : decode cL_addsUp 580 = .ok (.iload 6, 2) := by decide +kernel
theorem dL_addsUp_582 : decode cL_addsUp 582 = .ok (.aload_n 0, 1) := by decide +kernel
theorem dL_addsUp_583 : decode cL_addsUp 583 = .ok (.invokevirtual 165, 3) := by decide +kernel
theorem dL_addsUp_586 : decode cL_addsUp 586 = .ok (.if_icmp .ge 83, 3) := by decide +kernel
theorem dL_addsUp_589 : decode cL_addsUp 589 = .ok (.iload 5, 2) := by decide +kernel
theorem dL_addsUp_591 : decode cL_addsUp 591 = .ok (.ifCond .eq 78, 3) := by decide +kernel
theorem dL_addsUp_594 : decode cL_addsUp 594 = .ok (.aload_n 0, 1) := by decide +kernel
theorem dL_addsUp_595 : decode cL_addsUp 595 = .ok (.iload 6, 2) := by decide +kernel
theorem dL_addsUp_597 : decode cL_addsUp 597 = .ok (.invokestatic 168, 3) := by decide +kernel
