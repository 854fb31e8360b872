theorem dX7_init_0 : decode cX7_init 0 = .ok (.aload_n 0, 1) := by decide +kernel
theorem dX7_init_1 : decode cX7_init 1 = .ok (.invokespecial 1, 3) := by decide +kernel
theorem dX7_init_4 : decode cX7_init 4 = .ok (.aload_n 0, 1) := by decide +kernel
theorem dX7_init_5 : decode cX7_init 5 = .ok (.bipush 6, 2) := by decide +kernel
theorem dX7_init_7 : decode cX7_init 7 = .ok (.newarray .int, 2) := by decide +kernel
theorem dX7_init_9 : decode cX7_init 9 = .ok (.putfield 7, 3) := by decide +kernel
theorem dX7_init_12 : decode cX7_init 12 = .ok (.aload_n 0, 1) := by decide +kernel
theorem dX7_init_13 : decode cX7_init 13 = .ok (.bipush 6, 2) := by decide +kernel
theorem dX7_init_15 : decode cX7_init 15 = .ok (.newarray .int, 2) := by decide +kernel
theorem dX7_init_17 : decode cX7_init 17 = .ok (.putfield 13, 3) := by decide +kernel
theorem dX7_init_20 : decode cX7_init 20 = .ok (.aload_n 0, 1) := by decide +kernel
theorem dX7_init_21 : decode cX7_init 21 = .ok (.bipush 6, 2) := by decide +kernel
theorem dX7_init_23 : decode cX7_init 23 = .ok (.newarray .int, 2) := by decide +kernel
theorem dX7_init_25 : decode cX7_init 25 = .ok (.putfield 16, 3) := by decide +kernel
theorem dX7_init_28 : decode cX7_init 28 = .ok (.aload_n 0, 1) := by decide +kernel
theorem dX7_init_29 : decode cX7_init 29 = .ok (.bipush 6, 2) := by decide +kernel
theorem dX7_init_31 : decode cX7_init 31 = .ok (.newarray .int, 2) := by decide +kernel
theorem dX7_init_33 : decode cX7_init 33 = .ok (.putfield 19, 3) := by decide +kernel
theorem dX7_init_36 : decode cX7_init 36 = .ok (.aload_n 0, 1) := by decide +kernel
theorem dX7_init_37 : decode cX7_init 37 = .ok (.bipush 24, 2) := by decide +kernel
theorem dX7_init_39 : decode cX7_init 39 = .ok (.newarray .int, 2) := by decide +kernel
theorem dX7_init_41 : decode cX7_init 41 = .ok (.putfield 22, 3) := by decide +kernel
theorem dX7_init_44 : decode cX7_init 44 = .ok (.aload_n 0, 1) := by decide +kernel
theorem dX7_init_45 : decode cX7_init 45 = .ok (.bipush 24, 2) := by decide +kernel
theorem dX7_init_47 : decode cX7_init 47 = .ok (.newarray .int, 2) := by decide +kernel
theorem dX7_init_49 : decode cX7_init 49 = .ok (.putfield 25, 3) := by decide +kernel
theorem dX7_init_52 : decode cX7_init 52 = .ok (.aload_n 0, 1) := by decide +kernel
theorem dX7_init_53 : decode cX7_init 53 = .ok (.bipush 24, 2) := by decide +kernel
theorem dX7_init_55 : decode cX7_init 55 = .ok (.newarray .int, 2) := by decide +kernel
theorem dX7_init_57 : decode cX7_init 57 = .ok (.putfield 28, 3) := by decide +kernel
theorem dX7_init_60 : decode cX7_init 60 = .ok (.aload_n 0, 1) := by decide +kernel
theorem dX7_init_61 : decode cX7_init 61 = .ok (.bipush 24, 2) := by decide +kernel
theorem dX7_init_63 : decode cX7_init 63 = .ok (.newarray .int, 2) := by decide +kernel
theorem dX7_init_65 : decode cX7_init 65 = .ok (.putfield 31, 3) := by decide +kernel
theorem dX7_init_68 : decode cX7_init 68 = .ok (.aload_n 0, 1) := by decide +kernel
theorem dX7_init_69 : decode cX7_init 69 = .ok (.bipush 24, 2) := by decide +kernel
theorem dX7_init_71 : decode cX7_init 71 = .ok (.newarray .int, 2) := by decide +kernel
theorem dX7_init_73 : decode cX7_init 73 = .ok (.putfield 34, 3) := by decide +kernel
theorem dX7_init_76 : decode cX7_init 76 = .ok (.aload_n 0, 1) := by decide +kernel
theorem dX7_init_77 : decode cX7_init 77 = .ok (.bipush 24, 2) := by decide +kernel
theorem dX7_init_79 : decode cX7_init 79 = .ok (.newarray .long, 2) := by decide +kernel
theorem dX7_init_81 : decode cX7_init 81 = .ok (.putfield 37, 3) := by decide +kernel
theorem dX7_init_84 : decode cX7_init 84 = .ok (.aload_n 0, 1) := by decide +kernel
theorem dX7_init_85 : decode cX7_init 85 = .ok (.bipush 24, 2) := by decide +kernel
theorem dX7_init_87 : decode cX7_init 87 = .ok (.newarray .boolean, 2) := by decide +kernel
theorem dX7_init_89 : decode cX7_init 89 = .ok (.putfield 41, 3) := by decide +kernel
theorem dX7_init_92 : decode cX7_init 92 = .ok (.aload_n 0, 1) := by decide +kernel
theorem dX7_init_93 : decode cX7_init 93 = .ok (.bipush 24, 2) := by decide +kernel
theorem dX7_init_95 : decode cX7_init 95 = .ok (.newarray .int, 2) := by decide +kernel
theorem dX7_init_97 : decode cX7_init 97 = .ok (.putfield 45, 3) := by decide +kernel
theorem dX7_init_100 : decode cX7_init 100 = .ok (.aload_n 0, 1) := by decide +kernel
theorem dX7_init_101 : decode cX7_init 101 = .ok (.bipush 24, 2) := by decide +kernel
theorem dX7_init_103 : decode cX7_init 103 = .ok (.newarray .int, 2) := by decide +kernel
theorem dX7_init_105 : decode cX7_init 105 = .ok (.putfield 48, 3) := by decide +kernel
theorem dX7_init_108 : decode cX7_init 108 = .ok (.aload_n 0, 1) := by decide +kernel
theorem dX7_init_109 : decode cX7_init 109 = .ok (.bipush 24, 2) := by decide +kernel
theorem dX7_init_111 : decode cX7_init 111 = .ok (.newarray .int, 2) := by decide +kernel
theorem dX7_init_113 : decode cX7_init 113 = .ok (.putfield 51, 3) := by decide +kernel
theorem dX7_init_116 : decode cX7_init 116 = .ok (.aload_n 0, 1) := by decide +kernel
theorem dX7_init_117 : decode cX7_init 117 = .ok (.bipush 24, 2) := by decide +kernel
theorem dX7_init_119 : decode cX7_init 119 = .ok (.newarray .int, 2) := by decide +kernel
theorem dX7_init_121 : decode cX7_init 121 = .ok (.putfield 54, 3) := by decide +kernel
theorem dX7_init_124 : decode cX7_init 124 = .ok (.aload_n 0, 1) := by decide +kernel
theorem dX7_init_125 : decode cX7_init 125 = .ok (.bipush 24, 2) := by decide +kernel
theorem dX7_init_127 : decode cX7_init 127 = .ok (.newarray .boolean, 2) := by decide +kernel
theorem dX7_init_129 : decode cX7_init 129 = .ok (.putfield 57, 3) := by decide +kernel
theorem dX7_init_132 : decode cX7_init 132 = .ok (.aload_n 0, 1) := by decide +kernel
theorem dX7_init_133 : decode cX7_init 133 = .ok (.sipush 576, 3) := by decide +kernel
theorem dX7_init_136 : decode cX7_init 136 = .ok (.newarray .int, 2) := by decide +kernel
theorem dX7_init_138 : decode cX7_init 138 = .ok (.putfield 60, 3) := by decide +kernel
theorem dX7_init_141 : decode cX7_init 141 = .ok (.aload_n 0, 1) := by decide +kernel
theorem dX7_init_142 : decode cX7_init 142 = .ok (.sipush 16000, 3) := by decide +kernel
theorem dX7_init_145 : decode cX7_init 145 = .ok (.newarray .int, 2) := by decide +kernel
theorem dX7_init_147 : decode cX7_init 147 = .ok (.putfield 63, 3) := by decide +kernel
theorem dX7_init_150 : decode cX7_init 150 = .ok (.aload_n 0, 1) := by decide +kernel
theorem dX7_init_151 : decode cX7_init 151 = .ok (.sipush 16000, 3) := by decide +kernel
theorem dX7_init_154 : decode cX7_init 154 = .ok (.newarray .int, 2) := by decide +kernel
theorem dX7_init_156 : decode cX7_init 156 = .ok (.putfield 66, 3) := by decide +kernel
theorem dX7_init_159 : decode cX7_init 159 = .ok (.aload_n 0, 1) := by decide +kernel
theorem dX7_init_160 : decode cX7_init 160 = .ok (.bipush 24, 2) := by decide +kernel
theorem dX7_init_162 : decode cX7_init 162 = .ok (.newarray .int, 2) := by decide +kernel
theorem dX7_init_164 : decode cX7_init 164 = .ok (.putfield 69, 3) := by decide +kernel
theorem dX7_init_167 : decode cX7_init 167 = .ok (.aload_n 0, 1) := by decide +kernel
theorem dX7_init_168 : decode cX7_init 168 = .ok (.bipush 24, 2) := by decide +kernel
theorem dX7_init_170 : decode cX7_init 170 = .ok (.newarray .long, 2) := by decide +kernel
theorem dX7_init_172 : decode cX7_init 172 = .ok (.putfield 72, 3) := by decide +kernel
theorem dX7_init_175 : decode cX7_init 175 = .ok (.return_, 1) := by decide +kernel
theorem dX7_thrown_0 : decode cX7_thrown 0 = .ok (.aload_n 0, 1) := by decide +kernel
theorem dX7_thrown_1 : decode cX7_thrown 1 = .ok (.getfield 75, 3) := by decide +kernel
theorem dX7_thrown_4 : decode cX7_thrown 4 = .ok (.ireturn, 1) := by decide +kernel
theorem dX7_refused_0 : decode cX7_refused 0 = .ok (.aload_n 0, 1) := by decide +kernel
theorem dX7_refused_1 : decode cX7_refused 1 = .ok (.iload_n 1, 1) := by decide +kernel
theorem dX7_refused_2 : decode cX7_refused 2 = .ok (.putfield 75, 3) := by decide +kernel
theorem dX7_refused_5 : decode cX7_refused 5 = .ok (.iload_n 1, 1) := by decide +kernel
theorem dX7_refused_6 : decode cX7_refused 6 = .ok (.ifCond .eq 7, 3) := by decide +kernel
theorem dX7_refused_9 : decode cX7_refused 9 = .ok (.iconst 1, 1) := by decide +kernel
theorem dX7_refused_10 : decode cX7_refused 10 = .ok (.goto 4, 3) := by decide +kernel
theorem dX7_refused_13 : decode cX7_refused 13 = .ok (.iconst 0, 1) := by decide +kernel
theorem dX7_refused_14 : decode cX7_refused 14 = .ok (.ireturn, 1) := by decide +kernel
theorem dX7_told_0 : decode cX7_told 0 = .ok (.aload_n 0, 1) := by decide +kernel
theorem dX7_told_1 : decode cX7_told 1 = .ok (.iconst 0, 1) := by decide +kernel
theorem dX7_told_2 : decode cX7_told 2 = .ok (.putfield 75, 3) := by decide +kernel
theorem dX7_told_5 : decode cX7_told 5 = .ok (.iload_n 1, 1) := by decide +kernel
theorem dX7_told_6 : decode cX7_told 6 = .ok (.ireturn, 1) := by decide +kernel
theorem dX7_within_0 : decode cX7_within 0 = .ok (.iload_n 0, 1) := by decide +kernel
theorem dX7_within_1 : decode cX7_within 1 = .ok (.iload_n 1, 1) := by decide +kernel
theorem dX7_within_2 : decode cX7_within 2 = .ok (.if_icmp .lt 12, 3) := by decide +kernel
theorem dX7_within_5 : decode cX7_within 5 = .ok (.iload_n 0, 1) := by decide +kernel
theorem dX7_within_6 : decode cX7_within 6 = .ok (.iload_n 2, 1) := by decide +kernel
theorem dX7_within_7 : decode cX7_within 7 = .ok (.if_icmp .gt 7, 3) := by decide +kernel
theorem dX7_within_10 : decode cX7_within 10 = .ok (.iconst 1, 1) := by decide +kernel
theorem dX7_within_11 : decode cX7_within 11 = .ok (.goto 4, 3) := by decide +kernel
theorem dX7_within_14 : decode cX7_within 14 = .ok (.iconst 0, 1) := by decide +kernel
theorem dX7_within_15 : decode cX7_within 15 = .ok (.ireturn, 1) := by decide +kernel
theorem dX7_isCustomer_0 : decode cX7_isCustomer 0 = .ok (.iload_n 1, 1) := by decide +kernel
theorem dX7_isCustomer_1 : decode cX7_isCustomer 1 = .ok (.iconst 0, 1) := by decide +kernel
theorem dX7_isCustomer_2 : decode cX7_isCustomer 2 = .ok (.aload_n 0, 1) := by decide +kernel
theorem dX7_isCustomer_3 : decode cX7_isCustomer 3 = .ok (.getfield 79, 3) := by decide +kernel
theorem dX7_isCustomer_6 : decode cX7_isCustomer 6 = .ok (.iconst 1, 1) := by decide +kernel
theorem dX7_isCustomer_7 : decode cX7_isCustomer 7 = .ok (.isub, 1) := by decide +kernel
theorem dX7_isCustomer_8 : decode cX7_isCustomer 8 = .ok (.invokestatic 82, 3) := by decide +kernel
theorem dX7_isCustomer_11 : decode cX7_isCustomer 11 = .ok (.ireturn, 1) := by decide +kernel
theorem dX7_isInvoice_0 : decode cX7_isInvoice 0 = .ok (.iload_n 1, 1) := by decide +kernel
theorem dX7_isInvoice_1 : decode cX7_isInvoice 1 = .ok (.iconst 0, 1) := by decide +kernel
theorem dX7_isInvoice_2 : decode cX7_isInvoice 2 = .ok (.aload_n 0, 1) := by decide +kernel
theorem dX7_isInvoice_3 : decode cX7_isInvoice 3 = .ok (.getfield 86, 3) := by decide +kernel
theorem dX7_isInvoice_6 : decode cX7_isInvoice 6 = .ok (.iconst 1, 1) := by decide +kernel
theorem dX7_isInvoice_7 : decode cX7_isInvoice 7 = .ok (.isub, 1) := by decide +kernel
theorem dX7_isInvoice_8 : decode cX7_isInvoice 8 = .ok (.invokestatic 82, 3) := by decide +kernel
theorem dX7_isInvoice_11 : decode cX7_isInvoice 11 = .ok (.ireturn, 1) := by decide +kernel
theorem dX7_isPayment_0 : decode cX7_isPayment 0 = .ok (.iload_n 1, 1) := by decide +kernel
theorem dX7_isPayment_1 : decode cX7_isPayment 1 = .ok (.iconst 0, 1) := by decide +kernel
theorem dX7_isPayment_2 : decode cX7_isPayment 2 = .ok (.aload_n 0, 1) := by decide +kernel
theorem dX7_isPayment_3 : decode cX7_isPayment 3 = .ok (.getfield 89, 3) := by decide +kernel
theorem dX7_isPayment_6 : decode cX7_isPayment 6 = .ok (.iconst 1, 1) := by decide +kernel
theorem dX7_isPayment_7 : decode cX7_isPayment 7 = .ok (.isub, 1) := by decide +kernel
theorem dX7_isPayment_8 : decode cX7_isPayment 8 = .ok (.invokestatic 82, 3) := by decide +kernel
theorem dX7_isPayment_11 : decode cX7_isPayment 11 = .ok (.ireturn, 1) := by decide +kernel
theorem dX7_noCustomer_0 : decode cX7_noCustomer 0 = .ok (.aload_n 0, 1) := by decide +kernel
theorem dX7_noCustomer_1 : decode cX7_noCustomer 1 = .ok (.aload_n 0, 1) := by decide +kernel
theorem dX7_noCustomer_2 : decode cX7_noCustomer 2 = .ok (.iload_n 1, 1) := by decide +kernel
theorem dX7_noCustomer_3 : decode cX7_noCustomer 3 = .ok (.invokevirtual 92, 3) := by decide +kernel
theorem dX7_noCustomer_6 : decode cX7_noCustomer 6 = .ok (.ifCond .eq 7, 3) := by decide +kernel
theorem dX7_noCustomer_9 : decode cX7_noCustomer 9 = .ok (.iconst 0, 1) := by decide +kernel
theorem dX7_noCustomer_10 : decode cX7_noCustomer 10 = .ok (.goto 4, 3) := by decide +kernel
theorem dX7_noCustomer_13 : decode cX7_noCustomer 13 = .ok (.iconst 1, 1) := by decide +kernel
theorem dX7_noCustomer_14 : decode cX7_noCustomer 14 = .ok (.invokevirtual 96, 3) := by decide +kernel
theorem dX7_noCustomer_17 : decode cX7_noCustomer 17 = .ok (.ireturn, 1) := by decide +kernel
theorem dX7_noInvoice_0 : decode cX7_noInvoice 0 = .ok (.aload_n 0, 1) := by decide +kernel
theorem dX7_noInvoice_1 : decode cX7_noInvoice 1 = .ok (.aload_n 0, 1) := by decide +kernel
theorem dX7_noInvoice_2 : decode cX7_noInvoice 2 = .ok (.iload_n 1, 1) := by decide +kernel
theorem dX7_noInvoice_3 : decode cX7_noInvoice 3 = .ok (.invokevirtual 99, 3) := by decide +kernel
theorem dX7_noInvoice_6 : decode cX7_noInvoice 6 = .ok (.ifCond .eq 7, 3) := by decide +kernel
theorem dX7_noInvoice_9 : decode cX7_noInvoice 9 = .ok (.iconst 0, 1) := by decide +kernel
theorem dX7_noInvoice_10 : decode cX7_noInvoice 10 = .ok (.goto 4, 3) := by decide +kernel
theorem dX7_noInvoice_13 : decode cX7_noInvoice 13 = .ok (.iconst 1, 1) := by decide +kernel
theorem dX7_noInvoice_14 : decode cX7_noInvoice 14 = .ok (.invokevirtual 96, 3) := by decide +kernel
theorem dX7_noInvoice_17 : decode cX7_noInvoice 17 = .ok (.ireturn, 1) := by decide +kernel
theorem dX7_clear_0 : decode cX7_clear 0 = .ok (.aload_n 0, 1) := by decide +kernel
theorem dX7_clear_1 : decode cX7_clear 1 = .ok (.getfield 31, 3) := by decide +kernel
theorem dX7_clear_4 : decode cX7_clear 4 = .ok (.iload_n 1, 1) := by decide +kernel
theorem dX7_clear_5 : decode cX7_clear 5 = .ok (.iaload, 1) := by decide +kernel
theorem dX7_clear_6 : decode cX7_clear 6 = .ok (.aload_n 0, 1) := by decide +kernel
theorem dX7_clear_7 : decode cX7_clear 7 = .ok (.getfield 34, 3) := by decide +kernel
theorem dX7_clear_10 : decode cX7_clear 10 = .ok (.iload_n 1, 1) := by decide +kernel
theorem dX7_clear_11 : decode cX7_clear 11 = .ok (.iaload, 1) := by decide +kernel
theorem dX7_clear_12 : decode cX7_clear 12 = .ok (.isub, 1) := by decide +kernel
theorem dX7_clear_13 : decode cX7_clear 13 = .ok (.ireturn, 1) := by decide +kernel
theorem dX7_thirties_0 : decode cX7_thirties 0 = .ok (.sipush 2001, 3) := by decide +kernel
theorem dX7_thirties_3 : decode cX7_thirties 3 = .ok (.istore_n 1, 1) := by decide +kernel
theorem dX7_thirties_4 : decode cX7_thirties 4 = .ok (.iload_n 0, 1) := by decide +kernel
theorem dX7_thirties_5 : decode cX7_thirties 5 = .ok (.istore_n 2, 1) := by decide +kernel
theorem dX7_thirties_6 : decode cX7_thirties 6 = .ok (.iload_n 2, 1) := by decide +kernel
theorem dX7_thirties_7 : decode cX7_thirties 7 = .ok (.sipush 365, 3) := by decide +kernel
theorem dX7_thirties_10 : decode cX7_thirties 10 = .ok (.if_icmp .lt 22, 3) := by decide +kernel
theorem dX7_thirties_13 : decode cX7_thirties 13 = .ok (.iload_n 1, 1) := by decide +kernel
theorem dX7_thirties_14 : decode cX7_thirties 14 = .ok (.sipush 2004, 3) := by decide +kernel
theorem dX7_thirties_17 : decode cX7_thirties 17 = .ok (.if_icmp .ge 15, 3) := by decide +kernel
theorem dX7_thirties_20 : decode cX7_thirties 20 = .ok (.iinc 2 (-365), 6) := by decide +kernel
theorem dX7_thirties_26 : decode cX7_thirties 26 = .ok (.iinc 1 1, 3) := by decide +kernel
theorem dX7_thirties_29 : decode cX7_thirties 29 = .ok (.goto (-23), 3) := by decide +kernel
theorem dX7_thirties_32 : decode cX7_thirties 32 = .ok (.iconst 1, 1) := by decide +kernel
theorem dX7_thirties_33 : decode cX7_thirties 33 = .ok (.istore_n 3, 1) := by decide +kernel
theorem dX7_thirties_34 : decode cX7_thirties 34 = .ok (.iload_n 2, 1) := by decide +kernel
theorem dX7_thirties_35 : decode cX7_thirties 35 = .ok (.iload_n 3, 1) := by decide +kernel
theorem dX7_thirties_36 : decode cX7_thirties 36 = .ok (.iload_n 1, 1) := by decide +kernel
theorem dX7_thirties_37 : decode cX7_thirties 37 = .ok (.invokestatic 102, 3) := by decide +kernel
theorem dX7_thirties_40 : decode cX7_thirties 40 = .ok (.if_icmp .lt 17, 3) := by decide +kernel
theorem dX7_thirties_43 : decode cX7_thirties 43 = .ok (.iload_n 2, 1) := by decide +kernel
theorem dX7_thirties_44 : decode cX7_thirties 44 = .ok (.iload_n 3, 1) := by decide +kernel
theorem dX7_thirties_45 : decode cX7_thirties 45 = .ok (.iload_n 1, 1) := by decide +kernel
theorem dX7_thirties_46 : decode cX7_thirties 46 = .ok (.invokestatic 102, 3) := by decide +kernel
theorem dX7_thirties_49 : decode cX7_thirties 49 = .ok (.isub, 1) := by decide +kernel
theorem dX7_thirties_50 : decode cX7_thirties 50 = .ok (.istore_n 2, 1) := by decide +kernel
theorem dX7_thirties_51 : decode cX7_thirties 51 = .ok (.iinc 3 1, 3) := by decide +kernel
theorem dX7_thirties_54 : decode cX7_thirties 54 = .ok (.goto (-20), 3) := by decide +kernel
theorem dX7_thirties_57 : decode cX7_thirties 57 = .ok (.iload_n 2, 1) := by decide +kernel
theorem dX7_thirties_58 : decode cX7_thirties 58 = .ok (.iconst 1, 1) := by decide +kernel
theorem dX7_thirties_59 : decode cX7_thirties 59 = .ok (.iadd, 1) := by decide +kernel
theorem dX7_thirties_60 : decode cX7_thirties 60 = .ok (.istore 4, 2) := by decide +kernel
theorem dX7_thirties_62 : decode cX7_thirties 62 = .ok (.sipush 360, 3) := by decide +kernel
theorem dX7_thirties_65 : decode cX7_thirties 65 = .ok (.iload_n 1, 1) := by decide +kernel
theorem dX7_thirties_66 : decode cX7_thirties 66 = .ok (.imul, 1) := by decide +kernel
theorem dX7_thirties_67 : decode cX7_thirties 67 = .ok (.bipush 30, 2) := by decide +kernel
theorem dX7_thirties_69 : decode cX7_thirties 69 = .ok (.iload_n 3, 1) := by decide +kernel
theorem dX7_thirties_70 : decode cX7_thirties 70 = .ok (.imul, 1) := by decide +kernel
theorem dX7_thirties_71 : decode cX7_thirties 71 = .ok (.iadd, 1) := by decide +kernel
theorem dX7_thirties_72 : decode cX7_thirties 72 = .ok (.iload 4, 2) := by decide +kernel
theorem dX7_thirties_74 : decode cX7_thirties 74 = .ok (.bipush 31, 2) := by decide +kernel
theorem dX7_thirties_76 : decode cX7_thirties 76 = .ok (.if_icmp .ne 8, 3) := by decide +kernel
theorem dX7_thirties_79 : decode cX7_thirties 79 = .ok (.bipush 30, 2) := by decide +kernel
theorem dX7_thirties_81 : decode cX7_thirties 81 = .ok (.goto 5, 3) := by decide +kernel
theorem dX7_thirties_84 : decode cX7_thirties 84 = .ok (.iload 4, 2) := by decide +kernel
theorem dX7_thirties_86 : decode cX7_thirties 86 = .ok (.iadd, 1) := by decide +kernel
theorem dX7_thirties_87 : decode cX7_thirties 87 = .ok (.ireturn, 1) := by decide +kernel
theorem dX7_length_0 : decode cX7_length 0 = .ok (.iload_n 0, 1) := by decide +kernel
theorem dX7_length_1 : decode cX7_length 1 = .ok (.iconst 2, 1) := by decide +kernel
theorem dX7_length_2 : decode cX7_length 2 = .ok (.if_icmp .ne 18, 3) := by decide +kernel
theorem dX7_length_5 : decode cX7_length 5 = .ok (.iload_n 1, 1) := by decide +kernel
theorem dX7_length_6 : decode cX7_length 6 = .ok (.sipush 2004, 3) := by decide +kernel
theorem dX7_length_9 : decode cX7_length 9 = .ok (.if_icmp .ne 8, 3) := by decide +kernel
theorem dX7_length_12 : decode cX7_length 12 = .ok (.bipush 29, 2) := by decide +kernel
theorem dX7_length_14 : decode cX7_length 14 = .ok (.goto 5, 3) := by decide +kernel
theorem dX7_length_17 : decode cX7_length 17 = .ok (.bipush 28, 2) := by decide +kernel
theorem dX7_length_19 : decode cX7_length 19 = .ok (.ireturn, 1) := by decide +kernel
theorem dX7_length_20 : decode cX7_length 20 = .ok (.iload_n 0, 1) := by decide +kernel
theorem dX7_length_21 : decode cX7_length 21 = .ok (.iconst 4, 1) := by decide +kernel
theorem dX7_length_22 : decode cX7_length 22 = .ok (.if_icmp .eq 21, 3) := by decide +kernel
theorem dX7_length_25 : decode cX7_length 25 = .ok (.iload_n 0, 1) := by decide +kernel
theorem dX7_length_26 : decode cX7_length 26 = .ok (.bipush 6, 2) := by decide +kernel
theorem dX7_length_28 : decode cX7_length 28 = .ok (.if_icmp .eq 15, 3) := by decide +kernel
theorem dX7_length_31 : decode cX7_length 31 = .ok (.iload_n 0, 1) := by decide +kernel
theorem dX7_length_32 : decode cX7_length 32 = .ok (.bipush 9, 2) := by decide +kernel
theorem dX7_length_34 : decode cX7_length 34 = .ok (.if_icmp .eq 9, 3) := by decide +kernel
theorem dX7_length_37 : decode cX7_length 37 = .ok (.iload_n 0, 1) := by decide +kernel
theorem dX7_length_38 : decode cX7_length 38 = .ok (.bipush 11, 2) := by decide +kernel
theorem dX7_length_40 : decode cX7_length 40 = .ok (.if_icmp .ne 8, 3) := by decide +kernel
theorem dX7_length_43 : decode cX7_length 43 = .ok (.bipush 30, 2) := by decide +kernel
theorem dX7_length_45 : decode cX7_length 45 = .ok (.goto 5, 3) := by decide +kernel
theorem dX7_length_48 : decode cX7_length 48 = .ok (.bipush 31, 2) := by decide +kernel
theorem dX7_length_50 : decode cX7_length 50 = .ok (.ireturn, 1) := by decide +kernel
theorem dX7_between_0 : decode cX7_between 0 = .ok (.iload_n 0, 1) := by decide +kernel
theorem dX7_between_1 : decode cX7_between 1 = .ok (.iconst 2, 1) := by decide +kernel
theorem dX7_between_2 : decode cX7_between 2 = .ok (.if_icmp .ne 15, 3) := by decide +kernel
theorem dX7_between_5 : decode cX7_between 5 = .ok (.iload_n 2, 1) := by decide +kernel
theorem dX7_between_6 : decode cX7_between 6 = .ok (.invokestatic 106, 3) := by decide +kernel
theorem dX7_between_9 : decode cX7_between 9 = .ok (.iload_n 1, 1) := by decide +kernel
theorem dX7_between_10 : decode cX7_between 10 = .ok (.invokestatic 106, 3) := by decide +kernel
theorem dX7_between_13 : decode cX7_between 13 = .ok (.isub, 1) := by decide +kernel
theorem dX7_between_14 : decode cX7_between 14 = .ok (.goto 6, 3) := by decide +kernel
theorem dX7_between_17 : decode cX7_between 17 = .ok (.iload_n 2, 1) := by decide +kernel
theorem dX7_between_18 : decode cX7_between 18 = .ok (.iload_n 1, 1) := by decide +kernel
theorem dX7_between_19 : decode cX7_between 19 = .ok (.isub, 1) := by decide +kernel
theorem dX7_between_20 : decode cX7_between 20 = .ok (.ireturn, 1) := by decide +kernel
theorem dX7_unit_0 : decode cX7_unit 0 = .ok (.ldc2_w 110, 3) := by decide +kernel
theorem dX7_unit_3 : decode cX7_unit 3 = .ok (.iload_n 0, 1) := by decide +kernel
theorem dX7_unit_4 : decode cX7_unit 4 = .ok (.ifCond .ne 9, 3) := by decide +kernel
theorem dX7_unit_7 : decode cX7_unit 7 = .ok (.sipush 365, 3) := by decide +kernel
theorem dX7_unit_10 : decode cX7_unit 10 = .ok (.goto 6, 3) := by decide +kernel
theorem dX7_unit_13 : decode cX7_unit 13 = .ok (.sipush 360, 3) := by decide +kernel
theorem dX7_unit_16 : decode cX7_unit 16 = .ok (.i2l, 1) := by decide +kernel
theorem dX7_unit_17 : decode cX7_unit 17 = .ok (.lmul, 1) := by decide +kernel
theorem dX7_unit_18 : decode cX7_unit 18 = .ok (.lreturn, 1) := by decide +kernel
theorem dX7_patience_0 : decode cX7_patience 0 = .ok (.iload_n 0, 1) := by decide +kernel
theorem dX7_patience_1 : decode cX7_patience 1 = .ok (.ifCond .ne 8, 3) := by decide +kernel
theorem dX7_patience_4 : decode cX7_patience 4 = .ok (.bipush 7, 2) := by decide +kernel
theorem dX7_patience_6 : decode cX7_patience 6 = .ok (.goto 15, 3) := by decide +kernel
theorem dX7_patience_9 : decode cX7_patience 9 = .ok (.iload_n 0, 1) := by decide +kernel
theorem dX7_patience_10 : decode cX7_patience 10 = .ok (.iconst 3, 1) := by decide +kernel
theorem dX7_patience_11 : decode cX7_patience 11 = .ok (.if_icmp .ne 8, 3) := by decide +kernel
theorem dX7_patience_14 : decode cX7_patience 14 = .ok (.bipush 21, 2) := by decide +kernel
theorem dX7_patience_16 : decode cX7_patience 16 = .ok (.goto 5, 3) := by decide +kernel
theorem dX7_patience_19 : decode cX7_patience 19 = .ok (.bipush 14, 2) := by decide +kernel
theorem dX7_patience_21 : decode cX7_patience 21 = .ok (.ireturn, 1) := by decide +kernel
theorem dX7_isReminded_0 : decode cX7_isReminded 0 = .ok (.aload_n 0, 1) := by decide +kernel
theorem dX7_isReminded_1 : decode cX7_isReminded 1 = .ok (.getfield 45, 3) := by decide +kernel
theorem dX7_isReminded_4 : decode cX7_isReminded 4 = .ok (.iload_n 1, 1) := by decide +kernel
theorem dX7_isReminded_5 : decode cX7_isReminded 5 = .ok (.iaload, 1) := by decide +kernel
theorem dX7_isReminded_6 : decode cX7_isReminded 6 = .ok (.iconst 4, 1) := by decide +kernel
theorem dX7_isReminded_7 : decode cX7_isReminded 7 = .ok (.if_icmp .ge 25, 3) := by decide +kernel
theorem dX7_isReminded_10 : decode cX7_isReminded 10 = .ok (.aload_n 0, 1) := by decide +kernel
theorem dX7_isReminded_11 : decode cX7_isReminded 11 = .ok (.getfield 31, 3) := by decide +kernel
theorem dX7_isReminded_14 : decode cX7_isReminded 14 = .ok (.iload_n 1, 1) := by decide +kernel
theorem dX7_isReminded_15 : decode cX7_isReminded 15 = .ok (.iaload, 1) := by decide +kernel
theorem dX7_isReminded_16 : decode cX7_isReminded 16 = .ok (.ifCond .le 16, 3) := by decide +kernel
theorem dX7_isReminded_19 : decode cX7_isReminded 19 = .ok (.aload_n 0, 1) := by decide +kernel
theorem dX7_isReminded_20 : decode cX7_isReminded 20 = .ok (.getfield 34, 3) := by decide +kernel
theorem dX7_isReminded_23 : decode cX7_isReminded 23 = .ok (.iload_n 1, 1) := by decide +kernel
theorem dX7_isReminded_24 : decode cX7_isReminded 24 = .ok (.iaload, 1) := by decide +kernel
theorem dX7_isReminded_25 : decode cX7_isReminded 25 = .ok (.ifCond .ne 7, 3) := by decide +kernel
theorem dX7_isReminded_28 : decode cX7_isReminded 28 = .ok (.iconst 1, 1) := by decide +kernel
theorem dX7_isReminded_29 : decode cX7_isReminded 29 = .ok (.goto 4, 3) := by decide +kernel
theorem dX7_isReminded_32 : decode cX7_isReminded 32 = .ok (.iconst 0, 1) := by decide +kernel
theorem dX7_isReminded_33 : decode cX7_isReminded 33 = .ok (.ireturn, 1) := by decide +kernel
theorem dX7_passDay_0 : decode cX7_passDay 0 = .ok (.iconst 0, 1) := by decide +kernel
theorem dX7_passDay_1 : decode cX7_passDay 1 = .ok (.istore_n 1, 1) := by decide +kernel
theorem dX7_passDay_2 : decode cX7_passDay 2 = .ok (.iload_n 1, 1) := by decide +kernel
theorem dX7_passDay_3 : decode cX7_passDay 3 = .ok (.aload_n 0, 1) := by decide +kernel
theorem dX7_passDay_4 : decode cX7_passDay 4 = .ok (.getfield 86, 3) := by decide +kernel
theorem dX7_passDay_7 : decode cX7_passDay 7 = .ok (.if_icmp .ge 162, 3) := by decide +kernel
theorem dX7_passDay_10 : decode cX7_passDay 10 = .ok (.aload_n 0, 1) := by decide +kernel
theorem dX7_passDay_11 : decode cX7_passDay 11 = .ok (.getfield 22, 3) := by decide +kernel
theorem dX7_passDay_14 : decode cX7_passDay 14 = .ok (.iload_n 1, 1) := by decide +kernel
theorem dX7_passDay_15 : decode cX7_passDay 15 = .ok (.iaload, 1) := by decide +kernel
theorem dX7_passDay_16 : decode cX7_passDay 16 = .ok (.istore_n 2, 1) := by decide +kernel
theorem dX7_passDay_17 : decode cX7_passDay 17 = .ok (.aload_n 0, 1) := by decide +kernel
theorem dX7_passDay_18 : decode cX7_passDay 18 = .ok (.getfield 28, 3) := by decide +kernel
theorem dX7_passDay_21 : decode cX7_passDay 21 = .ok (.iload_n 1, 1) := by decide +kernel
theorem dX7_passDay_22 : decode cX7_passDay 22 = .ok (.iaload, 1) := by decide +kernel
theorem dX7_passDay_23 : decode cX7_passDay 23 = .ok (.aload_n 0, 1) := by decide +kernel
theorem dX7_passDay_24 : decode cX7_passDay 24 = .ok (.getfield 112, 3) := by decide +kernel
theorem dX7_passDay_27 : decode cX7_passDay 27 = .ok (.if_icmp .gt 7, 3) := by decide +kernel
theorem dX7_passDay_30 : decode cX7_passDay 30 = .ok (.iconst 1, 1) := by decide +kernel
theorem dX7_passDay_31 : decode cX7_passDay 31 = .ok (.goto 4, 3) := by decide +kernel
theorem dX7_passDay_34 : decode cX7_passDay 34 = .ok (.iconst 0, 1) := by decide +kernel
theorem dX7_passDay_35 : decode cX7_passDay 35 = .ok (.istore_n 3, 1) := by decide +kernel
theorem dX7_passDay_36 : decode cX7_passDay 36 = .ok (.iload_n 3, 1) := by decide +kernel
theorem dX7_passDay_37 : decode cX7_passDay 37 = .ok (.ifCond .eq 56, 3) := by decide +kernel
theorem dX7_passDay_40 : decode cX7_passDay 40 = .ok (.aload_n 0, 1) := by decide +kernel
theorem dX7_passDay_41 : decode cX7_passDay 41 = .ok (.getfield 41, 3) := by decide +kernel
theorem dX7_passDay_44 : decode cX7_passDay 44 = .ok (.iload_n 1, 1) := by decide +kernel
theorem dX7_passDay_45 : decode cX7_passDay 45 = .ok (.baload, 1) := by decide +kernel
theorem dX7_passDay_46 : decode cX7_passDay 46 = .ok (.ifCond .ne 47, 3) := by decide +kernel
theorem dX7_passDay_49 : decode cX7_passDay 49 = .ok (.aload_n 0, 1) := by decide +kernel
theorem dX7_passDay_50 : decode cX7_passDay 50 = .ok (.getfield 37, 3) := by decide +kernel
theorem dX7_passDay_53 : decode cX7_passDay 53 = .ok (.iload_n 1, 1) := by decide +kernel
theorem dX7_passDay_54 : decode cX7_passDay 54 = .ok (.dup2, 1) := by decide +kernel
theorem dX7_passDay_55 : decode cX7_passDay 55 = .ok (.laload, 1) := by decide +kernel
theorem dX7_passDay_56 : decode cX7_passDay 56 = .ok (.aload_n 0, 1) := by decide +kernel
theorem dX7_passDay_57 : decode cX7_passDay 57 = .ok (.iload_n 1, 1) := by decide +kernel
theorem dX7_passDay_58 : decode cX7_passDay 58 = .ok (.invokevirtual 115, 3) := by decide +kernel
theorem dX7_passDay_61 : decode cX7_passDay 61 = .ok (.i2l, 1) := by decide +kernel
theorem dX7_passDay_62 : decode cX7_passDay 62 = .ok (.aload_n 0, 1) := by decide +kernel
theorem dX7_passDay_63 : decode cX7_passDay 63 = .ok (.getfield 16, 3) := by decide +kernel
theorem dX7_passDay_66 : decode cX7_passDay 66 = .ok (.iload_n 2, 1) := by decide +kernel
theorem dX7_passDay_67 : decode cX7_passDay 67 = .ok (.iaload, 1) := by decide +kernel
theorem dX7_passDay_68 : decode cX7_passDay 68 = .ok (.i2l, 1) := by decide +kernel
theorem dX7_passDay_69 : decode cX7_passDay 69 = .ok (.lmul, 1) := by decide +kernel
theorem dX7_passDay_70 : decode cX7_passDay 70 = .ok (.aload_n 0, 1) := by decide +kernel
theorem dX7_passDay_71 : decode cX7_passDay 71 = .ok (.getfield 13, 3) := by decide +kernel
theorem dX7_passDay_74 : decode cX7_passDay 74 = .ok (.iload_n 2, 1) := by decide +kernel
theorem dX7_passDay_75 : decode cX7_passDay 75 = .ok (.iaload, 1) := by decide +kernel
theorem dX7_passDay_76 : decode cX7_passDay 76 = .ok (.aload_n 0, 1) := by decide +kernel
theorem dX7_passDay_77 : decode cX7_passDay 77 = .ok (.getfield 112, 3) := by decide +kernel
theorem dX7_passDay_80 : decode cX7_passDay 80 = .ok (.aload_n 0, 1) := by decide +kernel
theorem dX7_passDay_81 : decode cX7_passDay 81 = .ok (.getfield 112, 3) := by decide +kernel
theorem dX7_passDay_84 : decode cX7_passDay 84 = .ok (.iconst 1, 1) := by decide +kernel
theorem dX7_passDay_85 : decode cX7_passDay 85 = .ok (.iadd, 1) := by decide +kernel
theorem dX7_passDay_86 : decode cX7_passDay 86 = .ok (.invokestatic 118, 3) := by decide +kernel
theorem dX7_passDay_89 : decode cX7_passDay 89 = .ok (.i2l, 1) := by decide +kernel
theorem dX7_passDay_90 : decode cX7_passDay 90 = .ok (.lmul, 1) := by decide +kernel
theorem dX7_passDay_91 : decode cX7_passDay 91 = .ok (.ladd, 1) := by decide +kernel
theorem dX7_passDay_92 : decode cX7_passDay 92 = .ok (.lastore, 1) := by decide +kernel
theorem dX7_passDay_93 : decode cX7_passDay 93 = .ok (.iload_n 3, 1) := by decide +kernel
theorem dX7_passDay_94 : decode cX7_passDay 94 = .ok (.ifCond .eq 69, 3) := by decide +kernel
theorem dX7_passDay_97 : decode cX7_passDay 97 = .ok (.aload_n 0, 1) := by decide +kernel
theorem dX7_passDay_98 : decode cX7_passDay 98 = .ok (.iload_n 1, 1) := by decide +kernel
theorem dX7_passDay_99 : decode cX7_passDay 99 = .ok (.invokevirtual 122, 3) := by decide +kernel
theorem dX7_passDay_102 : decode cX7_passDay 102 = .ok (.ifCond .eq 61, 3) := by decide +kernel
theorem dX7_passDay_105 : decode cX7_passDay 105 = .ok (.aload_n 0, 1) := by decide +kernel
theorem dX7_passDay_106 : decode cX7_passDay 106 = .ok (.getfield 112, 3) := by decide +kernel
theorem dX7_passDay_109 : decode cX7_passDay 109 = .ok (.aload_n 0, 1) := by decide +kernel
theorem dX7_passDay_110 : decode cX7_passDay 110 = .ok (.getfield 19, 3) := by decide +kernel
theorem dX7_passDay_113 : decode cX7_passDay 113 = .ok (.iload_n 2, 1) := by decide +kernel
theorem dX7_passDay_114 : decode cX7_passDay 114 = .ok (.iaload, 1) := by decide +kernel
theorem dX7_passDay_115 : decode cX7_passDay 115 = .ok (.if_icmp .lt 48, 3) := by decide +kernel
theorem dX7_passDay_118 : decode cX7_passDay 118 = .ok (.aload_n 0, 1) := by decide +kernel
theorem dX7_passDay_119 : decode cX7_passDay 119 = .ok (.getfield 48, 3) := by decide +kernel
theorem dX7_passDay_122 : decode cX7_passDay 122 = .ok (.iload_n 1, 1) := by decide +kernel
theorem dX7_passDay_123 : decode cX7_passDay 123 = .ok (.dup2, 1) := by decide +kernel
theorem dX7_passDay_124 : decode cX7_passDay 124 = .ok (.iaload, 1) := by decide +kernel
theorem dX7_passDay_125 : decode cX7_passDay 125 = .ok (.iconst 1, 1) := by decide +kernel
theorem dX7_passDay_126 : decode cX7_passDay 126 = .ok (.iadd, 1) := by decide +kernel
theorem dX7_passDay_127 : decode cX7_passDay 127 = .ok (.iastore, 1) := by decide +kernel
theorem dX7_passDay_128 : decode cX7_passDay 128 = .ok (.aload_n 0, 1) := by decide +kernel
theorem dX7_passDay_129 : decode cX7_passDay 129 = .ok (.getfield 48, 3) := by decide +kernel
theorem dX7_passDay_132 : decode cX7_passDay 132 = .ok (.iload_n 1, 1) := by decide +kernel
theorem dX7_passDay_133 : decode cX7_passDay 133 = .ok (.iaload, 1) := by decide +kernel
theorem dX7_passDay_134 : decode cX7_passDay 134 = .ok (.aload_n 0, 1) := by decide +kernel
theorem dX7_passDay_135 : decode cX7_passDay 135 = .ok (.getfield 45, 3) := by decide +kernel
theorem dX7_passDay_138 : decode cX7_passDay 138 = .ok (.iload_n 1, 1) := by decide +kernel
theorem dX7_passDay_139 : decode cX7_passDay 139 = .ok (.iaload, 1) := by decide +kernel
theorem dX7_passDay_140 : decode cX7_passDay 140 = .ok (.invokestatic 125, 3) := by decide +kernel
theorem dX7_passDay_143 : decode cX7_passDay 143 = .ok (.if_icmp .ne 20, 3) := by decide +kernel
theorem dX7_passDay_146 : decode cX7_passDay 146 = .ok (.aload_n 0, 1) := by decide +kernel
theorem dX7_passDay_147 : decode cX7_passDay 147 = .ok (.getfield 45, 3) := by decide +kernel
theorem dX7_passDay_150 : decode cX7_passDay 150 = .ok (.iload_n 1, 1) := by decide +kernel
theorem dX7_passDay_151 : decode cX7_passDay 151 = .ok (.dup2, 1) := by decide +kernel
theorem dX7_passDay_152 : decode cX7_passDay 152 = .ok (.iaload, 1) := by decide +kernel
theorem dX7_passDay_153 : decode cX7_passDay 153 = .ok (.iconst 1, 1) := by decide +kernel
theorem dX7_passDay_154 : decode cX7_passDay 154 = .ok (.iadd, 1) := by decide +kernel
theorem dX7_passDay_155 : decode cX7_passDay 155 = .ok (.iastore, 1) := by decide +kernel
theorem dX7_passDay_156 : decode cX7_passDay 156 = .ok (.aload_n 0, 1) := by decide +kernel
theorem dX7_passDay_157 : decode cX7_passDay 157 = .ok (.getfield 48, 3) := by decide +kernel
theorem dX7_passDay_160 : decode cX7_passDay 160 = .ok (.iload_n 1, 1) := by decide +kernel
theorem dX7_passDay_161 : decode cX7_passDay 161 = .ok (.iconst 0, 1) := by decide +kernel
theorem dX7_passDay_162 : decode cX7_passDay 162 = .ok (.iastore, 1) := by decide +kernel
theorem dX7_passDay_163 : decode cX7_passDay 163 = .ok (.iinc 1 1, 3) := by decide +kernel
theorem dX7_passDay_166 : decode cX7_passDay 166 = .ok (.goto (-164), 3) := by decide +kernel
theorem dX7_passDay_169 : decode cX7_passDay 169 = .ok (.aload_n 0, 1) := by decide +kernel
theorem dX7_passDay_170 : decode cX7_passDay 170 = .ok (.dup, 1) := by decide +kernel
theorem dX7_passDay_171 : decode cX7_passDay 171 = .ok (.getfield 112, 3) := by decide +kernel
theorem dX7_passDay_174 : decode cX7_passDay 174 = .ok (.iconst 1, 1) := by decide +kernel
theorem dX7_passDay_175 : decode cX7_passDay 175 = .ok (.iadd, 1) := by decide +kernel
theorem dX7_passDay_176 : decode cX7_passDay 176 = .ok (.putfield 112, 3) := by decide +kernel
theorem dX7_passDay_179 : decode cX7_passDay 179 = .ok (.return_, 1) := by decide +kernel
theorem dX7_addCustomer_0 : decode cX7_addCustomer 0 = .ok (.iload_n 1, 1) := by decide +kernel
theorem dX7_addCustomer_1 : decode cX7_addCustomer 1 = .ok (.iconst 0, 1) := by decide +kernel
theorem dX7_addCustomer_2 : decode cX7_addCustomer 2 = .ok (.iconst 2, 1) := by decide +kernel
theorem dX7_addCustomer_3 : decode cX7_addCustomer 3 = .ok (.invokestatic 82, 3) := by decide +kernel
theorem dX7_addCustomer_6 : decode cX7_addCustomer 6 = .ok (.ifCond .eq 27, 3) := by decide +kernel
theorem dX7_addCustomer_9 : decode cX7_addCustomer 9 = .ok (.iload_n 2, 1) := by decide +kernel
theorem dX7_addCustomer_10 : decode cX7_addCustomer 10 = .ok (.iconst 0, 1) := by decide +kernel
theorem dX7_addCustomer_11 : decode cX7_addCustomer 11 = .ok (.iconst 2, 1) := by decide +kernel
theorem dX7_addCustomer_12 : decode cX7_addCustomer 12 = .ok (.invokestatic 82, 3) := by decide +kernel
theorem dX7_addCustomer_15 : decode cX7_addCustomer 15 = .ok (.ifCond .eq 18, 3) := by decide +kernel
theorem dX7_addCustomer_18 : decode cX7_addCustomer 18 = .ok (.iload_n 3, 1) := by decide +kernel
theorem dX7_addCustomer_19 : decode cX7_addCustomer 19 = .ok (.iconst 0, 1) := by decide +kernel
theorem dX7_addCustomer_20 : decode cX7_addCustomer 20 = .ok (.sipush 3000, 3) := by decide +kernel
theorem dX7_addCustomer_23 : decode cX7_addCustomer 23 = .ok (.invokestatic 82, 3) := by decide +kernel
theorem dX7_addCustomer_26 : decode cX7_addCustomer 26 = .ok (.ifCond .eq 7, 3) := by decide +kernel
theorem dX7_addCustomer_29 : decode cX7_addCustomer 29 = .ok (.iconst 1, 1) := by decide +kernel
theorem dX7_addCustomer_30 : decode cX7_addCustomer 30 = .ok (.goto 4, 3) := by decide +kernel
theorem dX7_addCustomer_33 : decode cX7_addCustomer 33 = .ok (.iconst 0, 1) := by decide +kernel
theorem dX7_addCustomer_34 : decode cX7_addCustomer 34 = .ok (.istore 4, 2) := by decide +kernel
theorem dX7_addCustomer_36 : decode cX7_addCustomer 36 = .ok (.aload_n 0, 1) := by decide +kernel
theorem dX7_addCustomer_37 : decode cX7_addCustomer 37 = .ok (.iload 4, 2) := by decide +kernel
theorem dX7_addCustomer_39 : decode cX7_addCustomer 39 = .ok (.ifCond .ne 7, 3) := by decide +kernel
theorem dX7_addCustomer_42 : decode cX7_addCustomer 42 = .ok (.iconst 1, 1) := by decide +kernel
theorem dX7_addCustomer_43 : decode cX7_addCustomer 43 = .ok (.goto 17, 3) := by decide +kernel
theorem dX7_addCustomer_46 : decode cX7_addCustomer 46 = .ok (.aload_n 0, 1) := by decide +kernel
theorem dX7_addCustomer_47 : decode cX7_addCustomer 47 = .ok (.getfield 79, 3) := by decide +kernel
theorem dX7_addCustomer_50 : decode cX7_addCustomer 50 = .ok (.bipush 6, 2) := by decide +kernel
theorem dX7_addCustomer_52 : decode cX7_addCustomer 52 = .ok (.if_icmp .ne 7, 3) := by decide +kernel
theorem dX7_addCustomer_55 : decode cX7_addCustomer 55 = .ok (.iconst 2, 1) := by decide +kernel
theorem dX7_addCustomer_56 : decode cX7_addCustomer 56 = .ok (.goto 4, 3) := by decide +kernel
theorem dX7_addCustomer_59 : decode cX7_addCustomer 59 = .ok (.iconst 0, 1) := by decide +kernel
theorem dX7_addCustomer_60 : decode cX7_addCustomer 60 = .ok (.invokevirtual 96, 3) := by decide +kernel
theorem dX7_addCustomer_63 : decode cX7_addCustomer 63 = .ok (.ifCond .eq 5, 3) := by decide +kernel
theorem dX7_addCustomer_66 : decode cX7_addCustomer 66 = .ok (.iconst 0, 1) := by decide +kernel
theorem dX7_addCustomer_67 : decode cX7_addCustomer 67 = .ok (.ireturn, 1) := by decide +kernel
theorem dX7_addCustomer_68 : decode cX7_addCustomer 68 = .ok (.aload_n 0, 1) := by decide +kernel
theorem dX7_addCustomer_69 : decode cX7_addCustomer 69 = .ok (.getfield 7, 3) := by decide +kernel
theorem dX7_addCustomer_72 : decode cX7_addCustomer 72 = .ok (.aload_n 0, 1) := by decide +kernel
theorem dX7_addCustomer_73 : decode cX7_addCustomer 73 = .ok (.getfield 79, 3) := by decide +kernel
theorem dX7_addCustomer_76 : decode cX7_addCustomer 76 = .ok (.iload_n 1, 1) := by decide +kernel
theorem dX7_addCustomer_77 : decode cX7_addCustomer 77 = .ok (.iastore, 1) := by decide +kernel
theorem dX7_addCustomer_78 : decode cX7_addCustomer 78 = .ok (.aload_n 0, 1) := by decide +kernel
theorem dX7_addCustomer_79 : decode cX7_addCustomer 79 = .ok (.getfield 13, 3) := by decide +kernel
theorem dX7_addCustomer_82 : decode cX7_addCustomer 82 = .ok (.aload_n 0, 1) := by decide +kernel
theorem dX7_addCustomer_83 : decode cX7_addCustomer 83 = .ok (.getfield 79, 3) := by decide +kernel
theorem dX7_addCustomer_86 : decode cX7_addCustomer 86 = .ok (.iload_n 2, 1) := by decide +kernel
theorem dX7_addCustomer_87 : decode cX7_addCustomer 87 = .ok (.iastore, 1) := by decide +kernel
theorem dX7_addCustomer_88 : decode cX7_addCustomer 88 = .ok (.aload_n 0, 1) := by decide +kernel
theorem dX7_addCustomer_89 : decode cX7_addCustomer 89 = .ok (.getfield 16, 3) := by decide +kernel
theorem dX7_addCustomer_92 : decode cX7_addCustomer 92 = .ok (.aload_n 0, 1) := by decide +kernel
theorem dX7_addCustomer_93 : decode cX7_addCustomer 93 = .ok (.getfield 79, 3) := by decide +kernel
theorem dX7_addCustomer_96 : decode cX7_addCustomer 96 = .ok (.iload_n 3, 1) := by decide +kernel
theorem dX7_addCustomer_97 : decode cX7_addCustomer 97 = .ok (.iastore, 1) := by decide +kernel
theorem dX7_addCustomer_98 : decode cX7_addCustomer 98 = .ok (.aload_n 0, 1) := by decide +kernel
theorem dX7_addCustomer_99 : decode cX7_addCustomer 99 = .ok (.dup, 1) := by decide +kernel
theorem dX7_addCustomer_100 : decode cX7_addCustomer 100 = .ok (.getfield 79, 3) := by decide +kernel
theorem dX7_addCustomer_103 : decode cX7_addCustomer 103 = .ok (.iconst 1, 1) := by decide +kernel
theorem dX7_addCustomer_104 : decode cX7_addCustomer 104 = .ok (.iadd, 1) := by decide +kernel
theorem dX7_addCustomer_105 : decode cX7_addCustomer 105 = .ok (.putfield 79, 3) := by decide +kernel
theorem dX7_addCustomer_108 : decode cX7_addCustomer 108 = .ok (.aload_n 0, 1) := by decide +kernel
theorem dX7_addCustomer_109 : decode cX7_addCustomer 109 = .ok (.getfield 79, 3) := by decide +kernel
theorem dX7_addCustomer_112 : decode cX7_addCustomer 112 = .ok (.iconst 1, 1) := by decide +kernel
theorem dX7_addCustomer_113 : decode cX7_addCustomer 113 = .ok (.isub, 1) := by decide +kernel
theorem dX7_addCustomer_114 : decode cX7_addCustomer 114 = .ok (.ireturn, 1) := by decide +kernel
theorem dX7_setRule_0 : decode cX7_setRule 0 = .ok (.aload_n 0, 1) := by decide +kernel
theorem dX7_setRule_1 : decode cX7_setRule 1 = .ok (.aload_n 0, 1) := by decide +kernel
theorem dX7_setRule_2 : decode cX7_setRule 2 = .ok (.iload_n 1, 1) := by decide +kernel
theorem dX7_setRule_3 : decode cX7_setRule 3 = .ok (.invokevirtual 92, 3) := by decide +kernel
theorem dX7_setRule_6 : decode cX7_setRule 6 = .ok (.ifCond .ne 7, 3) := by decide +kernel
theorem dX7_setRule_9 : decode cX7_setRule 9 = .ok (.iconst 1, 1) := by decide +kernel
theorem dX7_setRule_10 : decode cX7_setRule 10 = .ok (.goto 17, 3) := by decide +kernel
theorem dX7_setRule_13 : decode cX7_setRule 13 = .ok (.iload_n 2, 1) := by decide +kernel
theorem dX7_setRule_14 : decode cX7_setRule 14 = .ok (.iconst 0, 1) := by decide +kernel
theorem dX7_setRule_15 : decode cX7_setRule 15 = .ok (.iconst 2, 1) := by decide +kernel
theorem dX7_setRule_16 : decode cX7_setRule 16 = .ok (.invokestatic 82, 3) := by decide +kernel
theorem dX7_setRule_19 : decode cX7_setRule 19 = .ok (.ifCond .ne 7, 3) := by decide +kernel
theorem dX7_setRule_22 : decode cX7_setRule 22 = .ok (.iconst 2, 1) := by decide +kernel
theorem dX7_setRule_23 : decode cX7_setRule 23 = .ok (.goto 4, 3) := by decide +kernel
theorem dX7_setRule_26 : decode cX7_setRule 26 = .ok (.iconst 0, 1) := by decide +kernel
theorem dX7_setRule_27 : decode cX7_setRule 27 = .ok (.invokevirtual 96, 3) := by decide +kernel
theorem dX7_setRule_30 : decode cX7_setRule 30 = .ok (.ifCond .eq 5, 3) := by decide +kernel
theorem dX7_setRule_33 : decode cX7_setRule 33 = .ok (.iconst 0, 1) := by decide +kernel
theorem dX7_setRule_34 : decode cX7_setRule 34 = .ok (.ireturn, 1) := by decide +kernel
theorem dX7_setRule_35 : decode cX7_setRule 35 = .ok (.aload_n 0, 1) := by decide +kernel
theorem dX7_setRule_36 : decode cX7_setRule 36 = .ok (.getfield 7, 3) := by decide +kernel
theorem dX7_setRule_39 : decode cX7_setRule 39 = .ok (.iload_n 1, 1) := by decide +kernel
theorem dX7_setRule_40 : decode cX7_setRule 40 = .ok (.iaload, 1) := by decide +kernel
theorem dX7_setRule_41 : decode cX7_setRule 41 = .ok (.istore_n 3, 1) := by decide +kernel
theorem dX7_setRule_42 : decode cX7_setRule 42 = .ok (.aload_n 0, 1) := by decide +kernel
theorem dX7_setRule_43 : decode cX7_setRule 43 = .ok (.getfield 7, 3) := by decide +kernel
theorem dX7_setRule_46 : decode cX7_setRule 46 = .ok (.iload_n 1, 1) := by decide +kernel
theorem dX7_setRule_47 : decode cX7_setRule 47 = .ok (.iload_n 2, 1) := by decide +kernel
theorem dX7_setRule_48 : decode cX7_setRule 48 = .ok (.iastore, 1) := by decide +kernel
theorem dX7_setRule_49 : decode cX7_setRule 49 = .ok (.iload_n 3, 1) := by decide +kernel
theorem dX7_setRule_50 : decode cX7_setRule 50 = .ok (.ireturn, 1) := by decide +kernel
theorem dX7_setRate_0 : decode cX7_setRate 0 = .ok (.aload_n 0, 1) := by decide +kernel
theorem dX7_setRate_1 : decode cX7_setRate 1 = .ok (.aload_n 0, 1) := by decide +kernel
theorem dX7_setRate_2 : decode cX7_setRate 2 = .ok (.iload_n 1, 1) := by decide +kernel
theorem dX7_setRate_3 : decode cX7_setRate 3 = .ok (.invokevirtual 92, 3) := by decide +kernel
theorem dX7_setRate_6 : decode cX7_setRate 6 = .ok (.ifCond .ne 7, 3) := by decide +kernel
theorem dX7_setRate_9 : decode cX7_setRate 9 = .ok (.iconst 1, 1) := by decide +kernel
theorem dX7_setRate_10 : decode cX7_setRate 10 = .ok (.goto 19, 3) := by decide +kernel
theorem dX7_setRate_13 : decode cX7_setRate 13 = .ok (.iload_n 2, 1) := by decide +kernel
theorem dX7_setRate_14 : decode cX7_setRate 14 = .ok (.iconst 0, 1) := by decide +kernel
theorem dX7_setRate_15 : decode cX7_setRate 15 = .ok (.sipush 3000, 3) := by decide +kernel
theorem dX7_setRate_18 : decode cX7_setRate 18 = .ok (.invokestatic 82, 3) := by decide +kernel
theorem dX7_setRate_21 : decode cX7_setRate 21 = .ok (.ifCond .ne 7, 3) := by decide +kernel
theorem dX7_setRate_24 : decode cX7_setRate 24 = .ok (.iconst 2, 1) := by decide +kernel
theorem dX7_setRate_25 : decode cX7_setRate 25 = .ok (.goto 4, 3) := by decide +kernel
theorem dX7_setRate_28 : decode cX7_setRate 28 = .ok (.iconst 0, 1) := by decide +kernel
theorem dX7_setRate_29 : decode cX7_setRate 29 = .ok (.invokevirtual 96, 3) := by decide +kernel
theorem dX7_setRate_32 : decode cX7_setRate 32 = .ok (.ifCond .eq 5, 3) := by decide +kernel
theorem dX7_setRate_35 : decode cX7_setRate 35 = .ok (.iconst 0, 1) := by decide +kernel
theorem dX7_setRate_36 : decode cX7_setRate 36 = .ok (.ireturn, 1) := by decide +kernel
theorem dX7_setRate_37 : decode cX7_setRate 37 = .ok (.aload_n 0, 1) := by decide +kernel
theorem dX7_setRate_38 : decode cX7_setRate 38 = .ok (.getfield 16, 3) := by decide +kernel
theorem dX7_setRate_41 : decode cX7_setRate 41 = .ok (.iload_n 1, 1) := by decide +kernel
theorem dX7_setRate_42 : decode cX7_setRate 42 = .ok (.iaload, 1) := by decide +kernel
theorem dX7_setRate_43 : decode cX7_setRate 43 = .ok (.istore_n 3, 1) := by decide +kernel
theorem dX7_setRate_44 : decode cX7_setRate 44 = .ok (.aload_n 0, 1) := by decide +kernel
theorem dX7_setRate_45 : decode cX7_setRate 45 = .ok (.getfield 16, 3) := by decide +kernel
theorem dX7_setRate_48 : decode cX7_setRate 48 = .ok (.iload_n 1, 1) := by decide +kernel
theorem dX7_setRate_49 : decode cX7_setRate 49 = .ok (.iload_n 2, 1) := by decide +kernel
theorem dX7_setRate_50 : decode cX7_setRate 50 = .ok (.iastore, 1) := by decide +kernel
theorem dX7_setRate_51 : decode cX7_setRate 51 = .ok (.iload_n 3, 1) := by decide +kernel
theorem dX7_setRate_52 : decode cX7_setRate 52 = .ok (.ireturn, 1) := by decide +kernel
theorem dX7_pauseReminders_0 : decode cX7_pauseReminders 0 = .ok (.aload_n 0, 1) := by decide +kernel
theorem dX7_pauseReminders_1 : decode cX7_pauseReminders 1 = .ok (.aload_n 0, 1) := by decide +kernel
theorem dX7_pauseReminders_2 : decode cX7_pauseReminders 2 = .ok (.iload_n 1, 1) := by decide +kernel
theorem dX7_pauseReminders_3 : decode cX7_pauseReminders 3 = .ok (.invokevirtual 92, 3) := by decide +kernel
theorem dX7_pauseReminders_6 : decode cX7_pauseReminders 6 = .ok (.ifCond .ne 7, 3) := by decide +kernel
theorem dX7_pauseReminders_9 : decode cX7_pauseReminders 9 = .ok (.iconst 1, 1) := by decide +kernel
theorem dX7_pauseReminders_10 : decode cX7_pauseReminders 10 = .ok (.goto 19, 3) := by decide +kernel
theorem dX7_pauseReminders_13 : decode cX7_pauseReminders 13 = .ok (.iload_n 2, 1) := by decide +kernel
theorem dX7_pauseReminders_14 : decode cX7_pauseReminders 14 = .ok (.iconst 0, 1) := by decide +kernel
theorem dX7_pauseReminders_15 : decode cX7_pauseReminders 15 = .ok (.sipush 200, 3) := by decide +kernel
theorem dX7_pauseReminders_18 : decode cX7_pauseReminders 18 = .ok (.invokestatic 82, 3) := by decide +kernel
theorem dX7_pauseReminders_21 : decode cX7_pauseReminders 21 = .ok (.ifCond .ne 7, 3) := by decide +kernel
theorem dX7_pauseReminders_24 : decode cX7_pauseReminders 24 = .ok (.iconst 2, 1) := by decide +kernel
theorem dX7_pauseReminders_25 : decode cX7_pauseReminders 25 = .ok (.goto 4, 3) := by decide +kernel
theorem dX7_pauseReminders_28 : decode cX7_pauseReminders 28 = .ok (.iconst 0, 1) := by decide +kernel
theorem dX7_pauseReminders_29 : decode cX7_pauseReminders 29 = .ok (.invokevirtual 96, 3) := by decide +kernel
theorem dX7_pauseReminders_32 : decode cX7_pauseReminders 32 = .ok (.ifCond .eq 5, 3) := by decide +kernel
theorem dX7_pauseReminders_35 : decode cX7_pauseReminders 35 = .ok (.iconst 0, 1) := by decide +kernel
theorem dX7_pauseReminders_36 : decode cX7_pauseReminders 36 = .ok (.ireturn, 1) := by decide +kernel
theorem dX7_pauseReminders_37 : decode cX7_pauseReminders 37 = .ok (.aload_n 0, 1) := by decide +kernel
theorem dX7_pauseReminders_38 : decode cX7_pauseReminders 38 = .ok (.getfield 19, 3) := by decide +kernel
theorem dX7_pauseReminders_41 : decode cX7_pauseReminders 41 = .ok (.iload_n 1, 1) := by decide +kernel
theorem dX7_pauseReminders_42 : decode cX7_pauseReminders 42 = .ok (.aload_n 0, 1) := by decide +kernel
theorem dX7_pauseReminders_43 : decode cX7_pauseReminders 43 = .ok (.getfield 112, 3) := by decide +kernel
theorem dX7_pauseReminders_46 : decode cX7_pauseReminders 46 = .ok (.iload_n 2, 1) := by decide +kernel
theorem dX7_pauseReminders_47 : decode cX7_pauseReminders 47 = .ok (.iadd, 1) := by decide +kernel
theorem dX7_pauseReminders_48 : decode cX7_pauseReminders 48 = .ok (.iastore, 1) := by decide +kernel
theorem dX7_pauseReminders_49 : decode cX7_pauseReminders 49 = .ok (.aload_n 0, 1) := by decide +kernel
theorem dX7_pauseReminders_50 : decode cX7_pauseReminders 50 = .ok (.getfield 112, 3) := by decide +kernel
theorem dX7_pauseReminders_53 : decode cX7_pauseReminders 53 = .ok (.iload_n 2, 1) := by decide +kernel
theorem dX7_pauseReminders_54 : decode cX7_pauseReminders 54 = .ok (.iadd, 1) := by decide +kernel
theorem dX7_pauseReminders_55 : decode cX7_pauseReminders 55 = .ok (.ireturn, 1) := by decide +kernel
theorem dX7_today_0 : decode cX7_today 0 = .ok (.aload_n 0, 1) := by decide +kernel
theorem dX7_today_1 : decode cX7_today 1 = .ok (.aload_n 0, 1) := by decide +kernel
theorem dX7_today_2 : decode cX7_today 2 = .ok (.getfield 112, 3) := by decide +kernel
theorem dX7_today_5 : decode cX7_today 5 = .ok (.invokevirtual 128, 3) := by decide +kernel
theorem dX7_today_8 : decode cX7_today 8 = .ok (.ireturn, 1) := by decide +kernel
theorem dX7_passDays_0 : decode cX7_passDays 0 = .ok (.aload_n 0, 1) := by decide +kernel
theorem dX7_passDays_1 : decode cX7_passDays 1 = .ok (.iload_n 1, 1) := by decide +kernel
theorem dX7_passDays_2 : decode cX7_passDays 2 = .ok (.iconst 1, 1) := by decide +kernel
theorem dX7_passDays_3 : decode cX7_passDays 3 = .ok (.sipush 400, 3) := by decide +kernel
theorem dX7_passDays_6 : decode cX7_passDays 6 = .ok (.invokestatic 82, 3) := by decide +kernel
theorem dX7_passDays_9 : decode cX7_passDays 9 = .ok (.ifCond .ne 7, 3) := by decide +kernel
theorem dX7_passDays_12 : decode cX7_passDays 12 = .ok (.iconst 1, 1) := by decide +kernel
theorem dX7_passDays_13 : decode cX7_passDays 13 = .ok (.goto 20, 3) := by decide +kernel
theorem dX7_passDays_16 : decode cX7_passDays 16 = .ok (.aload_n 0, 1) := by decide +kernel
theorem dX7_passDays_17 : decode cX7_passDays 17 = .ok (.getfield 112, 3) := by decide +kernel
theorem dX7_passDays_20 : decode cX7_passDays 20 = .ok (.iload_n 1, 1) := by decide +kernel
theorem dX7_passDays_21 : decode cX7_passDays 21 = .ok (.iadd, 1) := by decide +kernel
theorem dX7_passDays_22 : decode cX7_passDays 22 = .ok (.sipush 1460, 3) := by decide +kernel
theorem dX7_passDays_25 : decode cX7_passDays 25 = .ok (.if_icmp .le 7, 3) := by decide +kernel
theorem dX7_passDays_28 : decode cX7_passDays 28 = .ok (.iconst 2, 1) := by decide +kernel
theorem dX7_passDays_29 : decode cX7_passDays 29 = .ok (.goto 4, 3) := by decide +kernel
theorem dX7_passDays_32 : decode cX7_passDays 32 = .ok (.iconst 0, 1) := by decide +kernel
theorem dX7_passDays_33 : decode cX7_passDays 33 = .ok (.invokevirtual 96, 3) := by decide +kernel
theorem dX7_passDays_36 : decode cX7_passDays 36 = .ok (.ifCond .eq 5, 3) := by decide +kernel
theorem dX7_passDays_39 : decode cX7_passDays 39 = .ok (.iconst 0, 1) := by decide +kernel
theorem dX7_passDays_40 : decode cX7_passDays 40 = .ok (.ireturn, 1) := by decide +kernel
theorem dX7_passDays_41 : decode cX7_passDays 41 = .ok (.iconst 0, 1) := by decide +kernel
theorem dX7_passDays_42 : decode cX7_passDays 42 = .ok (.istore_n 2, 1) := by decide +kernel
theorem dX7_passDays_43 : decode cX7_passDays 43 = .ok (.iload_n 2, 1) := by decide +kernel
theorem dX7_passDays_44 : decode cX7_passDays 44 = .ok (.iload_n 1, 1) := by decide +kernel
theorem dX7_passDays_45 : decode cX7_passDays 45 = .ok (.if_icmp .ge 13, 3) := by decide +kernel
theorem dX7_passDays_48 : decode cX7_passDays 48 = .ok (.aload_n 0, 1) := by decide +kernel
theorem dX7_passDays_49 : decode cX7_passDays 49 = .ok (.invokevirtual 131, 3) := by decide +kernel
theorem dX7_passDays_52 : decode cX7_passDays 52 = .ok (.iinc 2 1, 3) := by decide +kernel
theorem dX7_passDays_55 : decode cX7_passDays 55 = .ok (.goto (-12), 3) := by decide +kernel
theorem dX7_passDays_58 : decode cX7_passDays 58 = .ok (.aload_n 0, 1) := by decide +kernel
theorem dX7_passDays_59 : decode cX7_passDays 59 = .ok (.getfield 112, 3) := by decide +kernel
theorem dX7_passDays_62 : decode cX7_passDays 62 = .ok (.ireturn, 1) := by decide +kernel
theorem dX7_countDays_0 : decode cX7_countDays 0 = .ok (.iload_n 1, 1) := by decide +kernel
theorem dX7_countDays_1 : decode cX7_countDays 1 = .ok (.iconst 0, 1) := by decide +kernel
theorem dX7_countDays_2 : decode cX7_countDays 2 = .ok (.iconst 2, 1) := by decide +kernel
theorem dX7_countDays_3 : decode cX7_countDays 3 = .ok (.invokestatic 82, 3) := by decide +kernel
theorem dX7_countDays_6 : decode cX7_countDays 6 = .ok (.ifCond .eq 29, 3) := by decide +kernel
theorem dX7_countDays_9 : decode cX7_countDays 9 = .ok (.iload_n 2, 1) := by decide +kernel
theorem dX7_countDays_10 : decode cX7_countDays 10 = .ok (.iconst 0, 1) := by decide +kernel
theorem dX7_countDays_11 : decode cX7_countDays 11 = .ok (.sipush 1460, 3) := by decide +kernel
theorem dX7_countDays_14 : decode cX7_countDays 14 = .ok (.invokestatic 82, 3) := by decide +kernel
theorem dX7_countDays_17 : decode cX7_countDays 17 = .ok (.ifCond .eq 18, 3) := by decide +kernel
theorem dX7_countDays_20 : decode cX7_countDays 20 = .ok (.iload_n 3, 1) := by decide +kernel
theorem dX7_countDays_21 : decode cX7_countDays 21 = .ok (.iload_n 2, 1) := by decide +kernel
theorem dX7_countDays_22 : decode cX7_countDays 22 = .ok (.sipush 1460, 3) := by decide +kernel
theorem dX7_countDays_25 : decode cX7_countDays 25 = .ok (.invokestatic 82, 3) := by decide +kernel
theorem dX7_countDays_28 : decode cX7_countDays 28 = .ok (.ifCond .eq 7, 3) := by decide +kernel
theorem dX7_countDays_31 : decode cX7_countDays 31 = .ok (.iconst 1, 1) := by decide +kernel
theorem dX7_countDays_32 : decode cX7_countDays 32 = .ok (.goto 4, 3) := by decide +kernel
theorem dX7_countDays_35 : decode cX7_countDays 35 = .ok (.iconst 0, 1) := by decide +kernel
theorem dX7_countDays_36 : decode cX7_countDays 36 = .ok (.istore 4, 2) := by decide +kernel
theorem dX7_countDays_38 : decode cX7_countDays 38 = .ok (.aload_n 0, 1) := by decide +kernel
theorem dX7_countDays_39 : decode cX7_countDays 39 = .ok (.iload 4, 2) := by decide +kernel
theorem dX7_countDays_41 : decode cX7_countDays 41 = .ok (.ifCond .eq 7, 3) := by decide +kernel
theorem dX7_countDays_44 : decode cX7_countDays 44 = .ok (.iconst 0, 1) := by decide +kernel
theorem dX7_countDays_45 : decode cX7_countDays 45 = .ok (.goto 4, 3) := by decide +kernel
theorem dX7_countDays_48 : decode cX7_countDays 48 = .ok (.iconst 1, 1) := by decide +kernel
theorem dX7_countDays_49 : decode cX7_countDays 49 = .ok (.invokevirtual 96, 3) := by decide +kernel
theorem dX7_countDays_52 : decode cX7_countDays 52 = .ok (.ifCond .eq 7, 3) := by decide +kernel
theorem dX7_countDays_55 : decode cX7_countDays 55 = .ok (.iconst 0, 1) := by decide +kernel
theorem dX7_countDays_56 : decode cX7_countDays 56 = .ok (.goto 9, 3) := by decide +kernel
theorem dX7_countDays_59 : decode cX7_countDays 59 = .ok (.iload_n 1, 1) := by decide +kernel
theorem dX7_countDays_60 : decode cX7_countDays 60 = .ok (.iload_n 2, 1) := by decide +kernel
theorem dX7_countDays_61 : decode cX7_countDays 61 = .ok (.iload_n 3, 1) := by decide +kernel
theorem dX7_countDays_62 : decode cX7_countDays 62 = .ok (.invokestatic 118, 3) := by decide +kernel
theorem dX7_countDays_65 : decode cX7_countDays 65 = .ok (.ireturn, 1) := by decide +kernel
theorem dX7_write_0 : decode cX7_write 0 = .ok (.iload_n 2, 1) := by decide +kernel
theorem dX7_write_1 : decode cX7_write 1 = .ok (.ifCond .eq 33, 3) := by decide +kernel
theorem dX7_write_4 : decode cX7_write 4 = .ok (.aload_n 0, 1) := by decide +kernel
theorem dX7_write_5 : decode cX7_write 5 = .ok (.getfield 63, 3) := by decide +kernel
theorem dX7_write_8 : decode cX7_write 8 = .ok (.aload_n 0, 1) := by decide +kernel
theorem dX7_write_9 : decode cX7_write 9 = .ok (.getfield 134, 3) := by decide +kernel
theorem dX7_write_12 : decode cX7_write 12 = .ok (.iload_n 1, 1) := by decide +kernel
theorem dX7_write_13 : decode cX7_write 13 = .ok (.iastore, 1) := by decide +kernel
theorem dX7_write_14 : decode cX7_write 14 = .ok (.aload_n 0, 1) := by decide +kernel
theorem dX7_write_15 : decode cX7_write 15 = .ok (.getfield 66, 3) := by decide +kernel
theorem dX7_write_18 : decode cX7_write 18 = .ok (.aload_n 0, 1) := by decide +kernel
theorem dX7_write_19 : decode cX7_write 19 = .ok (.getfield 134, 3) := by decide +kernel
theorem dX7_write_22 : decode cX7_write 22 = .ok (.iload_n 2, 1) := by decide +kernel
theorem dX7_write_23 : decode cX7_write 23 = .ok (.iastore, 1) := by decide +kernel
theorem dX7_write_24 : decode cX7_write 24 = .ok (.aload_n 0, 1) := by decide +kernel
theorem dX7_write_25 : decode cX7_write 25 = .ok (.dup, 1) := by decide +kernel
theorem dX7_write_26 : decode cX7_write 26 = .ok (.getfield 134, 3) := by decide +kernel
theorem dX7_write_29 : decode cX7_write 29 = .ok (.iconst 1, 1) := by decide +kernel
theorem dX7_write_30 : decode cX7_write 30 = .ok (.iadd, 1) := by decide +kernel
theorem dX7_write_31 : decode cX7_write 31 = .ok (.putfield 134, 3) := by decide +kernel
theorem dX7_write_34 : decode cX7_write 34 = .ok (.return_, 1) := by decide +kernel
theorem dX7_post_0 : decode cX7_post 0 = .ok (.aload_n 0, 1) := by decide +kernel
theorem dX7_post_1 : decode cX7_post 1 = .ok (.getfield 22, 3) := by decide +kernel
theorem dX7_post_4 : decode cX7_post 4 = .ok (.aload_n 0, 1) := by decide +kernel
theorem dX7_post_5 : decode cX7_post 5 = .ok (.getfield 86, 3) := by decide +kernel
theorem dX7_post_8 : decode cX7_post 8 = .ok (.iload_n 1, 1) := by decide +kernel
theorem dX7_post_9 : decode cX7_post 9 = .ok (.iastore, 1) := by decide +kernel
theorem dX7_post_10 : decode cX7_post 10 = .ok (.aload_n 0, 1) := by decide +kernel
theorem dX7_post_11 : decode cX7_post 11 = .ok (.getfield 25, 3) := by decide +kernel
theorem dX7_post_14 : decode cX7_post 14 = .ok (.aload_n 0, 1) := by decide +kernel
theorem dX7_post_15 : decode cX7_post 15 = .ok (.getfield 86, 3) := by decide +kernel
theorem dX7_post_18 : decode cX7_post 18 = .ok (.iload_n 2, 1) := by decide +kernel
theorem dX7_post_19 : decode cX7_post 19 = .ok (.iastore, 1) := by decide +kernel
theorem dX7_post_20 : decode cX7_post 20 = .ok (.aload_n 0, 1) := by decide +kernel
theorem dX7_post_21 : decode cX7_post 21 = .ok (.getfield 28, 3) := by decide +kernel
theorem dX7_post_24 : decode cX7_post 24 = .ok (.aload_n 0, 1) := by decide +kernel
theorem dX7_post_25 : decode cX7_post 25 = .ok (.getfield 86, 3) := by decide +kernel
theorem dX7_post_28 : decode cX7_post 28 = .ok (.aload_n 0, 1) := by decide +kernel
theorem dX7_post_29 : decode cX7_post 29 = .ok (.getfield 112, 3) := by decide +kernel
theorem dX7_post_32 : decode cX7_post 32 = .ok (.iload_n 3, 1) := by decide +kernel
theorem dX7_post_33 : decode cX7_post 33 = .ok (.iadd, 1) := by decide +kernel
theorem dX7_post_34 : decode cX7_post 34 = .ok (.iastore, 1) := by decide +kernel
theorem dX7_post_35 : decode cX7_post 35 = .ok (.aload_n 0, 1) := by decide +kernel
theorem dX7_post_36 : decode cX7_post 36 = .ok (.getfield 31, 3) := by decide +kernel
theorem dX7_post_39 : decode cX7_post 39 = .ok (.aload_n 0, 1) := by decide +kernel
theorem dX7_post_40 : decode cX7_post 40 = .ok (.getfield 86, 3) := by decide +kernel
theorem dX7_post_43 : decode cX7_post 43 = .ok (.iload_n 2, 1) := by decide +kernel
theorem dX7_post_44 : decode cX7_post 44 = .ok (.iastore, 1) := by decide +kernel
theorem dX7_post_45 : decode cX7_post 45 = .ok (.aload_n 0, 1) := by decide +kernel
theorem dX7_post_46 : decode cX7_post 46 = .ok (.getfield 41, 3) := by decide +kernel
theorem dX7_post_49 : decode cX7_post 49 = .ok (.aload_n 0, 1) := by decide +kernel
theorem dX7_post_50 : decode cX7_post 50 = .ok (.getfield 86, 3) := by decide +kernel
theorem dX7_post_53 : decode cX7_post 53 = .ok (.iload 4, 2) := by decide +kernel
theorem dX7_post_55 : decode cX7_post 55 = .ok (.bastore, 1) := by decide +kernel
theorem dX7_post_56 : decode cX7_post 56 = .ok (.aload_n 0, 1) := by decide +kernel
theorem dX7_post_57 : decode cX7_post 57 = .ok (.aload_n 0, 1) := by decide +kernel
theorem dX7_post_58 : decode cX7_post 58 = .ok (.getfield 86, 3) := by decide +kernel
theorem dX7_post_61 : decode cX7_post 61 = .ok (.iload_n 2, 1) := by decide +kernel
theorem dX7_post_62 : decode cX7_post 62 = .ok (.invokevirtual 137, 3) := by decide +kernel
theorem dX7_post_65 : decode cX7_post 65 = .ok (.aload_n 0, 1) := by decide +kernel
theorem dX7_post_66 : decode cX7_post 66 = .ok (.dup, 1) := by decide +kernel
theorem dX7_post_67 : decode cX7_post 67 = .ok (.getfield 86, 3) := by decide +kernel
theorem dX7_post_70 : decode cX7_post 70 = .ok (.iconst 1, 1) := by decide +kernel
theorem dX7_post_71 : decode cX7_post 71 = .ok (.iadd, 1) := by decide +kernel
theorem dX7_post_72 : decode cX7_post 72 = .ok (.putfield 86, 3) := by decide +kernel
theorem dX7_post_75 : decode cX7_post 75 = .ok (.aload_n 0, 1) := by decide +kernel
theorem dX7_post_76 : decode cX7_post 76 = .ok (.getfield 86, 3) := by decide +kernel
theorem dX7_post_79 : decode cX7_post 79 = .ok (.iconst 1, 1) := by decide +kernel
theorem dX7_post_80 : decode cX7_post 80 = .ok (.isub, 1) := by decide +kernel
theorem dX7_post_81 : decode cX7_post 81 = .ok (.ireturn, 1) := by decide +kernel
theorem dX7_postInvoice_0 : decode cX7_postInvoice 0 = .ok (.iload_n 2, 1) := by decide +kernel
theorem dX7_postInvoice_1 : decode cX7_postInvoice 1 = .ok (.iconst 1, 1) := by decide +kernel
theorem dX7_postInvoice_2 : decode cX7_postInvoice 2 = .ok (.ldc 141, 2) := by decide +kernel
theorem dX7_postInvoice_4 : decode cX7_postInvoice 4 = .ok (.invokestatic 82, 3) := by decide +kernel
theorem dX7_postInvoice_7 : decode cX7_postInvoice 7 = .ok (.ifCond .eq 17, 3) := by decide +kernel
theorem dX7_postInvoice_10 : decode cX7_postInvoice 10 = .ok (.iload_n 3, 1) := by decide +kernel
theorem dX7_postInvoice_11 : decode cX7_postInvoice 11 = .ok (.iconst 0, 1) := by decide +kernel
theorem dX7_postInvoice_12 : decode cX7_postInvoice 12 = .ok (.bipush 120, 2) := by decide +kernel
theorem dX7_postInvoice_14 : decode cX7_postInvoice 14 = .ok (.invokestatic 82, 3) := by decide +kernel
theorem dX7_postInvoice_17 : decode cX7_postInvoice 17 = .ok (.ifCond .eq 7, 3) := by decide +kernel
theorem dX7_postInvoice_20 : decode cX7_postInvoice 20 = .ok (.iconst 1, 1) := by decide +kernel
theorem dX7_postInvoice_21 : decode cX7_postInvoice 21 = .ok (.goto 4, 3) := by decide +kernel
theorem dX7_postInvoice_24 : decode cX7_postInvoice 24 = .ok (.iconst 0, 1) := by decide +kernel
theorem dX7_postInvoice_25 : decode cX7_postInvoice 25 = .ok (.istore 4, 2) := by decide +kernel
theorem dX7_postInvoice_27 : decode cX7_postInvoice 27 = .ok (.aload_n 0, 1) := by decide +kernel
theorem dX7_postInvoice_28 : decode cX7_postInvoice 28 = .ok (.aload_n 0, 1) := by decide +kernel
theorem dX7_postInvoice_29 : decode cX7_postInvoice 29 = .ok (.iload_n 1, 1) := by decide +kernel
theorem dX7_postInvoice_30 : decode cX7_postInvoice 30 = .ok (.invokevirtual 92, 3) := by decide +kernel
theorem dX7_postInvoice_33 : decode cX7_postInvoice 33 = .ok (.ifCond .ne 7, 3) := by decide +kernel
theorem dX7_postInvoice_36 : decode cX7_postInvoice 36 = .ok (.iconst 1, 1) := by decide +kernel
theorem dX7_postInvoice_37 : decode cX7_postInvoice 37 = .ok (.goto 26, 3) := by decide +kernel
theorem dX7_postInvoice_40 : decode cX7_postInvoice 40 = .ok (.iload 4, 2) := by decide +kernel
theorem dX7_postInvoice_42 : decode cX7_postInvoice 42 = .ok (.ifCond .ne 7, 3) := by decide +kernel
theorem dX7_postInvoice_45 : decode cX7_postInvoice 45 = .ok (.iconst 2, 1) := by decide +kernel
theorem dX7_postInvoice_46 : decode cX7_postInvoice 46 = .ok (.goto 17, 3) := by decide +kernel
theorem dX7_postInvoice_49 : decode cX7_postInvoice 49 = .ok (.aload_n 0, 1) := by decide +kernel
theorem dX7_postInvoice_50 : decode cX7_postInvoice 50 = .ok (.getfield 86, 3) := by decide +kernel
theorem dX7_postInvoice_53 : decode cX7_postInvoice 53 = .ok (.bipush 24, 2) := by decide +kernel
theorem dX7_postInvoice_55 : decode cX7_postInvoice 55 = .ok (.if_icmp .ne 7, 3) := by decide +kernel
theorem dX7_postInvoice_58 : decode cX7_postInvoice 58 = .ok (.iconst 3, 1) := by decide +kernel
theorem dX7_postInvoice_59 : decode cX7_postInvoice 59 = .ok (.goto 4, 3) := by decide +kernel
theorem dX7_postInvoice_62 : decode cX7_postInvoice 62 = .ok (.iconst 0, 1) := by decide +kernel
theorem dX7_postInvoice_63 : decode cX7_postInvoice 63 = .ok (.invokevirtual 96, 3) := by decide +kernel
theorem dX7_postInvoice_66 : decode cX7_postInvoice 66 = .ok (.ifCond .eq 5, 3) := by decide +kernel
theorem dX7_postInvoice_69 : decode cX7_postInvoice 69 = .ok (.iconst 0, 1) := by decide +kernel
theorem dX7_postInvoice_70 : decode cX7_postInvoice 70 = .ok (.ireturn, 1) := by decide +kernel
theorem dX7_postInvoice_71 : decode cX7_postInvoice 71 = .ok (.aload_n 0, 1) := by decide +kernel
theorem dX7_postInvoice_72 : decode cX7_postInvoice 72 = .ok (.iload_n 1, 1) := by decide +kernel
theorem dX7_postInvoice_73 : decode cX7_postInvoice 73 = .ok (.iload_n 2, 1) := by decide +kernel
theorem dX7_postInvoice_74 : decode cX7_postInvoice 74 = .ok (.iload_n 3, 1) := by decide +kernel
theorem dX7_postInvoice_75 : decode cX7_postInvoice 75 = .ok (.iconst 0, 1) := by decide +kernel
theorem dX7_postInvoice_76 : decode cX7_postInvoice 76 = .ok (.invokevirtual 142, 3) := by decide +kernel
theorem dX7_postInvoice_79 : decode cX7_postInvoice 79 = .ok (.ireturn, 1) := by decide +kernel
theorem dX7_put_0 : decode cX7_put 0 = .ok (.iload_n 3, 1) := by decide +kernel
theorem dX7_put_1 : decode cX7_put 1 = .ok (.ifCond .le 113, 3) := by decide +kernel
theorem dX7_put_4 : decode cX7_put 4 = .ok (.aload_n 0, 1) := by decide +kernel
theorem dX7_put_5 : decode cX7_put 5 = .ok (.getfield 60, 3) := by decide +kernel
theorem dX7_put_8 : decode cX7_put 8 = .ok (.bipush 24, 2) := by decide +kernel
theorem dX7_put_10 : decode cX7_put 10 = .ok (.iload_n 1, 1) := by decide +kernel
theorem dX7_put_11 : decode cX7_put 11 = .ok (.imul, 1) := by decide +kernel
theorem dX7_put_12 : decode cX7_put 12 = .ok (.iload_n 2, 1) := by decide +kernel
theorem dX7_put_13 : decode cX7_put 13 = .ok (.iadd, 1) := by decide +kernel
theorem dX7_put_14 : decode cX7_put 14 = .ok (.dup2, 1) := by decide +kernel
theorem dX7_put_15 : decode cX7_put 15 = .ok (.iaload, 1) := by decide +kernel
theorem dX7_put_16 : decode cX7_put 16 = .ok (.iload_n 3, 1) := by decide +kernel
theorem dX7_put_17 : decode cX7_put 17 = .ok (.iadd, 1) := by decide +kernel
theorem dX7_put_18 : decode cX7_put 18 = .ok (.iastore, 1) := by decide +kernel
theorem dX7_put_19 : decode cX7_put 19 = .ok (.aload_n 0, 1) := by decide +kernel
theorem dX7_put_20 : decode cX7_put 20 = .ok (.getfield 54, 3) := by decide +kernel
theorem dX7_put_23 : decode cX7_put 23 = .ok (.iload_n 1, 1) := by decide +kernel
theorem dX7_put_24 : decode cX7_put 24 = .ok (.dup2, 1) := by decide +kernel
theorem dX7_put_25 : decode cX7_put 25 = .ok (.iaload, 1) := by decide +kernel
theorem dX7_put_26 : decode cX7_put 26 = .ok (.iload_n 3, 1) := by decide +kernel
theorem dX7_put_27 : decode cX7_put 27 = .ok (.isub, 1) := by decide +kernel
theorem dX7_put_28 : decode cX7_put 28 = .ok (.iastore, 1) := by decide +kernel
theorem dX7_put_29 : decode cX7_put 29 = .ok (.aload_n 0, 1) := by decide +kernel
theorem dX7_put_30 : decode cX7_put 30 = .ok (.getfield 31, 3) := by decide +kernel
theorem dX7_put_33 : decode cX7_put 33 = .ok (.iload_n 2, 1) := by decide +kernel
theorem dX7_put_34 : decode cX7_put 34 = .ok (.dup2, 1) := by decide +kernel
theorem dX7_put_35 : decode cX7_put 35 = .ok (.iaload, 1) := by decide +kernel
theorem dX7_put_36 : decode cX7_put 36 = .ok (.iload_n 3, 1) := by decide +kernel
theorem dX7_put_37 : decode cX7_put 37 = .ok (.isub, 1) := by decide +kernel
theorem dX7_put_38 : decode cX7_put 38 = .ok (.iastore, 1) := by decide +kernel
theorem dX7_put_39 : decode cX7_put 39 = .ok (.aload_n 0, 1) := by decide +kernel
theorem dX7_put_40 : decode cX7_put 40 = .ok (.getfield 34, 3) := by decide +kernel
theorem dX7_put_43 : decode cX7_put 43 = .ok (.iload_n 2, 1) := by decide +kernel
theorem dX7_put_44 : decode cX7_put 44 = .ok (.aload_n 0, 1) := by decide +kernel
theorem dX7_put_45 : decode cX7_put 45 = .ok (.getfield 34, 3) := by decide +kernel
theorem dX7_put_48 : decode cX7_put 48 = .ok (.iload_n 2, 1) := by decide +kernel
theorem dX7_put_49 : decode cX7_put 49 = .ok (.iaload, 1) := by decide +kernel
theorem dX7_put_50 : decode cX7_put 50 = .ok (.aload_n 0, 1) := by decide +kernel
theorem dX7_put_51 : decode cX7_put 51 = .ok (.getfield 31, 3) := by decide +kernel
theorem dX7_put_54 : decode cX7_put 54 = .ok (.iload_n 2, 1) := by decide +kernel
theorem dX7_put_55 : decode cX7_put 55 = .ok (.iaload, 1) := by decide +kernel
theorem dX7_put_56 : decode cX7_put 56 = .ok (.if_icmp .le 12, 3) := by decide +kernel
theorem dX7_put_59 : decode cX7_put 59 = .ok (.aload_n 0, 1) := by decide +kernel
theorem dX7_put_60 : decode cX7_put 60 = .ok (.getfield 31, 3) := by decide +kernel
theorem dX7_put_63 : decode cX7_put 63 = .ok (.iload_n 2, 1) := by decide +kernel
theorem dX7_put_64 : decode cX7_put 64 = .ok (.iaload, 1) := by decide +kernel
theorem dX7_put_65 : decode cX7_put 65 = .ok (.goto 9, 3) := by decide +kernel
theorem dX7_put_68 : decode cX7_put 68 = .ok (.aload_n 0, 1) := by decide +kernel
theorem dX7_put_69 : decode cX7_put 69 = .ok (.getfield 34, 3) := by decide +kernel
theorem dX7_put_72 : decode cX7_put 72 = .ok (.iload_n 2, 1) := by decide +kernel
theorem dX7_put_73 : decode cX7_put 73 = .ok (.iaload, 1) := by decide +kernel
theorem dX7_put_74 : decode cX7_put 74 = .ok (.iastore, 1) := by decide +kernel
theorem dX7_put_75 : decode cX7_put 75 = .ok (.aload_n 0, 1) := by decide +kernel
theorem dX7_put_76 : decode cX7_put 76 = .ok (.getfield 48, 3) := by decide +kernel
theorem dX7_put_79 : decode cX7_put 79 = .ok (.iload_n 2, 1) := by decide +kernel
theorem dX7_put_80 : decode cX7_put 80 = .ok (.iconst 0, 1) := by decide +kernel
theorem dX7_put_81 : decode cX7_put 81 = .ok (.iastore, 1) := by decide +kernel
theorem dX7_put_82 : decode cX7_put 82 = .ok (.aload_n 0, 1) := by decide +kernel
theorem dX7_put_83 : decode cX7_put 83 = .ok (.getfield 45, 3) := by decide +kernel
theorem dX7_put_86 : decode cX7_put 86 = .ok (.iload_n 2, 1) := by decide +kernel
theorem dX7_put_87 : decode cX7_put 87 = .ok (.aload_n 0, 1) := by decide +kernel
theorem dX7_put_88 : decode cX7_put 88 = .ok (.getfield 31, 3) := by decide +kernel
theorem dX7_put_91 : decode cX7_put 91 = .ok (.iload_n 2, 1) := by decide +kernel
theorem dX7_put_92 : decode cX7_put 92 = .ok (.iaload, 1) := by decide +kernel
theorem dX7_put_93 : decode cX7_put 93 = .ok (.ifCond .ne 7, 3) := by decide +kernel
theorem dX7_put_96 : decode cX7_put 96 = .ok (.iconst 0, 1) := by decide +kernel
theorem dX7_put_97 : decode cX7_put 97 = .ok (.goto 9, 3) := by decide +kernel
theorem dX7_put_100 : decode cX7_put 100 = .ok (.aload_n 0, 1) := by decide +kernel
theorem dX7_put_101 : decode cX7_put 101 = .ok (.getfield 45, 3) := by decide +kernel
theorem dX7_put_104 : decode cX7_put 104 = .ok (.iload_n 2, 1) := by decide +kernel
theorem dX7_put_105 : decode cX7_put 105 = .ok (.iaload, 1) := by decide +kernel
theorem dX7_put_106 : decode cX7_put 106 = .ok (.iastore, 1) := by decide +kernel
theorem dX7_put_107 : decode cX7_put 107 = .ok (.aload_n 0, 1) := by decide +kernel
theorem dX7_put_108 : decode cX7_put 108 = .ok (.iload_n 2, 1) := by decide +kernel
theorem dX7_put_109 : decode cX7_put 109 = .ok (.iload_n 3, 1) := by decide +kernel
theorem dX7_put_110 : decode cX7_put 110 = .ok (.ineg, 1) := by decide +kernel
theorem dX7_put_111 : decode cX7_put 111 = .ok (.invokevirtual 137, 3) := by decide +kernel
theorem dX7_put_114 : decode cX7_put 114 = .ok (.return_, 1) := by decide +kernel
theorem dX7_clearOf_0 : decode cX7_clearOf 0 = .ok (.lconst 0, 1) := by decide +kernel
theorem dX7_clearOf_1 : decode cX7_clearOf 1 = .ok (.lstore_n 2, 1) := by decide +kernel
theorem dX7_clearOf_2 : decode cX7_clearOf 2 = .ok (.iconst 0, 1) := by decide +kernel
theorem dX7_clearOf_3 : decode cX7_clearOf 3 = .ok (.istore 4, 2) := by decide +kernel
theorem dX7_clearOf_5 : decode cX7_clearOf 5 = .ok (.iload 4, 2) := by decide +kernel
theorem dX7_clearOf_7 : decode cX7_clearOf 7 = .ok (.aload_n 0, 1) := by decide +kernel
theorem dX7_clearOf_8 : decode cX7_clearOf 8 = .ok (.getfield 86, 3) := by decide +kernel
theorem dX7_clearOf_11 : decode cX7_clearOf 11 = .ok (.if_icmp .ge 34, 3) := by decide +kernel
theorem dX7_clearOf_14 : decode cX7_clearOf 14 = .ok (.lload_n 2, 1) := by decide +kernel
theorem dX7_clearOf_15 : decode cX7_clearOf 15 = .ok (.aload_n 0, 1) := by decide +kernel
theorem dX7_clearOf_16 : decode cX7_clearOf 16 = .ok (.getfield 22, 3) := by decide +kernel
theorem dX7_clearOf_19 : decode cX7_clearOf 19 = .ok (.iload 4, 2) := by decide +kernel
theorem dX7_clearOf_21 : decode cX7_clearOf 21 = .ok (.iaload, 1) := by decide +kernel
theorem dX7_clearOf_22 : decode cX7_clearOf 22 = .ok (.iload_n 1, 1) := by decide +kernel
theorem dX7_clearOf_23 : decode cX7_clearOf 23 = .ok (.if_icmp .ne 13, 3) := by decide +kernel
theorem dX7_clearOf_26 : decode cX7_clearOf 26 = .ok (.aload_n 0, 1) := by decide +kernel
theorem dX7_clearOf_27 : decode cX7_clearOf 27 = .ok (.iload 4, 2) := by decide +kernel
theorem dX7_clearOf_29 : decode cX7_clearOf 29 = .ok (.invokevirtual 115, 3) := by decide +kernel
theorem dX7_clearOf_32 : decode cX7_clearOf 32 = .ok (.i2l, 1) := by decide +kernel
theorem dX7_clearOf_33 : decode cX7_clearOf 33 = .ok (.goto 4, 3) := by decide +kernel
theorem dX7_clearOf_36 : decode cX7_clearOf 36 = .ok (.lconst 0, 1) := by decide +kernel
theorem dX7_clearOf_37 : decode cX7_clearOf 37 = .ok (.ladd, 1) := by decide +kernel
theorem dX7_clearOf_38 : decode cX7_clearOf 38 = .ok (.lstore_n 2, 1) := by decide +kernel
theorem dX7_clearOf_39 : decode cX7_clearOf 39 = .ok (.iinc 4 1, 3) := by decide +kernel
theorem dX7_clearOf_42 : decode cX7_clearOf 42 = .ok (.goto (-37), 3) := by decide +kernel
theorem dX7_clearOf_45 : decode cX7_clearOf 45 = .ok (.lload_n 2, 1) := by decide +kernel
theorem dX7_clearOf_46 : decode cX7_clearOf 46 = .ok (.lreturn, 1) := by decide +kernel
theorem dX7_split_0 : decode cX7_split 0 = .ok (.aload_n 0, 1) := by decide +kernel
theorem dX7_split_1 : decode cX7_split 1 = .ok (.iload_n 1, 1) := by decide +kernel
theorem dX7_split_2 : decode cX7_split 2 = .ok (.invokevirtual 146, 3) := by decide +kernel
theorem dX7_split_5 : decode cX7_split 5 = .ok (.lstore_n 3, 1) := by decide +kernel
theorem dX7_split_6 : decode cX7_split 6 = .ok (.iload_n 2, 1) := by decide +kernel
theorem dX7_split_7 : decode cX7_split 7 = .ok (.istore 5, 2) := by decide +kernel
theorem dX7_split_9 : decode cX7_split 9 = .ok (.iconst 0, 1) := by decide +kernel
theorem dX7_split_10 : decode cX7_split 10 = .ok (.istore 6, 2) := by decide +kernel
theorem dX7_split_12 : decode cX7_split 12 = .ok (.iload 6, 2) := by decide +kernel
theorem dX7_split_14 : decode cX7_split 14 = .ok (.aload_n 0, 1) := by decide +kernel
theorem dX7_split_15 : decode cX7_split 15 = .ok (.getfield 86, 3) := by decide +kernel
theorem dX7_split_18 : decode cX7_split 18 = .ok (.if_icmp .ge 96, 3) := by decide +kernel
theorem dX7_split_21 : decode cX7_split 21 = .ok (.aload_n 0, 1) := by decide +kernel
theorem dX7_split_22 : decode cX7_split 22 = .ok (.getfield 22, 3) := by decide +kernel
theorem dX7_split_25 : decode cX7_split 25 = .ok (.iload 6, 2) := by decide +kernel
theorem dX7_split_27 : decode cX7_split 27 = .ok (.iaload, 1) := by decide +kernel
theorem dX7_split_28 : decode cX7_split 28 = .ok (.iload_n 1, 1) := by decide +kernel
theorem dX7_split_29 : decode cX7_split 29 = .ok (.if_icmp .ne 13, 3) := by decide +kernel
theorem dX7_split_32 : decode cX7_split 32 = .ok (.aload_n 0, 1) := by decide +kernel
theorem dX7_split_33 : decode cX7_split 33 = .ok (.iload 6, 2) := by decide +kernel
theorem dX7_split_35 : decode cX7_split 35 = .ok (.invokevirtual 115, 3) := by decide +kernel
theorem dX7_split_38 : decode cX7_split 38 = .ok (.i2l, 1) := by decide +kernel
theorem dX7_split_39 : decode cX7_split 39 = .ok (.goto 4, 3) := by decide +kernel
theorem dX7_split_42 : decode cX7_split 42 = .ok (.lconst 0, 1) := by decide +kernel
theorem dX7_split_43 : decode cX7_split 43 = .ok (.lstore 7, 2) := by decide +kernel
theorem dX7_split_45 : decode cX7_split 45 = .ok (.aload_n 0, 1) := by decide +kernel
theorem dX7_split_46 : decode cX7_split 46 = .ok (.getfield 69, 3) := by decide +kernel
theorem dX7_split_49 : decode cX7_split 49 = .ok (.iload 6, 2) := by decide +kernel
theorem dX7_split_51 : decode cX7_split 51 = .ok (.lload 7, 2) := by decide +kernel
theorem dX7_split_53 : decode cX7_split 53 = .ok (.lconst 0, 1) := by decide +kernel
theorem dX7_split_54 : decode cX7_split 54 = .ok (.lcmp, 1) := by decide +kernel
theorem dX7_split_55 : decode cX7_split 55 = .ok (.ifCond .ne 7, 3) := by decide +kernel
theorem dX7_split_58 : decode cX7_split 58 = .ok (.iconst 0, 1) := by decide +kernel
theorem dX7_split_59 : decode cX7_split 59 = .ok (.goto 11, 3) := by decide +kernel
theorem dX7_split_62 : decode cX7_split 62 = .ok (.iload_n 2, 1) := by decide +kernel
theorem dX7_split_63 : decode cX7_split 63 = .ok (.i2l, 1) := by decide +kernel
theorem dX7_split_64 : decode cX7_split 64 = .ok (.lload 7, 2) := by decide +kernel
theorem dX7_split_66 : decode cX7_split 66 = .ok (.lmul, 1) := by decide +kernel
theorem dX7_split_67 : decode cX7_split 67 = .ok (.lload_n 3, 1) := by decide +kernel
theorem dX7_split_68 : decode cX7_split 68 = .ok (.ldiv, 1) := by decide +kernel
theorem dX7_split_69 : decode cX7_split 69 = .ok (.l2i, 1) := by decide +kernel
theorem dX7_split_70 : decode cX7_split 70 = .ok (.iastore, 1) := by decide +kernel
theorem dX7_split_71 : decode cX7_split 71 = .ok (.aload_n 0, 1) := by decide +kernel
theorem dX7_split_72 : decode cX7_split 72 = .ok (.getfield 72, 3) := by decide +kernel
theorem dX7_split_75 : decode cX7_split 75 = .ok (.iload 6, 2) := by decide +kernel
theorem dX7_split_77 : decode cX7_split 77 = .ok (.lload 7, 2) := by decide +kernel
theorem dX7_split_79 : decode cX7_split 79 = .ok (.lconst 0, 1) := by decide +kernel
theorem dX7_split_80 : decode cX7_split 80 = .ok (.lcmp, 1) := by decide +kernel
theorem dX7_split_81 : decode cX7_split 81 = .ok (.ifCond .ne 7, 3) := by decide +kernel
theorem dX7_split_84 : decode cX7_split 84 = .ok (.lconst 0, 1) := by decide +kernel
theorem dX7_split_85 : decode cX7_split 85 = .ok (.goto 10, 3) := by decide +kernel
theorem dX7_split_88 : decode cX7_split 88 = .ok (.iload_n 2, 1) := by decide +kernel
theorem dX7_split_89 : decode cX7_split 89 = .ok (.i2l, 1) := by decide +kernel
theorem dX7_split_90 : decode cX7_split 90 = .ok (.lload 7, 2) := by decide +kernel
theorem dX7_split_92 : decode cX7_split 92 = .ok (.lmul, 1) := by decide +kernel
theorem dX7_split_93 : decode cX7_split 93 = .ok (.lload_n 3, 1) := by decide +kernel
theorem dX7_split_94 : decode cX7_split 94 = .ok (.lrem, 1) := by decide +kernel
theorem dX7_split_95 : decode cX7_split 95 = .ok (.lastore, 1) := by decide +kernel
theorem dX7_split_96 : decode cX7_split 96 = .ok (.iload 5, 2) := by decide +kernel
theorem dX7_split_98 : decode cX7_split 98 = .ok (.aload_n 0, 1) := by decide +kernel
theorem dX7_split_99 : decode cX7_split 99 = .ok (.getfield 69, 3) := by decide +kernel
theorem dX7_split_102 : decode cX7_split 102 = .ok (.iload 6, 2) := by decide +kernel
theorem dX7_split_104 : decode cX7_split 104 = .ok (.iaload, 1) := by decide +kernel
theorem dX7_split_105 : decode cX7_split 105 = .ok (.isub, 1) := by decide +kernel
theorem dX7_split_106 : decode cX7_split 106 = .ok (.istore 5, 2) := by decide +kernel
theorem dX7_split_108 : decode cX7_split 108 = .ok (.iinc 6 1, 3) := by decide +kernel
theorem dX7_split_111 : decode cX7_split 111 = .ok (.goto (-99), 3) := by decide +kernel
theorem dX7_split_114 : decode cX7_split 114 = .ok (.iload 5, 2) := by decide +kernel
theorem dX7_split_116 : decode cX7_split 116 = .ok (.ifCond .le 76, 3) := by decide +kernel
theorem dX7_split_119 : decode cX7_split 119 = .ok (.iconst 0, 1) := by decide +kernel
theorem dX7_split_120 : decode cX7_split 120 = .ok (.istore 6, 2) := by decide +kernel
theorem dX7_split_122 : decode cX7_split 122 = .ok (.iconst 1, 1) := by decide +kernel
theorem dX7_split_123 : decode cX7_split 123 = .ok (.istore 7, 2) := by decide +kernel
theorem dX7_split_125 : decode cX7_split 125 = .ok (.iload 7, 2) := by decide +kernel
theorem dX7_split_127 : decode cX7_split 127 = .ok (.aload_n 0, 1) := by decide +kernel
theorem dX7_split_128 : decode cX7_split 128 = .ok (.getfield 86, 3) := by decide +kernel
theorem dX7_split_131 : decode cX7_split 131 = .ok (.if_icmp .ge 36, 3) := by decide +kernel
theorem dX7_split_134 : decode cX7_split 134 = .ok (.aload_n 0, 1) := by decide +kernel
theorem dX7_split_135 : decode cX7_split 135 = .ok (.getfield 72, 3) := by decide +kernel
theorem dX7_split_138 : decode cX7_split 138 = .ok (.iload 7, 2) := by decide +kernel
theorem dX7_split_140 : decode cX7_split 140 = .ok (.laload, 1) := by decide +kernel
theorem dX7_split_141 : decode cX7_split 141 = .ok (.aload_n 0, 1) := by decide +kernel
theorem dX7_split_142 : decode cX7_split 142 = .ok (.getfield 72, 3) := by decide +kernel
theorem dX7_split_145 : decode cX7_split 145 = .ok (.iload 6, 2) := by decide +kernel
theorem dX7_split_147 : decode cX7_split 147 = .ok (.laload, 1) := by decide +kernel
theorem dX7_split_148 : decode cX7_split 148 = .ok (.lcmp, 1) := by decide +kernel
theorem dX7_split_149 : decode cX7_split 149 = .ok (.ifCond .le 8, 3) := by decide +kernel
theorem dX7_split_152 : decode cX7_split 152 = .ok (.iload 7, 2) := by decide +kernel
theorem dX7_split_154 : decode cX7_split 154 = .ok (.goto 5, 3) := by decide +kernel
theorem dX7_split_157 : decode cX7_split 157 = .ok (.iload 6, 2) := by decide +kernel
theorem dX7_split_159 : decode cX7_split 159 = .ok (.istore 6, 2) := by decide +kernel
theorem dX7_split_161 : decode cX7_split 161 = .ok (.iinc 7 1, 3) := by decide +kernel
theorem dX7_split_164 : decode cX7_split 164 = .ok (.goto (-39), 3) := by decide +kernel
theorem dX7_split_167 : decode cX7_split 167 = .ok (.aload_n 0, 1) := by decide +kernel
theorem dX7_split_168 : decode cX7_split 168 = .ok (.getfield 69, 3) := by decide +kernel
theorem dX7_split_171 : decode cX7_split 171 = .ok (.iload 6, 2) := by decide +kernel
theorem dX7_split_173 : decode cX7_split 173 = .ok (.dup2, 1) := by decide +kernel
theorem dX7_split_174 : decode cX7_split 174 = .ok (.iaload, 1) := by decide +kernel
theorem dX7_split_175 : decode cX7_split 175 = .ok (.iconst 1, 1) := by decide +kernel
theorem dX7_split_176 : decode cX7_split 176 = .ok (.iadd, 1) := by decide +kernel
theorem dX7_split_177 : decode cX7_split 177 = .ok (.iastore, 1) := by decide +kernel
theorem dX7_split_178 : decode cX7_split 178 = .ok (.aload_n 0, 1) := by decide +kernel
theorem dX7_split_179 : decode cX7_split 179 = .ok (.getfield 72, 3) := by decide +kernel
theorem dX7_split_182 : decode cX7_split 182 = .ok (.iload 6, 2) := by decide +kernel
theorem dX7_split_184 : decode cX7_split 184 = .ok (.lconst 0, 1) := by decide +kernel
theorem dX7_split_185 : decode cX7_split 185 = .ok (.lastore, 1) := by decide +kernel
theorem dX7_split_186 : decode cX7_split 186 = .ok (.iinc 5 (-1), 3) := by decide +kernel
theorem dX7_split_189 : decode cX7_split 189 = .ok (.goto (-75), 3) := by decide +kernel
theorem dX7_split_192 : decode cX7_split 192 = .ok (.return_, 1) := by decide +kernel
theorem dX7_oldestOf_0 : decode cX7_oldestOf 0 = .ok (.iconst (-1), 1) := by decide +kernel
theorem dX7_oldestOf_1 : decode cX7_oldestOf 1 = .ok (.istore_n 2, 1) := by decide +kernel
theorem dX7_oldestOf_2 : decode cX7_oldestOf 2 = .ok (.iconst 0, 1) := by decide +kernel
theorem dX7_oldestOf_3 : decode cX7_oldestOf 3 = .ok (.istore_n 3, 1) := by decide +kernel
theorem dX7_oldestOf_4 : decode cX7_oldestOf 4 = .ok (.iload_n 3, 1) := by decide +kernel
theorem dX7_oldestOf_5 : decode cX7_oldestOf 5 = .ok (.aload_n 0, 1) := by decide +kernel
theorem dX7_oldestOf_6 : decode cX7_oldestOf 6 = .ok (.getfield 86, 3) := by decide +kernel
theorem dX7_oldestOf_9 : decode cX7_oldestOf 9 = .ok (.if_icmp .ge 53, 3) := by decide +kernel
theorem dX7_oldestOf_12 : decode cX7_oldestOf 12 = .ok (.aload_n 0, 1) := by decide +kernel
theorem dX7_oldestOf_13 : decode cX7_oldestOf 13 = .ok (.getfield 22, 3) := by decide +kernel
theorem dX7_oldestOf_16 : decode cX7_oldestOf 16 = .ok (.iload_n 3, 1) := by decide +kernel
theorem dX7_oldestOf_17 : decode cX7_oldestOf 17 = .ok (.iaload, 1) := by decide +kernel
theorem dX7_oldestOf_18 : decode cX7_oldestOf 18 = .ok (.iload_n 1, 1) := by decide +kernel
theorem dX7_oldestOf_19 : decode cX7_oldestOf 19 = .ok (.if_icmp .ne 35, 3) := by decide +kernel
theorem dX7_oldestOf_22 : decode cX7_oldestOf 22 = .ok (.aload_n 0, 1) := by decide +kernel
theorem dX7_oldestOf_23 : decode cX7_oldestOf 23 = .ok (.iload_n 3, 1) := by decide +kernel
theorem dX7_oldestOf_24 : decode cX7_oldestOf 24 = .ok (.invokevirtual 115, 3) := by decide +kernel
theorem dX7_oldestOf_27 : decode cX7_oldestOf 27 = .ok (.ifCond .le 27, 3) := by decide +kernel
theorem dX7_oldestOf_30 : decode cX7_oldestOf 30 = .ok (.iload_n 2, 1) := by decide +kernel
theorem dX7_oldestOf_31 : decode cX7_oldestOf 31 = .ok (.iconst (-1), 1) := by decide +kernel
theorem dX7_oldestOf_32 : decode cX7_oldestOf 32 = .ok (.if_icmp .eq 18, 3) := by decide +kernel
theorem dX7_oldestOf_35 : decode cX7_oldestOf 35 = .ok (.aload_n 0, 1) := by decide +kernel
theorem dX7_oldestOf_36 : decode cX7_oldestOf 36 = .ok (.getfield 28, 3) := by decide +kernel
theorem dX7_oldestOf_39 : decode cX7_oldestOf 39 = .ok (.iload_n 3, 1) := by decide +kernel
theorem dX7_oldestOf_40 : decode cX7_oldestOf 40 = .ok (.iaload, 1) := by decide +kernel
theorem dX7_oldestOf_41 : decode cX7_oldestOf 41 = .ok (.aload_n 0, 1) := by decide +kernel
theorem dX7_oldestOf_42 : decode cX7_oldestOf 42 = .ok (.getfield 28, 3) := by decide +kernel
theorem dX7_oldestOf_45 : decode cX7_oldestOf 45 = .ok (.iload_n 2, 1) := by decide +kernel
theorem dX7_oldestOf_46 : decode cX7_oldestOf 46 = .ok (.iaload, 1) := by decide +kernel
theorem dX7_oldestOf_47 : decode cX7_oldestOf 47 = .ok (.if_icmp .ge 7, 3) := by decide +kernel
theorem dX7_oldestOf_50 : decode cX7_oldestOf 50 = .ok (.iload_n 3, 1) := by decide +kernel
theorem dX7_oldestOf_51 : decode cX7_oldestOf 51 = .ok (.goto 4, 3) := by decide +kernel
theorem dX7_oldestOf_54 : decode cX7_oldestOf 54 = .ok (.iload_n 2, 1) := by decide +kernel
theorem dX7_oldestOf_55 : decode cX7_oldestOf 55 = .ok (.istore_n 2, 1) := by decide +kernel
theorem dX7_oldestOf_56 : decode cX7_oldestOf 56 = .ok (.iinc 3 1, 3) := by decide +kernel
theorem dX7_oldestOf_59 : decode cX7_oldestOf 59 = .ok (.goto (-55), 3) := by decide +kernel
theorem dX7_oldestOf_62 : decode cX7_oldestOf 62 = .ok (.iload_n 2, 1) := by decide +kernel
theorem dX7_oldestOf_63 : decode cX7_oldestOf 63 = .ok (.ireturn, 1) := by decide +kernel
theorem dX7_share_0 : decode cX7_share 0 = .ok (.aload_n 0, 1) := by decide +kernel
theorem dX7_share_1 : decode cX7_share 1 = .ok (.iload_n 1, 1) := by decide +kernel
theorem dX7_share_2 : decode cX7_share 2 = .ok (.invokevirtual 146, 3) := by decide +kernel
theorem dX7_share_5 : decode cX7_share 5 = .ok (.lstore_n 3, 1) := by decide +kernel
theorem dX7_share_6 : decode cX7_share 6 = .ok (.iload_n 2, 1) := by decide +kernel
theorem dX7_share_7 : decode cX7_share 7 = .ok (.i2l, 1) := by decide +kernel
theorem dX7_share_8 : decode cX7_share 8 = .ok (.lload_n 3, 1) := by decide +kernel
theorem dX7_share_9 : decode cX7_share 9 = .ok (.lcmp, 1) := by decide +kernel
theorem dX7_share_10 : decode cX7_share 10 = .ok (.ifCond .ge 8, 3) := by decide +kernel
theorem dX7_share_13 : decode cX7_share 13 = .ok (.iload_n 2, 1) := by decide +kernel
theorem dX7_share_14 : decode cX7_share 14 = .ok (.i2l, 1) := by decide +kernel
theorem dX7_share_15 : decode cX7_share 15 = .ok (.goto 4, 3) := by decide +kernel
theorem dX7_share_18 : decode cX7_share 18 = .ok (.lload_n 3, 1) := by decide +kernel
theorem dX7_share_19 : decode cX7_share 19 = .ok (.l2i, 1) := by decide +kernel
theorem dX7_share_20 : decode cX7_share 20 = .ok (.istore 5, 2) := by decide +kernel
theorem dX7_share_22 : decode cX7_share 22 = .ok (.aload_n 0, 1) := by decide +kernel
theorem dX7_share_23 : decode cX7_share 23 = .ok (.getfield 7, 3) := by decide +kernel
theorem dX7_share_26 : decode cX7_share 26 = .ok (.iload_n 1, 1) := by decide +kernel
theorem dX7_share_27 : decode cX7_share 27 = .ok (.iaload, 1) := by decide +kernel
theorem dX7_share_28 : decode cX7_share 28 = .ok (.iconst 1, 1) := by decide +kernel
theorem dX7_share_29 : decode cX7_share 29 = .ok (.if_icmp .ne 11, 3) := by decide +kernel
theorem dX7_share_32 : decode cX7_share 32 = .ok (.aload_n 0, 1) := by decide +kernel
theorem dX7_share_33 : decode cX7_share 33 = .ok (.iload_n 1, 1) := by decide +kernel
theorem dX7_share_34 : decode cX7_share 34 = .ok (.iload 5, 2) := by decide +kernel
theorem dX7_share_36 : decode cX7_share 36 = .ok (.invokevirtual 150, 3) := by decide +kernel
theorem dX7_share_39 : decode cX7_share 39 = .ok (.return_, 1) := by decide +kernel
theorem dX7_share_40 : decode cX7_share 40 = .ok (.iconst 0, 1) := by decide +kernel
theorem dX7_share_41 : decode cX7_share 41 = .ok (.istore 6, 2) := by decide +kernel
theorem dX7_share_43 : decode cX7_share 43 = .ok (.iload 6, 2) := by decide +kernel
theorem dX7_share_45 : decode cX7_share 45 = .ok (.aload_n 0, 1) := by decide +kernel
theorem dX7_share_46 : decode cX7_share 46 = .ok (.getfield 86, 3) := by decide +kernel
theorem dX7_share_49 : decode cX7_share 49 = .ok (.if_icmp .ge 17, 3) := by decide +kernel
theorem dX7_share_52 : decode cX7_share 52 = .ok (.aload_n 0, 1) := by decide +kernel
theorem dX7_share_53 : decode cX7_share 53 = .ok (.getfield 69, 3) := by decide +kernel
theorem dX7_share_56 : decode cX7_share 56 = .ok (.iload 6, 2) := by decide +kernel
theorem dX7_share_58 : decode cX7_share 58 = .ok (.iconst 0, 1) := by decide +kernel
theorem dX7_share_59 : decode cX7_share 59 = .ok (.iastore, 1) := by decide +kernel
theorem dX7_share_60 : decode cX7_share 60 = .ok (.iinc 6 1, 3) := by decide +kernel
theorem dX7_share_63 : decode cX7_share 63 = .ok (.goto (-20), 3) := by decide +kernel
theorem dX7_share_66 : decode cX7_share 66 = .ok (.aload_n 0, 1) := by decide +kernel
theorem dX7_share_67 : decode cX7_share 67 = .ok (.getfield 7, 3) := by decide +kernel
theorem dX7_share_70 : decode cX7_share 70 = .ok (.iload_n 1, 1) := by decide +kernel
theorem dX7_share_71 : decode cX7_share 71 = .ok (.iaload, 1) := by decide +kernel
theorem dX7_share_72 : decode cX7_share 72 = .ok (.ifCond .ne 48, 3) := by decide +kernel
theorem dX7_share_75 : decode cX7_share 75 = .ok (.iconst 0, 1) := by decide +kernel
theorem dX7_share_76 : decode cX7_share 76 = .ok (.istore 6, 2) := by decide +kernel
theorem dX7_share_78 : decode cX7_share 78 = .ok (.iload 6, 2) := by decide +kernel
theorem dX7_share_80 : decode cX7_share 80 = .ok (.aload_n 0, 1) := by decide +kernel
theorem dX7_share_81 : decode cX7_share 81 = .ok (.getfield 86, 3) := by decide +kernel
theorem dX7_share_84 : decode cX7_share 84 = .ok (.if_icmp .ge 36, 3) := by decide +kernel
theorem dX7_share_87 : decode cX7_share 87 = .ok (.aload_n 0, 1) := by decide +kernel
theorem dX7_share_88 : decode cX7_share 88 = .ok (.getfield 22, 3) := by decide +kernel
theorem dX7_share_91 : decode cX7_share 91 = .ok (.iload 6, 2) := by decide +kernel
theorem dX7_share_93 : decode cX7_share 93 = .ok (.iaload, 1) := by decide +kernel
theorem dX7_share_94 : decode cX7_share 94 = .ok (.iload_n 1, 1) := by decide +kernel
theorem dX7_share_95 : decode cX7_share 95 = .ok (.if_icmp .ne 19, 3) := by decide +kernel
theorem dX7_share_98 : decode cX7_share 98 = .ok (.aload_n 0, 1) := by decide +kernel
theorem dX7_share_99 : decode cX7_share 99 = .ok (.getfield 69, 3) := by decide +kernel
theorem dX7_share_102 : decode cX7_share 102 = .ok (.iload 6, 2) := by decide +kernel
theorem dX7_share_104 : decode cX7_share 104 = .ok (.aload_n 0, 1) := by decide +kernel
theorem dX7_share_105 : decode cX7_share 105 = .ok (.iload_n 1, 1) := by decide +kernel
theorem dX7_share_106 : decode cX7_share 106 = .ok (.iload 6, 2) := by decide +kernel
theorem dX7_share_108 : decode cX7_share 108 = .ok (.iload 5, 2) := by decide +kernel
theorem dX7_share_110 : decode cX7_share 110 = .ok (.invokevirtual 153, 3) := by decide +kernel
theorem dX7_share_113 : decode cX7_share 113 = .ok (.iastore, 1) := by decide +kernel
theorem dX7_share_114 : decode cX7_share 114 = .ok (.iinc 6 1, 3) := by decide +kernel
theorem dX7_share_117 : decode cX7_share 117 = .ok (.goto (-39), 3) := by decide +kernel
theorem dX7_share_120 : decode cX7_share 120 = .ok (.return_, 1) := by decide +kernel
theorem dX7_fromOldest_0 : decode cX7_fromOldest 0 = .ok (.lconst 0, 1) := by decide +kernel
theorem dX7_fromOldest_1 : decode cX7_fromOldest 1 = .ok (.lstore 4, 2) := by decide +kernel
theorem dX7_fromOldest_3 : decode cX7_fromOldest 3 = .ok (.iconst 0, 1) := by decide +kernel
theorem dX7_fromOldest_4 : decode cX7_fromOldest 4 = .ok (.istore 6, 2) := by decide +kernel
theorem dX7_fromOldest_6 : decode cX7_fromOldest 6 = .ok (.iload 6, 2) := by decide +kernel
theorem dX7_fromOldest_8 : decode cX7_fromOldest 8 = .ok (.aload_n 0, 1) := by decide +kernel
theorem dX7_fromOldest_9 : decode cX7_fromOldest 9 = .ok (.getfield 86, 3) := by decide +kernel
theorem dX7_fromOldest_12 : decode cX7_fromOldest 12 = .ok (.if_icmp .ge 86, 3) := by decide +kernel
theorem dX7_fromOldest_15 : decode cX7_fromOldest 15 = .ok (.aload_n 0, 1) := by decide +kernel
theorem dX7_fromOldest_16 : decode cX7_fromOldest 16 = .ok (.getfield 28, 3) := by decide +kernel
theorem dX7_fromOldest_19 : decode cX7_fromOldest 19 = .ok (.iload 6, 2) := by decide +kernel
theorem dX7_fromOldest_21 : decode cX7_fromOldest 21 = .ok (.iaload, 1) := by decide +kernel
theorem dX7_fromOldest_22 : decode cX7_fromOldest 22 = .ok (.aload_n 0, 1) := by decide +kernel
theorem dX7_fromOldest_23 : decode cX7_fromOldest 23 = .ok (.getfield 28, 3) := by decide +kernel
theorem dX7_fromOldest_26 : decode cX7_fromOldest 26 = .ok (.iload_n 2, 1) := by decide +kernel
theorem dX7_fromOldest_27 : decode cX7_fromOldest 27 = .ok (.iaload, 1) := by decide +kernel
theorem dX7_fromOldest_28 : decode cX7_fromOldest 28 = .ok (.if_icmp .lt 25, 3) := by decide +kernel
theorem dX7_fromOldest_31 : decode cX7_fromOldest 31 = .ok (.aload_n 0, 1) := by decide +kernel
theorem dX7_fromOldest_32 : decode cX7_fromOldest 32 = .ok (.getfield 28, 3) := by decide +kernel
theorem dX7_fromOldest_35 : decode cX7_fromOldest 35 = .ok (.iload 6, 2) := by decide +kernel
theorem dX7_fromOldest_37 : decode cX7_fromOldest 37 = .ok (.iaload, 1) := by decide +kernel
theorem dX7_fromOldest_38 : decode cX7_fromOldest 38 = .ok (.aload_n 0, 1) := by decide +kernel
theorem dX7_fromOldest_39 : decode cX7_fromOldest 39 = .ok (.getfield 28, 3) := by decide +kernel
theorem dX7_fromOldest_42 : decode cX7_fromOldest 42 = .ok (.iload_n 2, 1) := by decide +kernel
theorem dX7_fromOldest_43 : decode cX7_fromOldest 43 = .ok (.iaload, 1) := by decide +kernel
theorem dX7_fromOldest_44 : decode cX7_fromOldest 44 = .ok (.if_icmp .ne 13, 3) := by decide +kernel
theorem dX7_fromOldest_47 : decode cX7_fromOldest 47 = .ok (.iload 6, 2) := by decide +kernel
theorem dX7_fromOldest_49 : decode cX7_fromOldest 49 = .ok (.iload_n 2, 1) := by decide +kernel
theorem dX7_fromOldest_50 : decode cX7_fromOldest 50 = .ok (.if_icmp .ge 7, 3) := by decide +kernel
theorem dX7_fromOldest_53 : decode cX7_fromOldest 53 = .ok (.iconst 1, 1) := by decide +kernel
theorem dX7_fromOldest_54 : decode cX7_fromOldest 54 = .ok (.goto 4, 3) := by decide +kernel
theorem dX7_fromOldest_57 : decode cX7_fromOldest 57 = .ok (.iconst 0, 1) := by decide +kernel
theorem dX7_fromOldest_58 : decode cX7_fromOldest 58 = .ok (.istore 7, 2) := by decide +kernel
theorem dX7_fromOldest_60 : decode cX7_fromOldest 60 = .ok (.lload 4, 2) := by decide +kernel
theorem dX7_fromOldest_62 : decode cX7_fromOldest 62 = .ok (.aload_n 0, 1) := by decide +kernel
theorem dX7_fromOldest_63 : decode cX7_fromOldest 63 = .ok (.getfield 22, 3) := by decide +kernel
theorem dX7_fromOldest_66 : decode cX7_fromOldest 66 = .ok (.iload 6, 2) := by decide +kernel
theorem dX7_fromOldest_68 : decode cX7_fromOldest 68 = .ok (.iaload, 1) := by decide +kernel
theorem dX7_fromOldest_69 : decode cX7_fromOldest 69 = .ok (.iload_n 1, 1) := by decide +kernel
theorem dX7_fromOldest_70 : decode cX7_fromOldest 70 = .ok (.if_icmp .ne 18, 3) := by decide +kernel
theorem dX7_fromOldest_73 : decode cX7_fromOldest 73 = .ok (.iload 7, 2) := by decide +kernel
theorem dX7_fromOldest_75 : decode cX7_fromOldest 75 = .ok (.ifCond .eq 13, 3) := by decide +kernel
theorem dX7_fromOldest_78 : decode cX7_fromOldest 78 = .ok (.aload_n 0, 1) := by decide +kernel
theorem dX7_fromOldest_79 : decode cX7_fromOldest 79 = .ok (.iload 6, 2) := by decide +kernel
theorem dX7_fromOldest_81 : decode cX7_fromOldest 81 = .ok (.invokevirtual 115, 3) := by decide +kernel
theorem dX7_fromOldest_84 : decode cX7_fromOldest 84 = .ok (.i2l, 1) := by decide +kernel
theorem dX7_fromOldest_85 : decode cX7_fromOldest 85 = .ok (.goto 4, 3) := by decide +kernel
theorem dX7_fromOldest_88 : decode cX7_fromOldest 88 = .ok (.lconst 0, 1) := by decide +kernel
theorem dX7_fromOldest_89 : decode cX7_fromOldest 89 = .ok (.ladd, 1) := by decide +kernel
theorem dX7_fromOldest_90 : decode cX7_fromOldest 90 = .ok (.lstore 4, 2) := by decide +kernel
theorem dX7_fromOldest_92 : decode cX7_fromOldest 92 = .ok (.iinc 6 1, 3) := by decide +kernel
theorem dX7_fromOldest_95 : decode cX7_fromOldest 95 = .ok (.goto (-89), 3) := by decide +kernel
theorem dX7_fromOldest_98 : decode cX7_fromOldest 98 = .ok (.iload_n 3, 1) := by decide +kernel
theorem dX7_fromOldest_99 : decode cX7_fromOldest 99 = .ok (.i2l, 1) := by decide +kernel
theorem dX7_fromOldest_100 : decode cX7_fromOldest 100 = .ok (.lload 4, 2) := by decide +kernel
theorem dX7_fromOldest_102 : decode cX7_fromOldest 102 = .ok (.lsub, 1) := by decide +kernel
theorem dX7_fromOldest_103 : decode cX7_fromOldest 103 = .ok (.lstore 6, 2) := by decide +kernel
theorem dX7_fromOldest_105 : decode cX7_fromOldest 105 = .ok (.lload 6, 2) := by decide +kernel
theorem dX7_fromOldest_107 : decode cX7_fromOldest 107 = .ok (.lconst 0, 1) := by decide +kernel
theorem dX7_fromOldest_108 : decode cX7_fromOldest 108 = .ok (.lcmp, 1) := by decide +kernel
theorem dX7_fromOldest_109 : decode cX7_fromOldest 109 = .ok (.ifCond .gt 7, 3) := by decide +kernel
theorem dX7_fromOldest_112 : decode cX7_fromOldest 112 = .ok (.iconst 0, 1) := by decide +kernel
theorem dX7_fromOldest_113 : decode cX7_fromOldest 113 = .ok (.goto 27, 3) := by decide +kernel
theorem dX7_fromOldest_116 : decode cX7_fromOldest 116 = .ok (.lload 6, 2) := by decide +kernel
theorem dX7_fromOldest_118 : decode cX7_fromOldest 118 = .ok (.aload_n 0, 1) := by decide +kernel
theorem dX7_fromOldest_119 : decode cX7_fromOldest 119 = .ok (.iload_n 2, 1) := by decide +kernel
theorem dX7_fromOldest_120 : decode cX7_fromOldest 120 = .ok (.invokevirtual 115, 3) := by decide +kernel
theorem dX7_fromOldest_123 : decode cX7_fromOldest 123 = .ok (.i2l, 1) := by decide +kernel
theorem dX7_fromOldest_124 : decode cX7_fromOldest 124 = .ok (.lcmp, 1) := by decide +kernel
theorem dX7_fromOldest_125 : decode cX7_fromOldest 125 = .ok (.ifCond .ge 8, 3) := by decide +kernel
theorem dX7_fromOldest_128 : decode cX7_fromOldest 128 = .ok (.lload 6, 2) := by decide +kernel
theorem dX7_fromOldest_130 : decode cX7_fromOldest 130 = .ok (.goto 9, 3) := by decide +kernel
theorem dX7_fromOldest_133 : decode cX7_fromOldest 133 = .ok (.aload_n 0, 1) := by decide +kernel
theorem dX7_fromOldest_134 : decode cX7_fromOldest 134 = .ok (.iload_n 2, 1) := by decide +kernel
theorem dX7_fromOldest_135 : decode cX7_fromOldest 135 = .ok (.invokevirtual 115, 3) := by decide +kernel
theorem dX7_fromOldest_138 : decode cX7_fromOldest 138 = .ok (.i2l, 1) := by decide +kernel
theorem dX7_fromOldest_139 : decode cX7_fromOldest 139 = .ok (.l2i, 1) := by decide +kernel
theorem dX7_fromOldest_140 : decode cX7_fromOldest 140 = .ok (.ireturn, 1) := by decide +kernel
theorem dX7_allocateByRule_0 : decode cX7_allocateByRule 0 = .ok (.aload_n 0, 1) := by decide +kernel
theorem dX7_allocateByRule_1 : decode cX7_allocateByRule 1 = .ok (.getfield 54, 3) := by decide +kernel
theorem dX7_allocateByRule_4 : decode cX7_allocateByRule 4 = .ok (.iload_n 1, 1) := by decide +kernel
theorem dX7_allocateByRule_5 : decode cX7_allocateByRule 5 = .ok (.iaload, 1) := by decide +kernel
theorem dX7_allocateByRule_6 : decode cX7_allocateByRule 6 = .ok (.istore_n 2, 1) := by decide +kernel
theorem dX7_allocateByRule_7 : decode cX7_allocateByRule 7 = .ok (.iload_n 2, 1) := by decide +kernel
theorem dX7_allocateByRule_8 : decode cX7_allocateByRule 8 = .ok (.ifCond .le 42, 3) := by decide +kernel
theorem dX7_allocateByRule_11 : decode cX7_allocateByRule 11 = .ok (.aload_n 0, 1) := by decide +kernel
theorem dX7_allocateByRule_12 : decode cX7_allocateByRule 12 = .ok (.aload_n 0, 1) := by decide +kernel
theorem dX7_allocateByRule_13 : decode cX7_allocateByRule 13 = .ok (.getfield 51, 3) := by decide +kernel
theorem dX7_allocateByRule_16 : decode cX7_allocateByRule 16 = .ok (.iload_n 1, 1) := by decide +kernel
theorem dX7_allocateByRule_17 : decode cX7_allocateByRule 17 = .ok (.iaload, 1) := by decide +kernel
theorem dX7_allocateByRule_18 : decode cX7_allocateByRule 18 = .ok (.iload_n 2, 1) := by decide +kernel
theorem dX7_allocateByRule_19 : decode cX7_allocateByRule 19 = .ok (.invokevirtual 156, 3) := by decide +kernel
theorem dX7_allocateByRule_22 : decode cX7_allocateByRule 22 = .ok (.iconst 0, 1) := by decide +kernel
theorem dX7_allocateByRule_23 : decode cX7_allocateByRule 23 = .ok (.istore_n 3, 1) := by decide +kernel
theorem dX7_allocateByRule_24 : decode cX7_allocateByRule 24 = .ok (.iload_n 3, 1) := by decide +kernel
theorem dX7_allocateByRule_25 : decode cX7_allocateByRule 25 = .ok (.aload_n 0, 1) := by decide +kernel
theorem dX7_allocateByRule_26 : decode cX7_allocateByRule 26 = .ok (.getfield 86, 3) := by decide +kernel
theorem dX7_allocateByRule_29 : decode cX7_allocateByRule 29 = .ok (.if_icmp .ge 21, 3) := by decide +kernel
theorem dX7_allocateByRule_32 : decode cX7_allocateByRule 32 = .ok (.aload_n 0, 1) := by decide +kernel
theorem dX7_allocateByRule_33 : decode cX7_allocateByRule 33 = .ok (.iload_n 1, 1) := by decide +kernel
theorem dX7_allocateByRule_34 : decode cX7_allocateByRule 34 = .ok (.iload_n 3, 1) := by decide +kernel
theorem dX7_allocateByRule_35 : decode cX7_allocateByRule 35 = .ok (.aload_n 0, 1) := by decide +kernel
theorem dX7_allocateByRule_36 : decode cX7_allocateByRule 36 = .ok (.getfield 69, 3) := by decide +kernel
theorem dX7_allocateByRule_39 : decode cX7_allocateByRule 39 = .ok (.iload_n 3, 1) := by decide +kernel
theorem dX7_allocateByRule_40 : decode cX7_allocateByRule 40 = .ok (.iaload, 1) := by decide +kernel
theorem dX7_allocateByRule_41 : decode cX7_allocateByRule 41 = .ok (.invokevirtual 159, 3) := by decide +kernel
theorem dX7_allocateByRule_44 : decode cX7_allocateByRule 44 = .ok (.iinc 3 1, 3) := by decide +kernel
theorem dX7_allocateByRule_47 : decode cX7_allocateByRule 47 = .ok (.goto (-23), 3) := by decide +kernel
theorem dX7_allocateByRule_50 : decode cX7_allocateByRule 50 = .ok (.iload_n 2, 1) := by decide +kernel
theorem dX7_allocateByRule_51 : decode cX7_allocateByRule 51 = .ok (.aload_n 0, 1) := by decide +kernel
theorem dX7_allocateByRule_52 : decode cX7_allocateByRule 52 = .ok (.getfield 54, 3) := by decide +kernel
theorem dX7_allocateByRule_55 : decode cX7_allocateByRule 55 = .ok (.iload_n 1, 1) := by decide +kernel
theorem dX7_allocateByRule_56 : decode cX7_allocateByRule 56 = .ok (.iaload, 1) := by decide +kernel
theorem dX7_allocateByRule_57 : decode cX7_allocateByRule 57 = .ok (.isub, 1) := by decide +kernel
theorem dX7_allocateByRule_58 : decode cX7_allocateByRule 58 = .ok (.ireturn, 1) := by decide +kernel
theorem dX7_postPayment_0 : decode cX7_postPayment 0 = .ok (.aload_n 0, 1) := by decide +kernel
theorem dX7_postPayment_1 : decode cX7_postPayment 1 = .ok (.aload_n 0, 1) := by decide +kernel
theorem dX7_postPayment_2 : decode cX7_postPayment 2 = .ok (.iload_n 1, 1) := by decide +kernel
theorem dX7_postPayment_3 : decode cX7_postPayment 3 = .ok (.invokevirtual 92, 3) := by decide +kernel
theorem dX7_postPayment_6 : decode cX7_postPayment 6 = .ok (.ifCond .ne 7, 3) := by decide +kernel
theorem dX7_postPayment_9 : decode cX7_postPayment 9 = .ok (.iconst 1, 1) := by decide +kernel
theorem dX7_postPayment_10 : decode cX7_postPayment 10 = .ok (.goto 31, 3) := by decide +kernel
theorem dX7_postPayment_13 : decode cX7_postPayment 13 = .ok (.iload_n 2, 1) := by decide +kernel
theorem dX7_postPayment_14 : decode cX7_postPayment 14 = .ok (.iconst 1, 1) := by decide +kernel
theorem dX7_postPayment_15 : decode cX7_postPayment 15 = .ok (.ldc 141, 2) := by decide +kernel
theorem dX7_postPayment_17 : decode cX7_postPayment 17 = .ok (.invokestatic 82, 3) := by decide +kernel
theorem dX7_postPayment_20 : decode cX7_postPayment 20 = .ok (.ifCond .ne 7, 3) := by decide +kernel
theorem dX7_postPayment_23 : decode cX7_postPayment 23 = .ok (.iconst 2, 1) := by decide +kernel
theorem dX7_postPayment_24 : decode cX7_postPayment 24 = .ok (.goto 17, 3) := by decide +kernel
theorem dX7_postPayment_27 : decode cX7_postPayment 27 = .ok (.aload_n 0, 1) := by decide +kernel
theorem dX7_postPayment_28 : decode cX7_postPayment 28 = .ok (.getfield 89, 3) := by decide +kernel
theorem dX7_postPayment_31 : decode cX7_postPayment 31 = .ok (.bipush 24, 2) := by decide +kernel
theorem dX7_postPayment_33 : decode cX7_postPayment 33 = .ok (.if_icmp .ne 7, 3) := by decide +kernel
theorem dX7_postPayment_36 : decode cX7_postPayment 36 = .ok (.iconst 3, 1) := by decide +kernel
theorem dX7_postPayment_37 : decode cX7_postPayment 37 = .ok (.goto 4, 3) := by decide +kernel
theorem dX7_postPayment_40 : decode cX7_postPayment 40 = .ok (.iconst 0, 1) := by decide +kernel
theorem dX7_postPayment_41 : decode cX7_postPayment 41 = .ok (.invokevirtual 96, 3) := by decide +kernel
theorem dX7_postPayment_44 : decode cX7_postPayment 44 = .ok (.ifCond .eq 5, 3) := by decide +kernel
theorem dX7_postPayment_47 : decode cX7_postPayment 47 = .ok (.iconst 0, 1) := by decide +kernel
theorem dX7_postPayment_48 : decode cX7_postPayment 48 = .ok (.ireturn, 1) := by decide +kernel
theorem dX7_postPayment_49 : decode cX7_postPayment 49 = .ok (.aload_n 0, 1) := by decide +kernel
theorem dX7_postPayment_50 : decode cX7_postPayment 50 = .ok (.getfield 51, 3) := by decide +kernel
theorem dX7_postPayment_53 : decode cX7_postPayment 53 = .ok (.aload_n 0, 1) := by decide +kernel
theorem dX7_postPayment_54 : decode cX7_postPayment 54 = .ok (.getfield 89, 3) := by decide +kernel
theorem dX7_postPayment_57 : decode cX7_postPayment 57 = .ok (.iload_n 1, 1) := by decide +kernel
theorem dX7_postPayment_58 : decode cX7_postPayment 58 = .ok (.iastore, 1) := by decide +kernel
theorem dX7_postPayment_59 : decode cX7_postPayment 59 = .ok (.aload_n 0, 1) := by decide +kernel
theorem dX7_postPayment_60 : decode cX7_postPayment 60 = .ok (.getfield 54, 3) := by decide +kernel
theorem dX7_postPayment_63 : decode cX7_postPayment 63 = .ok (.aload_n 0, 1) := by decide +kernel
theorem dX7_postPayment_64 : decode cX7_postPayment 64 = .ok (.getfield 89, 3) := by decide +kernel
theorem dX7_postPayment_67 : decode cX7_postPayment 67 = .ok (.iload_n 2, 1) := by decide +kernel
theorem dX7_postPayment_68 : decode cX7_postPayment 68 = .ok (.iastore, 1) := by decide +kernel
theorem dX7_postPayment_69 : decode cX7_postPayment 69 = .ok (.aload_n 0, 1) := by decide +kernel
theorem dX7_postPayment_70 : decode cX7_postPayment 70 = .ok (.dup, 1) := by decide +kernel
theorem dX7_postPayment_71 : decode cX7_postPayment 71 = .ok (.getfield 89, 3) := by decide +kernel
theorem dX7_postPayment_74 : decode cX7_postPayment 74 = .ok (.iconst 1, 1) := by decide +kernel
theorem dX7_postPayment_75 : decode cX7_postPayment 75 = .ok (.iadd, 1) := by decide +kernel
theorem dX7_postPayment_76 : decode cX7_postPayment 76 = .ok (.putfield 89, 3) := by decide +kernel
theorem dX7_postPayment_79 : decode cX7_postPayment 79 = .ok (.aload_n 0, 1) := by decide +kernel
theorem dX7_postPayment_80 : decode cX7_postPayment 80 = .ok (.aload_n 0, 1) := by decide +kernel
theorem dX7_postPayment_81 : decode cX7_postPayment 81 = .ok (.getfield 89, 3) := by decide +kernel
theorem dX7_postPayment_84 : decode cX7_postPayment 84 = .ok (.iconst 1, 1) := by decide +kernel
theorem dX7_postPayment_85 : decode cX7_postPayment 85 = .ok (.isub, 1) := by decide +kernel
theorem dX7_postPayment_86 : decode cX7_postPayment 86 = .ok (.invokevirtual 163, 3) := by decide +kernel
theorem dX7_postPayment_89 : decode cX7_postPayment 89 = .ok (.istore_n 3, 1) := by decide +kernel
theorem dX7_postPayment_90 : decode cX7_postPayment 90 = .ok (.aload_n 0, 1) := by decide +kernel
theorem dX7_postPayment_91 : decode cX7_postPayment 91 = .ok (.getfield 89, 3) := by decide +kernel
theorem dX7_postPayment_94 : decode cX7_postPayment 94 = .ok (.iconst 1, 1) := by decide +kernel
theorem dX7_postPayment_95 : decode cX7_postPayment 95 = .ok (.isub, 1) := by decide +kernel
theorem dX7_postPayment_96 : decode cX7_postPayment 96 = .ok (.ireturn, 1) := by decide +kernel
theorem dX7_allocate_0 : decode cX7_allocate 0 = .ok (.aload_n 0, 1) := by decide +kernel
theorem dX7_allocate_1 : decode cX7_allocate 1 = .ok (.iload_n 1, 1) := by decide +kernel
theorem dX7_allocate_2 : decode cX7_allocate 2 = .ok (.invokevirtual 166, 3) := by decide +kernel
theorem dX7_allocate_5 : decode cX7_allocate 5 = .ok (.ifCond .eq 15, 3) := by decide +kernel
theorem dX7_allocate_8 : decode cX7_allocate 8 = .ok (.aload_n 0, 1) := by decide +kernel
theorem dX7_allocate_9 : decode cX7_allocate 9 = .ok (.iload_n 2, 1) := by decide +kernel
theorem dX7_allocate_10 : decode cX7_allocate 10 = .ok (.invokevirtual 99, 3) := by decide +kernel
theorem dX7_allocate_13 : decode cX7_allocate 13 = .ok (.ifCond .eq 7, 3) := by decide +kernel
theorem dX7_allocate_16 : decode cX7_allocate 16 = .ok (.iconst 1, 1) := by decide +kernel
theorem dX7_allocate_17 : decode cX7_allocate 17 = .ok (.goto 4, 3) := by decide +kernel
theorem dX7_allocate_20 : decode cX7_allocate 20 = .ok (.iconst 0, 1) := by decide +kernel
theorem dX7_allocate_21 : decode cX7_allocate 21 = .ok (.istore 4, 2) := by decide +kernel
theorem dX7_allocate_23 : decode cX7_allocate 23 = .ok (.aload_n 0, 1) := by decide +kernel
theorem dX7_allocate_24 : decode cX7_allocate 24 = .ok (.iload 4, 2) := by decide +kernel
theorem dX7_allocate_26 : decode cX7_allocate 26 = .ok (.ifCond .ne 7, 3) := by decide +kernel
theorem dX7_allocate_29 : decode cX7_allocate 29 = .ok (.iconst 1, 1) := by decide +kernel
theorem dX7_allocate_30 : decode cX7_allocate 30 = .ok (.goto 52, 3) := by decide +kernel
theorem dX7_allocate_33 : decode cX7_allocate 33 = .ok (.iload_n 3, 1) := by decide +kernel
theorem dX7_allocate_34 : decode cX7_allocate 34 = .ok (.iconst 1, 1) := by decide +kernel
theorem dX7_allocate_35 : decode cX7_allocate 35 = .ok (.if_icmp .ge 7, 3) := by decide +kernel
theorem dX7_allocate_38 : decode cX7_allocate 38 = .ok (.iconst 2, 1) := by decide +kernel
theorem dX7_allocate_39 : decode cX7_allocate 39 = .ok (.goto 43, 3) := by decide +kernel
theorem dX7_allocate_42 : decode cX7_allocate 42 = .ok (.aload_n 0, 1) := by decide +kernel
theorem dX7_allocate_43 : decode cX7_allocate 43 = .ok (.getfield 22, 3) := by decide +kernel
theorem dX7_allocate_46 : decode cX7_allocate 46 = .ok (.iload_n 2, 1) := by decide +kernel
theorem dX7_allocate_47 : decode cX7_allocate 47 = .ok (.iaload, 1) := by decide +kernel
theorem dX7_allocate_48 : decode cX7_allocate 48 = .ok (.aload_n 0, 1) := by decide +kernel
theorem dX7_allocate_49 : decode cX7_allocate 49 = .ok (.getfield 51, 3) := by decide +kernel
theorem dX7_allocate_52 : decode cX7_allocate 52 = .ok (.iload_n 1, 1) := by decide +kernel
theorem dX7_allocate_53 : decode cX7_allocate 53 = .ok (.iaload, 1) := by decide +kernel
theorem dX7_allocate_54 : decode cX7_allocate 54 = .ok (.if_icmp .ne 23, 3) := by decide +kernel
theorem dX7_allocate_57 : decode cX7_allocate 57 = .ok (.iload_n 3, 1) := by decide +kernel
theorem dX7_allocate_58 : decode cX7_allocate 58 = .ok (.aload_n 0, 1) := by decide +kernel
theorem dX7_allocate_59 : decode cX7_allocate 59 = .ok (.getfield 54, 3) := by decide +kernel
theorem dX7_allocate_62 : decode cX7_allocate 62 = .ok (.iload_n 1, 1) := by decide +kernel
theorem dX7_allocate_63 : decode cX7_allocate 63 = .ok (.iaload, 1) := by decide +kernel
theorem dX7_allocate_64 : decode cX7_allocate 64 = .ok (.if_icmp .gt 13, 3) := by decide +kernel
theorem dX7_allocate_67 : decode cX7_allocate 67 = .ok (.iload_n 3, 1) := by decide +kernel
theorem dX7_allocate_68 : decode cX7_allocate 68 = .ok (.aload_n 0, 1) := by decide +kernel
theorem dX7_allocate_69 : decode cX7_allocate 69 = .ok (.getfield 31, 3) := by decide +kernel
theorem dX7_allocate_72 : decode cX7_allocate 72 = .ok (.iload_n 2, 1) := by decide +kernel
theorem dX7_allocate_73 : decode cX7_allocate 73 = .ok (.iaload, 1) := by decide +kernel
theorem dX7_allocate_74 : decode cX7_allocate 74 = .ok (.if_icmp .le 7, 3) := by decide +kernel
theorem dX7_allocate_77 : decode cX7_allocate 77 = .ok (.iconst 3, 1) := by decide +kernel
theorem dX7_allocate_78 : decode cX7_allocate 78 = .ok (.goto 4, 3) := by decide +kernel
theorem dX7_allocate_81 : decode cX7_allocate 81 = .ok (.iconst 0, 1) := by decide +kernel
theorem dX7_allocate_82 : decode cX7_allocate 82 = .ok (.invokevirtual 96, 3) := by decide +kernel
theorem dX7_allocate_85 : decode cX7_allocate 85 = .ok (.ifCond .eq 5, 3) := by decide +kernel
theorem dX7_allocate_88 : decode cX7_allocate 88 = .ok (.iconst 0, 1) := by decide +kernel
theorem dX7_allocate_89 : decode cX7_allocate 89 = .ok (.ireturn, 1) := by decide +kernel
theorem dX7_allocate_90 : decode cX7_allocate 90 = .ok (.aload_n 0, 1) := by decide +kernel
theorem dX7_allocate_91 : decode cX7_allocate 91 = .ok (.iload_n 1, 1) := by decide +kernel
theorem dX7_allocate_92 : decode cX7_allocate 92 = .ok (.iload_n 2, 1) := by decide +kernel
theorem dX7_allocate_93 : decode cX7_allocate 93 = .ok (.iload_n 3, 1) := by decide +kernel
theorem dX7_allocate_94 : decode cX7_allocate 94 = .ok (.invokevirtual 159, 3) := by decide +kernel
theorem dX7_allocate_97 : decode cX7_allocate 97 = .ok (.aload_n 0, 1) := by decide +kernel
theorem dX7_allocate_98 : decode cX7_allocate 98 = .ok (.getfield 31, 3) := by decide +kernel
theorem dX7_allocate_101 : decode cX7_allocate 101 = .ok (.iload_n 2, 1) := by decide +kernel
theorem dX7_allocate_102 : decode cX7_allocate 102 = .ok (.iaload, 1) := by decide +kernel
theorem dX7_allocate_103 : decode cX7_allocate 103 = .ok (.ireturn, 1) := by decide +kernel
theorem dX7_allocateRest_0 : decode cX7_allocateRest 0 = .ok (.aload_n 0, 1) := by decide +kernel
theorem dX7_allocateRest_1 : decode cX7_allocateRest 1 = .ok (.iload_n 1, 1) := by decide +kernel
theorem dX7_allocateRest_2 : decode cX7_allocateRest 2 = .ok (.invokevirtual 169, 3) := by decide +kernel
theorem dX7_allocateRest_5 : decode cX7_allocateRest 5 = .ok (.ifCond .eq 5, 3) := by decide +kernel
theorem dX7_allocateRest_8 : decode cX7_allocateRest 8 = .ok (.iconst 0, 1) := by decide +kernel
theorem dX7_allocateRest_9 : decode cX7_allocateRest 9 = .ok (.ireturn, 1) := by decide +kernel
theorem dX7_allocateRest_10 : decode cX7_allocateRest 10 = .ok (.iconst 0, 1) := by decide +kernel
theorem dX7_allocateRest_11 : decode cX7_allocateRest 11 = .ok (.istore_n 2, 1) := by decide +kernel
theorem dX7_allocateRest_12 : decode cX7_allocateRest 12 = .ok (.iconst 0, 1) := by decide +kernel
theorem dX7_allocateRest_13 : decode cX7_allocateRest 13 = .ok (.istore_n 3, 1) := by decide +kernel
theorem dX7_allocateRest_14 : decode cX7_allocateRest 14 = .ok (.iload_n 3, 1) := by decide +kernel
theorem dX7_allocateRest_15 : decode cX7_allocateRest 15 = .ok (.aload_n 0, 1) := by decide +kernel
theorem dX7_allocateRest_16 : decode cX7_allocateRest 16 = .ok (.getfield 89, 3) := by decide +kernel
theorem dX7_allocateRest_19 : decode cX7_allocateRest 19 = .ok (.if_icmp .ge 31, 3) := by decide +kernel
theorem dX7_allocateRest_22 : decode cX7_allocateRest 22 = .ok (.iload_n 2, 1) := by decide +kernel
theorem dX7_allocateRest_23 : decode cX7_allocateRest 23 = .ok (.aload_n 0, 1) := by decide +kernel
theorem dX7_allocateRest_24 : decode cX7_allocateRest 24 = .ok (.getfield 51, 3) := by decide +kernel
theorem dX7_allocateRest_27 : decode cX7_allocateRest 27 = .ok (.iload_n 3, 1) := by decide +kernel
theorem dX7_allocateRest_28 : decode cX7_allocateRest 28 = .ok (.iaload, 1) := by decide +kernel
theorem dX7_allocateRest_29 : decode cX7_allocateRest 29 = .ok (.iload_n 1, 1) := by decide +kernel
theorem dX7_allocateRest_30 : decode cX7_allocateRest 30 = .ok (.if_icmp .ne 11, 3) := by decide +kernel
theorem dX7_allocateRest_33 : decode cX7_allocateRest 33 = .ok (.aload_n 0, 1) := by decide +kernel
theorem dX7_allocateRest_34 : decode cX7_allocateRest 34 = .ok (.iload_n 3, 1) := by decide +kernel
theorem dX7_allocateRest_35 : decode cX7_allocateRest 35 = .ok (.invokevirtual 163, 3) := by decide +kernel
theorem dX7_allocateRest_38 : decode cX7_allocateRest 38 = .ok (.goto 4, 3) := by decide +kernel
theorem dX7_allocateRest_41 : decode cX7_allocateRest 41 = .ok (.iconst 0, 1) := by decide +kernel
theorem dX7_allocateRest_42 : decode cX7_allocateRest 42 = .ok (.iadd, 1) := by decide +kernel
theorem dX7_allocateRest_43 : decode cX7_allocateRest 43 = .ok (.istore_n 2, 1) := by decide +kernel
theorem dX7_allocateRest_44 : decode cX7_allocateRest 44 = .ok (.iinc 3 1, 3) := by decide +kernel
theorem dX7_allocateRest_47 : decode cX7_allocateRest 47 = .ok (.goto (-33), 3) := by decide +kernel
theorem dX7_allocateRest_50 : decode cX7_allocateRest 50 = .ok (.iload_n 2, 1) := by decide +kernel
theorem dX7_allocateRest_51 : decode cX7_allocateRest 51 = .ok (.ireturn, 1) := by decide +kernel
theorem dX7_takeBack_0 : decode cX7_takeBack 0 = .ok (.aload_n 0, 1) := by decide +kernel
theorem dX7_takeBack_1 : decode cX7_takeBack 1 = .ok (.getfield 60, 3) := by decide +kernel
theorem dX7_takeBack_4 : decode cX7_takeBack 4 = .ok (.bipush 24, 2) := by decide +kernel
theorem dX7_takeBack_6 : decode cX7_takeBack 6 = .ok (.iload_n 1, 1) := by decide +kernel
theorem dX7_takeBack_7 : decode cX7_takeBack 7 = .ok (.imul, 1) := by decide +kernel
theorem dX7_takeBack_8 : decode cX7_takeBack 8 = .ok (.iload_n 2, 1) := by decide +kernel
theorem dX7_takeBack_9 : decode cX7_takeBack 9 = .ok (.iadd, 1) := by decide +kernel
theorem dX7_takeBack_10 : decode cX7_takeBack 10 = .ok (.iaload, 1) := by decide +kernel
theorem dX7_takeBack_11 : decode cX7_takeBack 11 = .ok (.istore_n 3, 1) := by decide +kernel
theorem dX7_takeBack_12 : decode cX7_takeBack 12 = .ok (.aload_n 0, 1) := by decide +kernel
theorem dX7_takeBack_13 : decode cX7_takeBack 13 = .ok (.getfield 60, 3) := by decide +kernel
theorem dX7_takeBack_16 : decode cX7_takeBack 16 = .ok (.bipush 24, 2) := by decide +kernel
theorem dX7_takeBack_18 : decode cX7_takeBack 18 = .ok (.iload_n 1, 1) := by decide +kernel
theorem dX7_takeBack_19 : decode cX7_takeBack 19 = .ok (.imul, 1) := by decide +kernel
theorem dX7_takeBack_20 : decode cX7_takeBack 20 = .ok (.iload_n 2, 1) := by decide +kernel
theorem dX7_takeBack_21 : decode cX7_takeBack 21 = .ok (.iadd, 1) := by decide +kernel
theorem dX7_takeBack_22 : decode cX7_takeBack 22 = .ok (.iconst 0, 1) := by decide +kernel
theorem dX7_takeBack_23 : decode cX7_takeBack 23 = .ok (.iastore, 1) := by decide +kernel
theorem dX7_takeBack_24 : decode cX7_takeBack 24 = .ok (.aload_n 0, 1) := by decide +kernel
theorem dX7_takeBack_25 : decode cX7_takeBack 25 = .ok (.getfield 54, 3) := by decide +kernel
theorem dX7_takeBack_28 : decode cX7_takeBack 28 = .ok (.iload_n 1, 1) := by decide +kernel
theorem dX7_takeBack_29 : decode cX7_takeBack 29 = .ok (.dup2, 1) := by decide +kernel
theorem dX7_takeBack_30 : decode cX7_takeBack 30 = .ok (.iaload, 1) := by decide +kernel
theorem dX7_takeBack_31 : decode cX7_takeBack 31 = .ok (.iload_n 3, 1) := by decide +kernel
theorem dX7_takeBack_32 : decode cX7_takeBack 32 = .ok (.iadd, 1) := by decide +kernel
theorem dX7_takeBack_33 : decode cX7_takeBack 33 = .ok (.iastore, 1) := by decide +kernel
theorem dX7_takeBack_34 : decode cX7_takeBack 34 = .ok (.aload_n 0, 1) := by decide +kernel
theorem dX7_takeBack_35 : decode cX7_takeBack 35 = .ok (.getfield 31, 3) := by decide +kernel
theorem dX7_takeBack_38 : decode cX7_takeBack 38 = .ok (.iload_n 2, 1) := by decide +kernel
theorem dX7_takeBack_39 : decode cX7_takeBack 39 = .ok (.dup2, 1) := by decide +kernel
theorem dX7_takeBack_40 : decode cX7_takeBack 40 = .ok (.iaload, 1) := by decide +kernel
theorem dX7_takeBack_41 : decode cX7_takeBack 41 = .ok (.iload_n 3, 1) := by decide +kernel
theorem dX7_takeBack_42 : decode cX7_takeBack 42 = .ok (.iadd, 1) := by decide +kernel
theorem dX7_takeBack_43 : decode cX7_takeBack 43 = .ok (.iastore, 1) := by decide +kernel
theorem dX7_takeBack_44 : decode cX7_takeBack 44 = .ok (.aload_n 0, 1) := by decide +kernel
theorem dX7_takeBack_45 : decode cX7_takeBack 45 = .ok (.iload_n 2, 1) := by decide +kernel
theorem dX7_takeBack_46 : decode cX7_takeBack 46 = .ok (.iload_n 3, 1) := by decide +kernel
theorem dX7_takeBack_47 : decode cX7_takeBack 47 = .ok (.invokevirtual 137, 3) := by decide +kernel
theorem dX7_takeBack_50 : decode cX7_takeBack 50 = .ok (.iload_n 3, 1) := by decide +kernel
theorem dX7_takeBack_51 : decode cX7_takeBack 51 = .ok (.ireturn, 1) := by decide +kernel
theorem dX7_release_0 : decode cX7_release 0 = .ok (.aload_n 0, 1) := by decide +kernel
theorem dX7_release_1 : decode cX7_release 1 = .ok (.aload_n 0, 1) := by decide +kernel
theorem dX7_release_2 : decode cX7_release 2 = .ok (.iload_n 1, 1) := by decide +kernel
theorem dX7_release_3 : decode cX7_release 3 = .ok (.invokevirtual 166, 3) := by decide +kernel
theorem dX7_release_6 : decode cX7_release 6 = .ok (.ifCond .eq 15, 3) := by decide +kernel
theorem dX7_release_9 : decode cX7_release 9 = .ok (.aload_n 0, 1) := by decide +kernel
theorem dX7_release_10 : decode cX7_release 10 = .ok (.iload_n 2, 1) := by decide +kernel
theorem dX7_release_11 : decode cX7_release 11 = .ok (.invokevirtual 99, 3) := by decide +kernel
theorem dX7_release_14 : decode cX7_release 14 = .ok (.ifCond .eq 7, 3) := by decide +kernel
theorem dX7_release_17 : decode cX7_release 17 = .ok (.iconst 0, 1) := by decide +kernel
theorem dX7_release_18 : decode cX7_release 18 = .ok (.goto 4, 3) := by decide +kernel
theorem dX7_release_21 : decode cX7_release 21 = .ok (.iconst 1, 1) := by decide +kernel
theorem dX7_release_22 : decode cX7_release 22 = .ok (.invokevirtual 96, 3) := by decide +kernel
theorem dX7_release_25 : decode cX7_release 25 = .ok (.ifCond .eq 7, 3) := by decide +kernel
theorem dX7_release_28 : decode cX7_release 28 = .ok (.iconst 0, 1) := by decide +kernel
theorem dX7_release_29 : decode cX7_release 29 = .ok (.goto 9, 3) := by decide +kernel
theorem dX7_release_32 : decode cX7_release 32 = .ok (.aload_n 0, 1) := by decide +kernel
theorem dX7_release_33 : decode cX7_release 33 = .ok (.iload_n 1, 1) := by decide +kernel
theorem dX7_release_34 : decode cX7_release 34 = .ok (.iload_n 2, 1) := by decide +kernel
theorem dX7_release_35 : decode cX7_release 35 = .ok (.invokevirtual 172, 3) := by decide +kernel
theorem dX7_release_38 : decode cX7_release 38 = .ok (.ireturn, 1) := by decide +kernel
theorem dX7_reverse_0 : decode cX7_reverse 0 = .ok (.aload_n 0, 1) := by decide +kernel
theorem dX7_reverse_1 : decode cX7_reverse 1 = .ok (.aload_n 0, 1) := by decide +kernel
theorem dX7_reverse_2 : decode cX7_reverse 2 = .ok (.iload_n 1, 1) := by decide +kernel
theorem dX7_reverse_3 : decode cX7_reverse 3 = .ok (.invokevirtual 166, 3) := by decide +kernel
theorem dX7_reverse_6 : decode cX7_reverse 6 = .ok (.ifCond .ne 7, 3) := by decide +kernel
theorem dX7_reverse_9 : decode cX7_reverse 9 = .ok (.iconst 1, 1) := by decide +kernel
theorem dX7_reverse_10 : decode cX7_reverse 10 = .ok (.goto 17, 3) := by decide +kernel
theorem dX7_reverse_13 : decode cX7_reverse 13 = .ok (.aload_n 0, 1) := by decide +kernel
theorem dX7_reverse_14 : decode cX7_reverse 14 = .ok (.getfield 57, 3) := by decide +kernel
theorem dX7_reverse_17 : decode cX7_reverse 17 = .ok (.iload_n 1, 1) := by decide +kernel
theorem dX7_reverse_18 : decode cX7_reverse 18 = .ok (.baload, 1) := by decide +kernel
theorem dX7_reverse_19 : decode cX7_reverse 19 = .ok (.ifCond .eq 7, 3) := by decide +kernel
theorem dX7_reverse_22 : decode cX7_reverse 22 = .ok (.iconst 2, 1) := by decide +kernel
theorem dX7_reverse_23 : decode cX7_reverse 23 = .ok (.goto 4, 3) := by decide +kernel
theorem dX7_reverse_26 : decode cX7_reverse 26 = .ok (.iconst 0, 1) := by decide +kernel
theorem dX7_reverse_27 : decode cX7_reverse 27 = .ok (.invokevirtual 96, 3) := by decide +kernel
theorem dX7_reverse_30 : decode cX7_reverse 30 = .ok (.ifCond .eq 5, 3) := by decide +kernel
theorem dX7_reverse_33 : decode cX7_reverse 33 = .ok (.iconst 0, 1) := by decide +kernel
theorem dX7_reverse_34 : decode cX7_reverse 34 = .ok (.ireturn, 1) := by decide +kernel
theorem dX7_reverse_35 : decode cX7_reverse 35 = .ok (.iconst 0, 1) := by decide +kernel
theorem dX7_reverse_36 : decode cX7_reverse 36 = .ok (.istore_n 2, 1) := by decide +kernel
theorem dX7_reverse_37 : decode cX7_reverse 37 = .ok (.iconst 0, 1) := by decide +kernel
theorem dX7_reverse_38 : decode cX7_reverse 38 = .ok (.istore_n 3, 1) := by decide +kernel
theorem dX7_reverse_39 : decode cX7_reverse 39 = .ok (.iload_n 3, 1) := by decide +kernel
theorem dX7_reverse_40 : decode cX7_reverse 40 = .ok (.aload_n 0, 1) := by decide +kernel
theorem dX7_reverse_41 : decode cX7_reverse 41 = .ok (.getfield 86, 3) := by decide +kernel
theorem dX7_reverse_44 : decode cX7_reverse 44 = .ok (.if_icmp .ge 18, 3) := by decide +kernel
theorem dX7_reverse_47 : decode cX7_reverse 47 = .ok (.iload_n 2, 1) := by decide +kernel
theorem dX7_reverse_48 : decode cX7_reverse 48 = .ok (.aload_n 0, 1) := by decide +kernel
theorem dX7_reverse_49 : decode cX7_reverse 49 = .ok (.iload_n 1, 1) := by decide +kernel
theorem dX7_reverse_50 : decode cX7_reverse 50 = .ok (.iload_n 3, 1) := by decide +kernel
theorem dX7_reverse_51 : decode cX7_reverse 51 = .ok (.invokevirtual 172, 3) := by decide +kernel
theorem dX7_reverse_54 : decode cX7_reverse 54 = .ok (.iadd, 1) := by decide +kernel
theorem dX7_reverse_55 : decode cX7_reverse 55 = .ok (.istore_n 2, 1) := by decide +kernel
theorem dX7_reverse_56 : decode cX7_reverse 56 = .ok (.iinc 3 1, 3) := by decide +kernel
theorem dX7_reverse_59 : decode cX7_reverse 59 = .ok (.goto (-20), 3) := by decide +kernel
theorem dX7_reverse_62 : decode cX7_reverse 62 = .ok (.aload_n 0, 1) := by decide +kernel
theorem dX7_reverse_63 : decode cX7_reverse 63 = .ok (.getfield 54, 3) := by decide +kernel
theorem dX7_reverse_66 : decode cX7_reverse 66 = .ok (.iload_n 1, 1) := by decide +kernel
theorem dX7_reverse_67 : decode cX7_reverse 67 = .ok (.iconst 0, 1) := by decide +kernel
theorem dX7_reverse_68 : decode cX7_reverse 68 = .ok (.iastore, 1) := by decide +kernel
theorem dX7_reverse_69 : decode cX7_reverse 69 = .ok (.aload_n 0, 1) := by decide +kernel
theorem dX7_reverse_70 : decode cX7_reverse 70 = .ok (.getfield 57, 3) := by decide +kernel
theorem dX7_reverse_73 : decode cX7_reverse 73 = .ok (.iload_n 1, 1) := by decide +kernel
theorem dX7_reverse_74 : decode cX7_reverse 74 = .ok (.iconst 1, 1) := by decide +kernel
theorem dX7_reverse_75 : decode cX7_reverse 75 = .ok (.bastore, 1) := by decide +kernel
theorem dX7_reverse_76 : decode cX7_reverse 76 = .ok (.iload_n 2, 1) := by decide +kernel
theorem dX7_reverse_77 : decode cX7_reverse 77 = .ok (.ireturn, 1) := by decide +kernel
theorem dX7_dispute_0 : decode cX7_dispute 0 = .ok (.aload_n 0, 1) := by decide +kernel
theorem dX7_dispute_1 : decode cX7_dispute 1 = .ok (.aload_n 0, 1) := by decide +kernel
theorem dX7_dispute_2 : decode cX7_dispute 2 = .ok (.iload_n 1, 1) := by decide +kernel
theorem dX7_dispute_3 : decode cX7_dispute 3 = .ok (.invokevirtual 99, 3) := by decide +kernel
theorem dX7_dispute_6 : decode cX7_dispute 6 = .ok (.ifCond .ne 7, 3) := by decide +kernel
theorem dX7_dispute_9 : decode cX7_dispute 9 = .ok (.iconst 1, 1) := by decide +kernel
theorem dX7_dispute_10 : decode cX7_dispute 10 = .ok (.goto 26, 3) := by decide +kernel
theorem dX7_dispute_13 : decode cX7_dispute 13 = .ok (.iload_n 2, 1) := by decide +kernel
theorem dX7_dispute_14 : decode cX7_dispute 14 = .ok (.iconst 1, 1) := by decide +kernel
theorem dX7_dispute_15 : decode cX7_dispute 15 = .ok (.if_icmp .ge 7, 3) := by decide +kernel
theorem dX7_dispute_18 : decode cX7_dispute 18 = .ok (.iconst 2, 1) := by decide +kernel
theorem dX7_dispute_19 : decode cX7_dispute 19 = .ok (.goto 17, 3) := by decide +kernel
theorem dX7_dispute_22 : decode cX7_dispute 22 = .ok (.iload_n 2, 1) := by decide +kernel
theorem dX7_dispute_23 : decode cX7_dispute 23 = .ok (.aload_n 0, 1) := by decide +kernel
theorem dX7_dispute_24 : decode cX7_dispute 24 = .ok (.iload_n 1, 1) := by decide +kernel
theorem dX7_dispute_25 : decode cX7_dispute 25 = .ok (.invokevirtual 115, 3) := by decide +kernel
theorem dX7_dispute_28 : decode cX7_dispute 28 = .ok (.if_icmp .le 7, 3) := by decide +kernel
theorem dX7_dispute_31 : decode cX7_dispute 31 = .ok (.iconst 3, 1) := by decide +kernel
theorem dX7_dispute_32 : decode cX7_dispute 32 = .ok (.goto 4, 3) := by decide +kernel
theorem dX7_dispute_35 : decode cX7_dispute 35 = .ok (.iconst 0, 1) := by decide +kernel
theorem dX7_dispute_36 : decode cX7_dispute 36 = .ok (.invokevirtual 96, 3) := by decide +kernel
theorem dX7_dispute_39 : decode cX7_dispute 39 = .ok (.ifCond .eq 5, 3) := by decide +kernel
theorem dX7_dispute_42 : decode cX7_dispute 42 = .ok (.iconst 0, 1) := by decide +kernel
theorem dX7_dispute_43 : decode cX7_dispute 43 = .ok (.ireturn, 1) := by decide +kernel
theorem dX7_dispute_44 : decode cX7_dispute 44 = .ok (.aload_n 0, 1) := by decide +kernel
theorem dX7_dispute_45 : decode cX7_dispute 45 = .ok (.getfield 34, 3) := by decide +kernel
theorem dX7_dispute_48 : decode cX7_dispute 48 = .ok (.iload_n 1, 1) := by decide +kernel
theorem dX7_dispute_49 : decode cX7_dispute 49 = .ok (.dup2, 1) := by decide +kernel
theorem dX7_dispute_50 : decode cX7_dispute 50 = .ok (.iaload, 1) := by decide +kernel
theorem dX7_dispute_51 : decode cX7_dispute 51 = .ok (.iload_n 2, 1) := by decide +kernel
theorem dX7_dispute_52 : decode cX7_dispute 52 = .ok (.iadd, 1) := by decide +kernel
theorem dX7_dispute_53 : decode cX7_dispute 53 = .ok (.iastore, 1) := by decide +kernel
theorem dX7_dispute_54 : decode cX7_dispute 54 = .ok (.aload_n 0, 1) := by decide +kernel
theorem dX7_dispute_55 : decode cX7_dispute 55 = .ok (.getfield 34, 3) := by decide +kernel
theorem dX7_dispute_58 : decode cX7_dispute 58 = .ok (.iload_n 1, 1) := by decide +kernel
theorem dX7_dispute_59 : decode cX7_dispute 59 = .ok (.iaload, 1) := by decide +kernel
theorem dX7_dispute_60 : decode cX7_dispute 60 = .ok (.ireturn, 1) := by decide +kernel
theorem dX7_disputeAll_0 : decode cX7_disputeAll 0 = .ok (.aload_n 0, 1) := by decide +kernel
theorem dX7_disputeAll_1 : decode cX7_disputeAll 1 = .ok (.aload_n 0, 1) := by decide +kernel
theorem dX7_disputeAll_2 : decode cX7_disputeAll 2 = .ok (.iload_n 1, 1) := by decide +kernel
theorem dX7_disputeAll_3 : decode cX7_disputeAll 3 = .ok (.invokevirtual 92, 3) := by decide +kernel
theorem dX7_disputeAll_6 : decode cX7_disputeAll 6 = .ok (.ifCond .ne 7, 3) := by decide +kernel
theorem dX7_disputeAll_9 : decode cX7_disputeAll 9 = .ok (.iconst 1, 1) := by decide +kernel
theorem dX7_disputeAll_10 : decode cX7_disputeAll 10 = .ok (.goto 28, 3) := by decide +kernel
theorem dX7_disputeAll_13 : decode cX7_disputeAll 13 = .ok (.iload_n 2, 1) := by decide +kernel
theorem dX7_disputeAll_14 : decode cX7_disputeAll 14 = .ok (.iconst 1, 1) := by decide +kernel
theorem dX7_disputeAll_15 : decode cX7_disputeAll 15 = .ok (.if_icmp .ge 7, 3) := by decide +kernel
theorem dX7_disputeAll_18 : decode cX7_disputeAll 18 = .ok (.iconst 2, 1) := by decide +kernel
theorem dX7_disputeAll_19 : decode cX7_disputeAll 19 = .ok (.goto 19, 3) := by decide +kernel
theorem dX7_disputeAll_22 : decode cX7_disputeAll 22 = .ok (.iload_n 2, 1) := by decide +kernel
theorem dX7_disputeAll_23 : decode cX7_disputeAll 23 = .ok (.i2l, 1) := by decide +kernel
theorem dX7_disputeAll_24 : decode cX7_disputeAll 24 = .ok (.aload_n 0, 1) := by decide +kernel
theorem dX7_disputeAll_25 : decode cX7_disputeAll 25 = .ok (.iload_n 1, 1) := by decide +kernel
theorem dX7_disputeAll_26 : decode cX7_disputeAll 26 = .ok (.invokevirtual 146, 3) := by decide +kernel
theorem dX7_disputeAll_29 : decode cX7_disputeAll 29 = .ok (.lcmp, 1) := by decide +kernel
theorem dX7_disputeAll_30 : decode cX7_disputeAll 30 = .ok (.ifCond .le 7, 3) := by decide +kernel
theorem dX7_disputeAll_33 : decode cX7_disputeAll 33 = .ok (.iconst 3, 1) := by decide +kernel
theorem dX7_disputeAll_34 : decode cX7_disputeAll 34 = .ok (.goto 4, 3) := by decide +kernel
theorem dX7_disputeAll_37 : decode cX7_disputeAll 37 = .ok (.iconst 0, 1) := by decide +kernel
theorem dX7_disputeAll_38 : decode cX7_disputeAll 38 = .ok (.invokevirtual 96, 3) := by decide +kernel
theorem dX7_disputeAll_41 : decode cX7_disputeAll 41 = .ok (.ifCond .eq 5, 3) := by decide +kernel
theorem dX7_disputeAll_44 : decode cX7_disputeAll 44 = .ok (.iconst 0, 1) := by decide +kernel
theorem dX7_disputeAll_45 : decode cX7_disputeAll 45 = .ok (.ireturn, 1) := by decide +kernel
theorem dX7_disputeAll_46 : decode cX7_disputeAll 46 = .ok (.aload_n 0, 1) := by decide +kernel
theorem dX7_disputeAll_47 : decode cX7_disputeAll 47 = .ok (.iload_n 1, 1) := by decide +kernel
theorem dX7_disputeAll_48 : decode cX7_disputeAll 48 = .ok (.iload_n 2, 1) := by decide +kernel
theorem dX7_disputeAll_49 : decode cX7_disputeAll 49 = .ok (.invokevirtual 150, 3) := by decide +kernel
theorem dX7_disputeAll_52 : decode cX7_disputeAll 52 = .ok (.iconst 0, 1) := by decide +kernel
theorem dX7_disputeAll_53 : decode cX7_disputeAll 53 = .ok (.istore_n 3, 1) := by decide +kernel
theorem dX7_disputeAll_54 : decode cX7_disputeAll 54 = .ok (.iconst 0, 1) := by decide +kernel
theorem dX7_disputeAll_55 : decode cX7_disputeAll 55 = .ok (.istore 4, 2) := by decide +kernel
theorem dX7_disputeAll_57 : decode cX7_disputeAll 57 = .ok (.iload 4, 2) := by decide +kernel
theorem dX7_disputeAll_59 : decode cX7_disputeAll 59 = .ok (.aload_n 0, 1) := by decide +kernel
theorem dX7_disputeAll_60 : decode cX7_disputeAll 60 = .ok (.getfield 86, 3) := by decide +kernel
theorem dX7_disputeAll_63 : decode cX7_disputeAll 63 = .ok (.if_icmp .ge 44, 3) := by decide +kernel
theorem dX7_disputeAll_66 : decode cX7_disputeAll 66 = .ok (.aload_n 0, 1) := by decide +kernel
theorem dX7_disputeAll_67 : decode cX7_disputeAll 67 = .ok (.getfield 34, 3) := by decide +kernel
theorem dX7_disputeAll_70 : decode cX7_disputeAll 70 = .ok (.iload 4, 2) := by decide +kernel
theorem dX7_disputeAll_72 : decode cX7_disputeAll 72 = .ok (.dup2, 1) := by decide +kernel
theorem dX7_disputeAll_73 : decode cX7_disputeAll 73 = .ok (.iaload, 1) := by decide +kernel
theorem dX7_disputeAll_74 : decode cX7_disputeAll 74 = .ok (.aload_n 0, 1) := by decide +kernel
theorem dX7_disputeAll_75 : decode cX7_disputeAll 75 = .ok (.getfield 69, 3) := by decide +kernel
theorem dX7_disputeAll_78 : decode cX7_disputeAll 78 = .ok (.iload 4, 2) := by decide +kernel
theorem dX7_disputeAll_80 : decode cX7_disputeAll 80 = .ok (.iaload, 1) := by decide +kernel
theorem dX7_disputeAll_81 : decode cX7_disputeAll 81 = .ok (.iadd, 1) := by decide +kernel
theorem dX7_disputeAll_82 : decode cX7_disputeAll 82 = .ok (.iastore, 1) := by decide +kernel
theorem dX7_disputeAll_83 : decode cX7_disputeAll 83 = .ok (.iload_n 3, 1) := by decide +kernel
theorem dX7_disputeAll_84 : decode cX7_disputeAll 84 = .ok (.aload_n 0, 1) := by decide +kernel
theorem dX7_disputeAll_85 : decode cX7_disputeAll 85 = .ok (.getfield 69, 3) := by decide +kernel
theorem dX7_disputeAll_88 : decode cX7_disputeAll 88 = .ok (.iload 4, 2) := by decide +kernel
theorem dX7_disputeAll_90 : decode cX7_disputeAll 90 = .ok (.iaload, 1) := by decide +kernel
theorem dX7_disputeAll_91 : decode cX7_disputeAll 91 = .ok (.ifCond .le 7, 3) := by decide +kernel
theorem dX7_disputeAll_94 : decode cX7_disputeAll 94 = .ok (.iconst 1, 1) := by decide +kernel
theorem dX7_disputeAll_95 : decode cX7_disputeAll 95 = .ok (.goto 4, 3) := by decide +kernel
theorem dX7_disputeAll_98 : decode cX7_disputeAll 98 = .ok (.iconst 0, 1) := by decide +kernel
theorem dX7_disputeAll_99 : decode cX7_disputeAll 99 = .ok (.iadd, 1) := by decide +kernel
theorem dX7_disputeAll_100 : decode cX7_disputeAll 100 = .ok (.istore_n 3, 1) := by decide +kernel
theorem dX7_disputeAll_101 : decode cX7_disputeAll 101 = .ok (.iinc 4 1, 3) := by decide +kernel
theorem dX7_disputeAll_104 : decode cX7_disputeAll 104 = .ok (.goto (-47), 3) := by decide +kernel
theorem dX7_disputeAll_107 : decode cX7_disputeAll 107 = .ok (.iload_n 3, 1) := by decide +kernel
theorem dX7_disputeAll_108 : decode cX7_disputeAll 108 = .ok (.ireturn, 1) := by decide +kernel
theorem dX7_settle_0 : decode cX7_settle 0 = .ok (.aload_n 0, 1) := by decide +kernel
theorem dX7_settle_1 : decode cX7_settle 1 = .ok (.aload_n 0, 1) := by decide +kernel
theorem dX7_settle_2 : decode cX7_settle 2 = .ok (.iload_n 1, 1) := by decide +kernel
theorem dX7_settle_3 : decode cX7_settle 3 = .ok (.invokevirtual 99, 3) := by decide +kernel
theorem dX7_settle_6 : decode cX7_settle 6 = .ok (.ifCond .ne 7, 3) := by decide +kernel
theorem dX7_settle_9 : decode cX7_settle 9 = .ok (.iconst 1, 1) := by decide +kernel
theorem dX7_settle_10 : decode cX7_settle 10 = .ok (.goto 35, 3) := by decide +kernel
theorem dX7_settle_13 : decode cX7_settle 13 = .ok (.aload_n 0, 1) := by decide +kernel
theorem dX7_settle_14 : decode cX7_settle 14 = .ok (.getfield 34, 3) := by decide +kernel
theorem dX7_settle_17 : decode cX7_settle 17 = .ok (.iload_n 1, 1) := by decide +kernel
theorem dX7_settle_18 : decode cX7_settle 18 = .ok (.iaload, 1) := by decide +kernel
theorem dX7_settle_19 : decode cX7_settle 19 = .ok (.ifCond .ne 7, 3) := by decide +kernel
theorem dX7_settle_22 : decode cX7_settle 22 = .ok (.iconst 2, 1) := by decide +kernel
theorem dX7_settle_23 : decode cX7_settle 23 = .ok (.goto 22, 3) := by decide +kernel
theorem dX7_settle_26 : decode cX7_settle 26 = .ok (.iload_n 2, 1) := by decide +kernel
theorem dX7_settle_27 : decode cX7_settle 27 = .ok (.iconst 0, 1) := by decide +kernel
theorem dX7_settle_28 : decode cX7_settle 28 = .ok (.aload_n 0, 1) := by decide +kernel
theorem dX7_settle_29 : decode cX7_settle 29 = .ok (.getfield 34, 3) := by decide +kernel
theorem dX7_settle_32 : decode cX7_settle 32 = .ok (.iload_n 1, 1) := by decide +kernel
theorem dX7_settle_33 : decode cX7_settle 33 = .ok (.iaload, 1) := by decide +kernel
theorem dX7_settle_34 : decode cX7_settle 34 = .ok (.invokestatic 82, 3) := by decide +kernel
theorem dX7_settle_37 : decode cX7_settle 37 = .ok (.ifCond .ne 7, 3) := by decide +kernel
theorem dX7_settle_40 : decode cX7_settle 40 = .ok (.iconst 3, 1) := by decide +kernel
theorem dX7_settle_41 : decode cX7_settle 41 = .ok (.goto 4, 3) := by decide +kernel
theorem dX7_settle_44 : decode cX7_settle 44 = .ok (.iconst 0, 1) := by decide +kernel
theorem dX7_settle_45 : decode cX7_settle 45 = .ok (.invokevirtual 96, 3) := by decide +kernel
theorem dX7_settle_48 : decode cX7_settle 48 = .ok (.ifCond .eq 5, 3) := by decide +kernel
theorem dX7_settle_51 : decode cX7_settle 51 = .ok (.iconst 0, 1) := by decide +kernel
theorem dX7_settle_52 : decode cX7_settle 52 = .ok (.ireturn, 1) := by decide +kernel
theorem dX7_settle_53 : decode cX7_settle 53 = .ok (.aload_n 0, 1) := by decide +kernel
theorem dX7_settle_54 : decode cX7_settle 54 = .ok (.getfield 31, 3) := by decide +kernel
theorem dX7_settle_57 : decode cX7_settle 57 = .ok (.iload_n 1, 1) := by decide +kernel
theorem dX7_settle_58 : decode cX7_settle 58 = .ok (.dup2, 1) := by decide +kernel
theorem dX7_settle_59 : decode cX7_settle 59 = .ok (.iaload, 1) := by decide +kernel
theorem dX7_settle_60 : decode cX7_settle 60 = .ok (.iload_n 2, 1) := by decide +kernel
theorem dX7_settle_61 : decode cX7_settle 61 = .ok (.isub, 1) := by decide +kernel
theorem dX7_settle_62 : decode cX7_settle 62 = .ok (.iastore, 1) := by decide +kernel
theorem dX7_settle_63 : decode cX7_settle 63 = .ok (.aload_n 0, 1) := by decide +kernel
theorem dX7_settle_64 : decode cX7_settle 64 = .ok (.getfield 34, 3) := by decide +kernel
theorem dX7_settle_67 : decode cX7_settle 67 = .ok (.iload_n 1, 1) := by decide +kernel
theorem dX7_settle_68 : decode cX7_settle 68 = .ok (.iconst 0, 1) := by decide +kernel
theorem dX7_settle_69 : decode cX7_settle 69 = .ok (.iastore, 1) := by decide +kernel
theorem dX7_settle_70 : decode cX7_settle 70 = .ok (.aload_n 0, 1) := by decide +kernel
theorem dX7_settle_71 : decode cX7_settle 71 = .ok (.getfield 31, 3) := by decide +kernel
theorem dX7_settle_74 : decode cX7_settle 74 = .ok (.iload_n 1, 1) := by decide +kernel
theorem dX7_settle_75 : decode cX7_settle 75 = .ok (.iaload, 1) := by decide +kernel
theorem dX7_settle_76 : decode cX7_settle 76 = .ok (.ifCond .ne 17, 3) := by decide +kernel
theorem dX7_settle_79 : decode cX7_settle 79 = .ok (.aload_n 0, 1) := by decide +kernel
theorem dX7_settle_80 : decode cX7_settle 80 = .ok (.getfield 45, 3) := by decide +kernel
theorem dX7_settle_83 : decode cX7_settle 83 = .ok (.iload_n 1, 1) := by decide +kernel
theorem dX7_settle_84 : decode cX7_settle 84 = .ok (.iconst 0, 1) := by decide +kernel
theorem dX7_settle_85 : decode cX7_settle 85 = .ok (.iastore, 1) := by decide +kernel
theorem dX7_settle_86 : decode cX7_settle 86 = .ok (.aload_n 0, 1) := by decide +kernel
theorem dX7_settle_87 : decode cX7_settle 87 = .ok (.getfield 48, 3) := by decide +kernel
theorem dX7_settle_90 : decode cX7_settle 90 = .ok (.iload_n 1, 1) := by decide +kernel
theorem dX7_settle_91 : decode cX7_settle 91 = .ok (.iconst 0, 1) := by decide +kernel
theorem dX7_settle_92 : decode cX7_settle 92 = .ok (.iastore, 1) := by decide +kernel
theorem dX7_settle_93 : decode cX7_settle 93 = .ok (.aload_n 0, 1) := by decide +kernel
theorem dX7_settle_94 : decode cX7_settle 94 = .ok (.iload_n 1, 1) := by decide +kernel
theorem dX7_settle_95 : decode cX7_settle 95 = .ok (.iload_n 2, 1) := by decide +kernel
theorem dX7_settle_96 : decode cX7_settle 96 = .ok (.ineg, 1) := by decide +kernel
theorem dX7_settle_97 : decode cX7_settle 97 = .ok (.invokevirtual 137, 3) := by decide +kernel
theorem dX7_settle_100 : decode cX7_settle 100 = .ok (.aload_n 0, 1) := by decide +kernel
theorem dX7_settle_101 : decode cX7_settle 101 = .ok (.getfield 31, 3) := by decide +kernel
theorem dX7_settle_104 : decode cX7_settle 104 = .ok (.iload_n 1, 1) := by decide +kernel
theorem dX7_settle_105 : decode cX7_settle 105 = .ok (.iaload, 1) := by decide +kernel
theorem dX7_settle_106 : decode cX7_settle 106 = .ok (.ireturn, 1) := by decide +kernel
theorem dX7_accruedOf_0 : decode cX7_accruedOf 0 = .ok (.aload_n 0, 1) := by decide +kernel
theorem dX7_accruedOf_1 : decode cX7_accruedOf 1 = .ok (.getfield 37, 3) := by decide +kernel
theorem dX7_accruedOf_4 : decode cX7_accruedOf 4 = .ok (.iload_n 1, 1) := by decide +kernel
theorem dX7_accruedOf_5 : decode cX7_accruedOf 5 = .ok (.laload, 1) := by decide +kernel
theorem dX7_accruedOf_6 : decode cX7_accruedOf 6 = .ok (.aload_n 0, 1) := by decide +kernel
theorem dX7_accruedOf_7 : decode cX7_accruedOf 7 = .ok (.getfield 13, 3) := by decide +kernel
theorem dX7_accruedOf_10 : decode cX7_accruedOf 10 = .ok (.aload_n 0, 1) := by decide +kernel
theorem dX7_accruedOf_11 : decode cX7_accruedOf 11 = .ok (.getfield 22, 3) := by decide +kernel
theorem dX7_accruedOf_14 : decode cX7_accruedOf 14 = .ok (.iload_n 1, 1) := by decide +kernel
theorem dX7_accruedOf_15 : decode cX7_accruedOf 15 = .ok (.iaload, 1) := by decide +kernel
theorem dX7_accruedOf_16 : decode cX7_accruedOf 16 = .ok (.iaload, 1) := by decide +kernel
theorem dX7_accruedOf_17 : decode cX7_accruedOf 17 = .ok (.invokestatic 175, 3) := by decide +kernel
theorem dX7_accruedOf_20 : decode cX7_accruedOf 20 = .ok (.ldiv, 1) := by decide +kernel
theorem dX7_accruedOf_21 : decode cX7_accruedOf 21 = .ok (.l2i, 1) := by decide +kernel
theorem dX7_accruedOf_22 : decode cX7_accruedOf 22 = .ok (.ireturn, 1) := by decide +kernel
theorem dX7_chargeInterest_0 : decode cX7_chargeInterest 0 = .ok (.iload_n 2, 1) := by decide +kernel
theorem dX7_chargeInterest_1 : decode cX7_chargeInterest 1 = .ok (.iconst 0, 1) := by decide +kernel
theorem dX7_chargeInterest_2 : decode cX7_chargeInterest 2 = .ok (.bipush 120, 2) := by decide +kernel
theorem dX7_chargeInterest_4 : decode cX7_chargeInterest 4 = .ok (.invokestatic 82, 3) := by decide +kernel
theorem dX7_chargeInterest_7 : decode cX7_chargeInterest 7 = .ok (.istore_n 3, 1) := by decide +kernel
theorem dX7_chargeInterest_8 : decode cX7_chargeInterest 8 = .ok (.iconst 0, 1) := by decide +kernel
theorem dX7_chargeInterest_9 : decode cX7_chargeInterest 9 = .ok (.istore 4, 2) := by decide +kernel
theorem dX7_chargeInterest_11 : decode cX7_chargeInterest 11 = .ok (.iconst 0, 1) := by decide +kernel
theorem dX7_chargeInterest_12 : decode cX7_chargeInterest 12 = .ok (.istore 5, 2) := by decide +kernel
theorem dX7_chargeInterest_14 : decode cX7_chargeInterest 14 = .ok (.iload 5, 2) := by decide +kernel
theorem dX7_chargeInterest_16 : decode cX7_chargeInterest 16 = .ok (.aload_n 0, 1) := by decide +kernel
theorem dX7_chargeInterest_17 : decode cX7_chargeInterest 17 = .ok (.getfield 86, 3) := by decide +kernel
theorem dX7_chargeInterest_20 : decode cX7_chargeInterest 20 = .ok (.if_icmp .ge 43, 3) := by decide +kernel
theorem dX7_chargeInterest_23 : decode cX7_chargeInterest 23 = .ok (.aload_n 0, 1) := by decide +kernel
theorem dX7_chargeInterest_24 : decode cX7_chargeInterest 24 = .ok (.iload_n 1, 1) := by decide +kernel
theorem dX7_chargeInterest_25 : decode cX7_chargeInterest 25 = .ok (.invokevirtual 92, 3) := by decide +kernel
theorem dX7_chargeInterest_28 : decode cX7_chargeInterest 28 = .ok (.ifCond .eq 35, 3) := by decide +kernel
theorem dX7_chargeInterest_31 : decode cX7_chargeInterest 31 = .ok (.iload 4, 2) := by decide +kernel
theorem dX7_chargeInterest_33 : decode cX7_chargeInterest 33 = .ok (.aload_n 0, 1) := by decide +kernel
theorem dX7_chargeInterest_34 : decode cX7_chargeInterest 34 = .ok (.getfield 22, 3) := by decide +kernel
theorem dX7_chargeInterest_37 : decode cX7_chargeInterest 37 = .ok (.iload 5, 2) := by decide +kernel
theorem dX7_chargeInterest_39 : decode cX7_chargeInterest 39 = .ok (.iaload, 1) := by decide +kernel
theorem dX7_chargeInterest_40 : decode cX7_chargeInterest 40 = .ok (.iload_n 1, 1) := by decide +kernel
theorem dX7_chargeInterest_41 : decode cX7_chargeInterest 41 = .ok (.if_icmp .ne 12, 3) := by decide +kernel
theorem dX7_chargeInterest_44 : decode cX7_chargeInterest 44 = .ok (.aload_n 0, 1) := by decide +kernel
theorem dX7_chargeInterest_45 : decode cX7_chargeInterest 45 = .ok (.iload 5, 2) := by decide +kernel
theorem dX7_chargeInterest_47 : decode cX7_chargeInterest 47 = .ok (.invokevirtual 178, 3) := by decide +kernel
theorem dX7_chargeInterest_50 : decode cX7_chargeInterest 50 = .ok (.goto 4, 3) := by decide +kernel
theorem dX7_chargeInterest_53 : decode cX7_chargeInterest 53 = .ok (.iconst 0, 1) := by decide +kernel
theorem dX7_chargeInterest_54 : decode cX7_chargeInterest 54 = .ok (.iadd, 1) := by decide +kernel
theorem dX7_chargeInterest_55 : decode cX7_chargeInterest 55 = .ok (.istore 4, 2) := by decide +kernel
theorem dX7_chargeInterest_57 : decode cX7_chargeInterest 57 = .ok (.iinc 5 1, 3) := by decide +kernel
theorem dX7_chargeInterest_60 : decode cX7_chargeInterest 60 = .ok (.goto (-46), 3) := by decide +kernel
theorem dX7_chargeInterest_63 : decode cX7_chargeInterest 63 = .ok (.aload_n 0, 1) := by decide +kernel
theorem dX7_chargeInterest_64 : decode cX7_chargeInterest 64 = .ok (.aload_n 0, 1) := by decide +kernel
theorem dX7_chargeInterest_65 : decode cX7_chargeInterest 65 = .ok (.iload_n 1, 1) := by decide +kernel
theorem dX7_chargeInterest_66 : decode cX7_chargeInterest 66 = .ok (.invokevirtual 92, 3) := by decide +kernel
theorem dX7_chargeInterest_69 : decode cX7_chargeInterest 69 = .ok (.ifCond .ne 7, 3) := by decide +kernel
theorem dX7_chargeInterest_72 : decode cX7_chargeInterest 72 = .ok (.iconst 1, 1) := by decide +kernel
theorem dX7_chargeInterest_73 : decode cX7_chargeInterest 73 = .ok (.goto 30, 3) := by decide +kernel
theorem dX7_chargeInterest_76 : decode cX7_chargeInterest 76 = .ok (.iload_n 3, 1) := by decide +kernel
theorem dX7_chargeInterest_77 : decode cX7_chargeInterest 77 = .ok (.ifCond .ne 7, 3) := by decide +kernel
theorem dX7_chargeInterest_80 : decode cX7_chargeInterest 80 = .ok (.iconst 2, 1) := by decide +kernel
theorem dX7_chargeInterest_81 : decode cX7_chargeInterest 81 = .ok (.goto 22, 3) := by decide +kernel
theorem dX7_chargeInterest_84 : decode cX7_chargeInterest 84 = .ok (.iload 4, 2) := by decide +kernel
theorem dX7_chargeInterest_86 : decode cX7_chargeInterest 86 = .ok (.ifCond .le 16, 3) := by decide +kernel
theorem dX7_chargeInterest_89 : decode cX7_chargeInterest 89 = .ok (.aload_n 0, 1) := by decide +kernel
theorem dX7_chargeInterest_90 : decode cX7_chargeInterest 90 = .ok (.getfield 86, 3) := by decide +kernel
theorem dX7_chargeInterest_93 : decode cX7_chargeInterest 93 = .ok (.bipush 24, 2) := by decide +kernel
theorem dX7_chargeInterest_95 : decode cX7_chargeInterest 95 = .ok (.if_icmp .ne 7, 3) := by decide +kernel
theorem dX7_chargeInterest_98 : decode cX7_chargeInterest 98 = .ok (.iconst 3, 1) := by decide +kernel
theorem dX7_chargeInterest_99 : decode cX7_chargeInterest 99 = .ok (.goto 4, 3) := by decide +kernel
theorem dX7_chargeInterest_102 : decode cX7_chargeInterest 102 = .ok (.iconst 0, 1) := by decide +kernel
theorem dX7_chargeInterest_103 : decode cX7_chargeInterest 103 = .ok (.invokevirtual 96, 3) := by decide +kernel
theorem dX7_chargeInterest_106 : decode cX7_chargeInterest 106 = .ok (.ifCond .eq 5, 3) := by decide +kernel
theorem dX7_chargeInterest_109 : decode cX7_chargeInterest 109 = .ok (.iconst 0, 1) := by decide +kernel
theorem dX7_chargeInterest_110 : decode cX7_chargeInterest 110 = .ok (.ireturn, 1) := by decide +kernel
theorem dX7_chargeInterest_111 : decode cX7_chargeInterest 111 = .ok (.iload 4, 2) := by decide +kernel
theorem dX7_chargeInterest_113 : decode cX7_chargeInterest 113 = .ok (.ifCond .ne 5, 3) := by decide +kernel
theorem dX7_chargeInterest_116 : decode cX7_chargeInterest 116 = .ok (.iconst (-1), 1) := by decide +kernel
theorem dX7_chargeInterest_117 : decode cX7_chargeInterest 117 = .ok (.ireturn, 1) := by decide +kernel
theorem dX7_chargeInterest_118 : decode cX7_chargeInterest 118 = .ok (.iconst 0, 1) := by decide +kernel
theorem dX7_chargeInterest_119 : decode cX7_chargeInterest 119 = .ok (.istore 5, 2) := by decide +kernel
theorem dX7_chargeInterest_121 : decode cX7_chargeInterest 121 = .ok (.iload 5, 2) := by decide +kernel
theorem dX7_chargeInterest_123 : decode cX7_chargeInterest 123 = .ok (.aload_n 0, 1) := by decide +kernel
theorem dX7_chargeInterest_124 : decode cX7_chargeInterest 124 = .ok (.getfield 86, 3) := by decide +kernel
theorem dX7_chargeInterest_127 : decode cX7_chargeInterest 127 = .ok (.if_icmp .ge 51, 3) := by decide +kernel
theorem dX7_chargeInterest_130 : decode cX7_chargeInterest 130 = .ok (.aload_n 0, 1) := by decide +kernel
theorem dX7_chargeInterest_131 : decode cX7_chargeInterest 131 = .ok (.getfield 37, 3) := by decide +kernel
theorem dX7_chargeInterest_134 : decode cX7_chargeInterest 134 = .ok (.iload 5, 2) := by decide +kernel
theorem dX7_chargeInterest_136 : decode cX7_chargeInterest 136 = .ok (.dup2, 1) := by decide +kernel
theorem dX7_chargeInterest_137 : decode cX7_chargeInterest 137 = .ok (.laload, 1) := by decide +kernel
theorem dX7_chargeInterest_138 : decode cX7_chargeInterest 138 = .ok (.aload_n 0, 1) := by decide +kernel
theorem dX7_chargeInterest_139 : decode cX7_chargeInterest 139 = .ok (.getfield 22, 3) := by decide +kernel
theorem dX7_chargeInterest_142 : decode cX7_chargeInterest 142 = .ok (.iload 5, 2) := by decide +kernel
theorem dX7_chargeInterest_144 : decode cX7_chargeInterest 144 = .ok (.iaload, 1) := by decide +kernel
theorem dX7_chargeInterest_145 : decode cX7_chargeInterest 145 = .ok (.iload_n 1, 1) := by decide +kernel
theorem dX7_chargeInterest_146 : decode cX7_chargeInterest 146 = .ok (.if_icmp .ne 23, 3) := by decide +kernel
theorem dX7_chargeInterest_149 : decode cX7_chargeInterest 149 = .ok (.aload_n 0, 1) := by decide +kernel
theorem dX7_chargeInterest_150 : decode cX7_chargeInterest 150 = .ok (.iload 5, 2) := by decide +kernel
theorem dX7_chargeInterest_152 : decode cX7_chargeInterest 152 = .ok (.invokevirtual 178, 3) := by decide +kernel
theorem dX7_chargeInterest_155 : decode cX7_chargeInterest 155 = .ok (.i2l, 1) := by decide +kernel
theorem dX7_chargeInterest_156 : decode cX7_chargeInterest 156 = .ok (.aload_n 0, 1) := by decide +kernel
theorem dX7_chargeInterest_157 : decode cX7_chargeInterest 157 = .ok (.getfield 13, 3) := by decide +kernel
theorem dX7_chargeInterest_160 : decode cX7_chargeInterest 160 = .ok (.iload_n 1, 1) := by decide +kernel
theorem dX7_chargeInterest_161 : decode cX7_chargeInterest 161 = .ok (.iaload, 1) := by decide +kernel
theorem dX7_chargeInterest_162 : decode cX7_chargeInterest 162 = .ok (.invokestatic 175, 3) := by decide +kernel
theorem dX7_chargeInterest_165 : decode cX7_chargeInterest 165 = .ok (.lmul, 1) := by decide +kernel
theorem dX7_chargeInterest_166 : decode cX7_chargeInterest 166 = .ok (.goto 4, 3) := by decide +kernel
theorem dX7_chargeInterest_169 : decode cX7_chargeInterest 169 = .ok (.lconst 0, 1) := by decide +kernel
theorem dX7_chargeInterest_170 : decode cX7_chargeInterest 170 = .ok (.lsub, 1) := by decide +kernel
theorem dX7_chargeInterest_171 : decode cX7_chargeInterest 171 = .ok (.lastore, 1) := by decide +kernel
theorem dX7_chargeInterest_172 : decode cX7_chargeInterest 172 = .ok (.iinc 5 1, 3) := by decide +kernel
theorem dX7_chargeInterest_175 : decode cX7_chargeInterest 175 = .ok (.goto (-54), 3) := by decide +kernel
theorem dX7_chargeInterest_178 : decode cX7_chargeInterest 178 = .ok (.aload_n 0, 1) := by decide +kernel
theorem dX7_chargeInterest_179 : decode cX7_chargeInterest 179 = .ok (.iload_n 1, 1) := by decide +kernel
theorem dX7_chargeInterest_180 : decode cX7_chargeInterest 180 = .ok (.iload 4, 2) := by decide +kernel
theorem dX7_chargeInterest_182 : decode cX7_chargeInterest 182 = .ok (.iload_n 2, 1) := by decide +kernel
theorem dX7_chargeInterest_183 : decode cX7_chargeInterest 183 = .ok (.iconst 1, 1) := by decide +kernel
theorem dX7_chargeInterest_184 : decode cX7_chargeInterest 184 = .ok (.invokevirtual 142, 3) := by decide +kernel
theorem dX7_chargeInterest_187 : decode cX7_chargeInterest 187 = .ok (.ireturn, 1) := by decide +kernel
theorem dX7_accrued_0 : decode cX7_accrued 0 = .ok (.aload_n 0, 1) := by decide +kernel
theorem dX7_accrued_1 : decode cX7_accrued 1 = .ok (.iload_n 1, 1) := by decide +kernel
theorem dX7_accrued_2 : decode cX7_accrued 2 = .ok (.invokevirtual 181, 3) := by decide +kernel
theorem dX7_accrued_5 : decode cX7_accrued 5 = .ok (.ifCond .eq 7, 3) := by decide +kernel
theorem dX7_accrued_8 : decode cX7_accrued 8 = .ok (.iconst 0, 1) := by decide +kernel
theorem dX7_accrued_9 : decode cX7_accrued 9 = .ok (.goto 8, 3) := by decide +kernel
theorem dX7_accrued_12 : decode cX7_accrued 12 = .ok (.aload_n 0, 1) := by decide +kernel
theorem dX7_accrued_13 : decode cX7_accrued 13 = .ok (.iload_n 1, 1) := by decide +kernel
theorem dX7_accrued_14 : decode cX7_accrued 14 = .ok (.invokevirtual 178, 3) := by decide +kernel
theorem dX7_accrued_17 : decode cX7_accrued 17 = .ok (.ireturn, 1) := by decide +kernel
theorem dX7_isInterest_0 : decode cX7_isInterest 0 = .ok (.aload_n 0, 1) := by decide +kernel
theorem dX7_isInterest_1 : decode cX7_isInterest 1 = .ok (.iload_n 1, 1) := by decide +kernel
theorem dX7_isInterest_2 : decode cX7_isInterest 2 = .ok (.invokevirtual 181, 3) := by decide +kernel
theorem dX7_isInterest_5 : decode cX7_isInterest 5 = .ok (.ifCond .ne 16, 3) := by decide +kernel
theorem dX7_isInterest_8 : decode cX7_isInterest 8 = .ok (.aload_n 0, 1) := by decide +kernel
theorem dX7_isInterest_9 : decode cX7_isInterest 9 = .ok (.getfield 41, 3) := by decide +kernel
theorem dX7_isInterest_12 : decode cX7_isInterest 12 = .ok (.iload_n 1, 1) := by decide +kernel
theorem dX7_isInterest_13 : decode cX7_isInterest 13 = .ok (.baload, 1) := by decide +kernel
theorem dX7_isInterest_14 : decode cX7_isInterest 14 = .ok (.ifCond .eq 7, 3) := by decide +kernel
theorem dX7_isInterest_17 : decode cX7_isInterest 17 = .ok (.iconst 1, 1) := by decide +kernel
theorem dX7_isInterest_18 : decode cX7_isInterest 18 = .ok (.goto 4, 3) := by decide +kernel
theorem dX7_isInterest_21 : decode cX7_isInterest 21 = .ok (.iconst 0, 1) := by decide +kernel
theorem dX7_isInterest_22 : decode cX7_isInterest 22 = .ok (.ireturn, 1) := by decide +kernel
theorem dX7_customers_0 : decode cX7_customers 0 = .ok (.aload_n 0, 1) := by decide +kernel
theorem dX7_customers_1 : decode cX7_customers 1 = .ok (.aload_n 0, 1) := by decide +kernel
theorem dX7_customers_2 : decode cX7_customers 2 = .ok (.getfield 79, 3) := by decide +kernel
theorem dX7_customers_5 : decode cX7_customers 5 = .ok (.invokevirtual 128, 3) := by decide +kernel
theorem dX7_customers_8 : decode cX7_customers 8 = .ok (.ireturn, 1) := by decide +kernel
theorem dX7_invoices_0 : decode cX7_invoices 0 = .ok (.aload_n 0, 1) := by decide +kernel
theorem dX7_invoices_1 : decode cX7_invoices 1 = .ok (.aload_n 0, 1) := by decide +kernel
theorem dX7_invoices_2 : decode cX7_invoices 2 = .ok (.getfield 86, 3) := by decide +kernel
theorem dX7_invoices_5 : decode cX7_invoices 5 = .ok (.invokevirtual 128, 3) := by decide +kernel
theorem dX7_invoices_8 : decode cX7_invoices 8 = .ok (.ireturn, 1) := by decide +kernel
theorem dX7_payments_0 : decode cX7_payments 0 = .ok (.aload_n 0, 1) := by decide +kernel
theorem dX7_payments_1 : decode cX7_payments 1 = .ok (.aload_n 0, 1) := by decide +kernel
theorem dX7_payments_2 : decode cX7_payments 2 = .ok (.getfield 89, 3) := by decide +kernel
theorem dX7_payments_5 : decode cX7_payments 5 = .ok (.invokevirtual 128, 3) := by decide +kernel
theorem dX7_payments_8 : decode cX7_payments 8 = .ok (.ireturn, 1) := by decide +kernel
theorem dX7_amountOf_0 : decode cX7_amountOf 0 = .ok (.aload_n 0, 1) := by decide +kernel
theorem dX7_amountOf_1 : decode cX7_amountOf 1 = .ok (.iload_n 1, 1) := by decide +kernel
theorem dX7_amountOf_2 : decode cX7_amountOf 2 = .ok (.invokevirtual 181, 3) := by decide +kernel
theorem dX7_amountOf_5 : decode cX7_amountOf 5 = .ok (.ifCond .eq 7, 3) := by decide +kernel
theorem dX7_amountOf_8 : decode cX7_amountOf 8 = .ok (.iconst 0, 1) := by decide +kernel
theorem dX7_amountOf_9 : decode cX7_amountOf 9 = .ok (.goto 9, 3) := by decide +kernel
theorem dX7_amountOf_12 : decode cX7_amountOf 12 = .ok (.aload_n 0, 1) := by decide +kernel
theorem dX7_amountOf_13 : decode cX7_amountOf 13 = .ok (.getfield 25, 3) := by decide +kernel
theorem dX7_amountOf_16 : decode cX7_amountOf 16 = .ok (.iload_n 1, 1) := by decide +kernel
theorem dX7_amountOf_17 : decode cX7_amountOf 17 = .ok (.iaload, 1) := by decide +kernel
theorem dX7_amountOf_18 : decode cX7_amountOf 18 = .ok (.ireturn, 1) := by decide +kernel
theorem dX7_dueDay_0 : decode cX7_dueDay 0 = .ok (.aload_n 0, 1) := by decide +kernel
theorem dX7_dueDay_1 : decode cX7_dueDay 1 = .ok (.iload_n 1, 1) := by decide +kernel
theorem dX7_dueDay_2 : decode cX7_dueDay 2 = .ok (.invokevirtual 181, 3) := by decide +kernel
theorem dX7_dueDay_5 : decode cX7_dueDay 5 = .ok (.ifCond .eq 7, 3) := by decide +kernel
theorem dX7_dueDay_8 : decode cX7_dueDay 8 = .ok (.iconst 0, 1) := by decide +kernel
theorem dX7_dueDay_9 : decode cX7_dueDay 9 = .ok (.goto 9, 3) := by decide +kernel
theorem dX7_dueDay_12 : decode cX7_dueDay 12 = .ok (.aload_n 0, 1) := by decide +kernel
theorem dX7_dueDay_13 : decode cX7_dueDay 13 = .ok (.getfield 28, 3) := by decide +kernel
theorem dX7_dueDay_16 : decode cX7_dueDay 16 = .ok (.iload_n 1, 1) := by decide +kernel
theorem dX7_dueDay_17 : decode cX7_dueDay 17 = .ok (.iaload, 1) := by decide +kernel
theorem dX7_dueDay_18 : decode cX7_dueDay 18 = .ok (.ireturn, 1) := by decide +kernel
theorem dX7_openOf_0 : decode cX7_openOf 0 = .ok (.aload_n 0, 1) := by decide +kernel
theorem dX7_openOf_1 : decode cX7_openOf 1 = .ok (.iload_n 1, 1) := by decide +kernel
theorem dX7_openOf_2 : decode cX7_openOf 2 = .ok (.invokevirtual 181, 3) := by decide +kernel
theorem dX7_openOf_5 : decode cX7_openOf 5 = .ok (.ifCond .eq 7, 3) := by decide +kernel
theorem dX7_openOf_8 : decode cX7_openOf 8 = .ok (.iconst 0, 1) := by decide +kernel
theorem dX7_openOf_9 : decode cX7_openOf 9 = .ok (.goto 9, 3) := by decide +kernel
theorem dX7_openOf_12 : decode cX7_openOf 12 = .ok (.aload_n 0, 1) := by decide +kernel
theorem dX7_openOf_13 : decode cX7_openOf 13 = .ok (.getfield 31, 3) := by decide +kernel
theorem dX7_openOf_16 : decode cX7_openOf 16 = .ok (.iload_n 1, 1) := by decide +kernel
theorem dX7_openOf_17 : decode cX7_openOf 17 = .ok (.iaload, 1) := by decide +kernel
theorem dX7_openOf_18 : decode cX7_openOf 18 = .ok (.ireturn, 1) := by decide +kernel
theorem dX7_openByLedger_0 : decode cX7_openByLedger 0 = .ok (.aload_n 0, 1) := by decide +kernel
theorem dX7_openByLedger_1 : decode cX7_openByLedger 1 = .ok (.iload_n 1, 1) := by decide +kernel
theorem dX7_openByLedger_2 : decode cX7_openByLedger 2 = .ok (.invokevirtual 181, 3) := by decide +kernel
theorem dX7_openByLedger_5 : decode cX7_openByLedger 5 = .ok (.ifCond .eq 5, 3) := by decide +kernel
theorem dX7_openByLedger_8 : decode cX7_openByLedger 8 = .ok (.iconst 0, 1) := by decide +kernel
theorem dX7_openByLedger_9 : decode cX7_openByLedger 9 = .ok (.ireturn, 1) := by decide +kernel
theorem dX7_openByLedger_10 : decode cX7_openByLedger 10 = .ok (.iconst 0, 1) := by decide +kernel
theorem dX7_openByLedger_11 : decode cX7_openByLedger 11 = .ok (.istore_n 2, 1) := by decide +kernel
theorem dX7_openByLedger_12 : decode cX7_openByLedger 12 = .ok (.iconst 0, 1) := by decide +kernel
theorem dX7_openByLedger_13 : decode cX7_openByLedger 13 = .ok (.istore_n 3, 1) := by decide +kernel
theorem dX7_openByLedger_14 : decode cX7_openByLedger 14 = .ok (.iload_n 3, 1) := by decide +kernel
theorem dX7_openByLedger_15 : decode cX7_openByLedger 15 = .ok (.aload_n 0, 1) := by decide +kernel
theorem dX7_openByLedger_16 : decode cX7_openByLedger 16 = .ok (.getfield 134, 3) := by decide +kernel
theorem dX7_openByLedger_19 : decode cX7_openByLedger 19 = .ok (.if_icmp .ge 32, 3) := by decide +kernel
theorem dX7_openByLedger_22 : decode cX7_openByLedger 22 = .ok (.iload_n 2, 1) := by decide +kernel
theorem dX7_openByLedger_23 : decode cX7_openByLedger 23 = .ok (.aload_n 0, 1) := by decide +kernel
theorem dX7_openByLedger_24 : decode cX7_openByLedger 24 = .ok (.getfield 63, 3) := by decide +kernel
theorem dX7_openByLedger_27 : decode cX7_openByLedger 27 = .ok (.iload_n 3, 1) := by decide +kernel
theorem dX7_openByLedger_28 : decode cX7_openByLedger 28 = .ok (.iaload, 1) := by decide +kernel
theorem dX7_openByLedger_29 : decode cX7_openByLedger 29 = .ok (.iload_n 1, 1) := by decide +kernel
theorem dX7_openByLedger_30 : decode cX7_openByLedger 30 = .ok (.if_icmp .ne 12, 3) := by decide +kernel
theorem dX7_openByLedger_33 : decode cX7_openByLedger 33 = .ok (.aload_n 0, 1) := by decide +kernel
theorem dX7_openByLedger_34 : decode cX7_openByLedger 34 = .ok (.getfield 66, 3) := by decide +kernel
theorem dX7_openByLedger_37 : decode cX7_openByLedger 37 = .ok (.iload_n 3, 1) := by decide +kernel
theorem dX7_openByLedger_38 : decode cX7_openByLedger 38 = .ok (.iaload, 1) := by decide +kernel
theorem dX7_openByLedger_39 : decode cX7_openByLedger 39 = .ok (.goto 4, 3) := by decide +kernel
theorem dX7_openByLedger_42 : decode cX7_openByLedger 42 = .ok (.iconst 0, 1) := by decide +kernel
theorem dX7_openByLedger_43 : decode cX7_openByLedger 43 = .ok (.iadd, 1) := by decide +kernel
theorem dX7_openByLedger_44 : decode cX7_openByLedger 44 = .ok (.istore_n 2, 1) := by decide +kernel
theorem dX7_openByLedger_45 : decode cX7_openByLedger 45 = .ok (.iinc 3 1, 3) := by decide +kernel
theorem dX7_openByLedger_48 : decode cX7_openByLedger 48 = .ok (.goto (-34), 3) := by decide +kernel
theorem dX7_openByLedger_51 : decode cX7_openByLedger 51 = .ok (.iload_n 2, 1) := by decide +kernel
theorem dX7_openByLedger_52 : decode cX7_openByLedger 52 = .ok (.ireturn, 1) := by decide +kernel
theorem dX7_disputedOf_0 : decode cX7_disputedOf 0 = .ok (.aload_n 0, 1) := by decide +kernel
theorem dX7_disputedOf_1 : decode cX7_disputedOf 1 = .ok (.iload_n 1, 1) := by decide +kernel
theorem dX7_disputedOf_2 : decode cX7_disputedOf 2 = .ok (.invokevirtual 181, 3) := by decide +kernel
theorem dX7_disputedOf_5 : decode cX7_disputedOf 5 = .ok (.ifCond .eq 7, 3) := by decide +kernel
theorem dX7_disputedOf_8 : decode cX7_disputedOf 8 = .ok (.iconst 0, 1) := by decide +kernel
theorem dX7_disputedOf_9 : decode cX7_disputedOf 9 = .ok (.goto 9, 3) := by decide +kernel
theorem dX7_disputedOf_12 : decode cX7_disputedOf 12 = .ok (.aload_n 0, 1) := by decide +kernel
theorem dX7_disputedOf_13 : decode cX7_disputedOf 13 = .ok (.getfield 34, 3) := by decide +kernel
theorem dX7_disputedOf_16 : decode cX7_disputedOf 16 = .ok (.iload_n 1, 1) := by decide +kernel
theorem dX7_disputedOf_17 : decode cX7_disputedOf 17 = .ok (.iaload, 1) := by decide +kernel
theorem dX7_disputedOf_18 : decode cX7_disputedOf 18 = .ok (.ireturn, 1) := by decide +kernel
theorem dX7_allocated_0 : decode cX7_allocated 0 = .ok (.aload_n 0, 1) := by decide +kernel
theorem dX7_allocated_1 : decode cX7_allocated 1 = .ok (.aload_n 0, 1) := by decide +kernel
theorem dX7_allocated_2 : decode cX7_allocated 2 = .ok (.iload_n 1, 1) := by decide +kernel
theorem dX7_allocated_3 : decode cX7_allocated 3 = .ok (.invokevirtual 166, 3) := by decide +kernel
theorem dX7_allocated_6 : decode cX7_allocated 6 = .ok (.ifCond .eq 15, 3) := by decide +kernel
theorem dX7_allocated_9 : decode cX7_allocated 9 = .ok (.aload_n 0, 1) := by decide +kernel
theorem dX7_allocated_10 : decode cX7_allocated 10 = .ok (.iload_n 2, 1) := by decide +kernel
theorem dX7_allocated_11 : decode cX7_allocated 11 = .ok (.invokevirtual 99, 3) := by decide +kernel
theorem dX7_allocated_14 : decode cX7_allocated 14 = .ok (.ifCond .eq 7, 3) := by decide +kernel
theorem dX7_allocated_17 : decode cX7_allocated 17 = .ok (.iconst 0, 1) := by decide +kernel
theorem dX7_allocated_18 : decode cX7_allocated 18 = .ok (.goto 4, 3) := by decide +kernel
theorem dX7_allocated_21 : decode cX7_allocated 21 = .ok (.iconst 1, 1) := by decide +kernel
theorem dX7_allocated_22 : decode cX7_allocated 22 = .ok (.invokevirtual 96, 3) := by decide +kernel
theorem dX7_allocated_25 : decode cX7_allocated 25 = .ok (.ifCond .eq 7, 3) := by decide +kernel
theorem dX7_allocated_28 : decode cX7_allocated 28 = .ok (.iconst 0, 1) := by decide +kernel
theorem dX7_allocated_29 : decode cX7_allocated 29 = .ok (.goto 14, 3) := by decide +kernel
theorem dX7_allocated_32 : decode cX7_allocated 32 = .ok (.aload_n 0, 1) := by decide +kernel
theorem dX7_allocated_33 : decode cX7_allocated 33 = .ok (.getfield 60, 3) := by decide +kernel
theorem dX7_allocated_36 : decode cX7_allocated 36 = .ok (.bipush 24, 2) := by decide +kernel
theorem dX7_allocated_38 : decode cX7_allocated 38 = .ok (.iload_n 1, 1) := by decide +kernel
theorem dX7_allocated_39 : decode cX7_allocated 39 = .ok (.imul, 1) := by decide +kernel
theorem dX7_allocated_40 : decode cX7_allocated 40 = .ok (.iload_n 2, 1) := by decide +kernel
theorem dX7_allocated_41 : decode cX7_allocated 41 = .ok (.iadd, 1) := by decide +kernel
theorem dX7_allocated_42 : decode cX7_allocated 42 = .ok (.iaload, 1) := by decide +kernel
theorem dX7_allocated_43 : decode cX7_allocated 43 = .ok (.ireturn, 1) := by decide +kernel
theorem dX7_unallocated_0 : decode cX7_unallocated 0 = .ok (.aload_n 0, 1) := by decide +kernel
theorem dX7_unallocated_1 : decode cX7_unallocated 1 = .ok (.aload_n 0, 1) := by decide +kernel
theorem dX7_unallocated_2 : decode cX7_unallocated 2 = .ok (.iload_n 1, 1) := by decide +kernel
theorem dX7_unallocated_3 : decode cX7_unallocated 3 = .ok (.invokevirtual 166, 3) := by decide +kernel
theorem dX7_unallocated_6 : decode cX7_unallocated 6 = .ok (.ifCond .eq 7, 3) := by decide +kernel
theorem dX7_unallocated_9 : decode cX7_unallocated 9 = .ok (.iconst 0, 1) := by decide +kernel
theorem dX7_unallocated_10 : decode cX7_unallocated 10 = .ok (.goto 4, 3) := by decide +kernel
theorem dX7_unallocated_13 : decode cX7_unallocated 13 = .ok (.iconst 1, 1) := by decide +kernel
theorem dX7_unallocated_14 : decode cX7_unallocated 14 = .ok (.invokevirtual 96, 3) := by decide +kernel
theorem dX7_unallocated_17 : decode cX7_unallocated 17 = .ok (.ifCond .eq 7, 3) := by decide +kernel
theorem dX7_unallocated_20 : decode cX7_unallocated 20 = .ok (.iconst 0, 1) := by decide +kernel
theorem dX7_unallocated_21 : decode cX7_unallocated 21 = .ok (.goto 9, 3) := by decide +kernel
theorem dX7_unallocated_24 : decode cX7_unallocated 24 = .ok (.aload_n 0, 1) := by decide +kernel
theorem dX7_unallocated_25 : decode cX7_unallocated 25 = .ok (.getfield 54, 3) := by decide +kernel
theorem dX7_unallocated_28 : decode cX7_unallocated 28 = .ok (.iload_n 1, 1) := by decide +kernel
theorem dX7_unallocated_29 : decode cX7_unallocated 29 = .ok (.iaload, 1) := by decide +kernel
theorem dX7_unallocated_30 : decode cX7_unallocated 30 = .ok (.ireturn, 1) := by decide +kernel
theorem dX7_balance_0 : decode cX7_balance 0 = .ok (.aload_n 0, 1) := by decide +kernel
theorem dX7_balance_1 : decode cX7_balance 1 = .ok (.iload_n 1, 1) := by decide +kernel
theorem dX7_balance_2 : decode cX7_balance 2 = .ok (.invokevirtual 169, 3) := by decide +kernel
theorem dX7_balance_5 : decode cX7_balance 5 = .ok (.ifCond .eq 5, 3) := by decide +kernel
theorem dX7_balance_8 : decode cX7_balance 8 = .ok (.iconst 0, 1) := by decide +kernel
theorem dX7_balance_9 : decode cX7_balance 9 = .ok (.ireturn, 1) := by decide +kernel
theorem dX7_balance_10 : decode cX7_balance 10 = .ok (.iconst 0, 1) := by decide +kernel
theorem dX7_balance_11 : decode cX7_balance 11 = .ok (.istore_n 2, 1) := by decide +kernel
theorem dX7_balance_12 : decode cX7_balance 12 = .ok (.iconst 0, 1) := by decide +kernel
theorem dX7_balance_13 : decode cX7_balance 13 = .ok (.istore_n 3, 1) := by decide +kernel
theorem dX7_balance_14 : decode cX7_balance 14 = .ok (.iload_n 3, 1) := by decide +kernel
theorem dX7_balance_15 : decode cX7_balance 15 = .ok (.aload_n 0, 1) := by decide +kernel
theorem dX7_balance_16 : decode cX7_balance 16 = .ok (.getfield 86, 3) := by decide +kernel
theorem dX7_balance_19 : decode cX7_balance 19 = .ok (.if_icmp .ge 32, 3) := by decide +kernel
theorem dX7_balance_22 : decode cX7_balance 22 = .ok (.iload_n 2, 1) := by decide +kernel
theorem dX7_balance_23 : decode cX7_balance 23 = .ok (.aload_n 0, 1) := by decide +kernel
theorem dX7_balance_24 : decode cX7_balance 24 = .ok (.getfield 22, 3) := by decide +kernel
theorem dX7_balance_27 : decode cX7_balance 27 = .ok (.iload_n 3, 1) := by decide +kernel
theorem dX7_balance_28 : decode cX7_balance 28 = .ok (.iaload, 1) := by decide +kernel
theorem dX7_balance_29 : decode cX7_balance 29 = .ok (.iload_n 1, 1) := by decide +kernel
theorem dX7_balance_30 : decode cX7_balance 30 = .ok (.if_icmp .ne 12, 3) := by decide +kernel
theorem dX7_balance_33 : decode cX7_balance 33 = .ok (.aload_n 0, 1) := by decide +kernel
theorem dX7_balance_34 : decode cX7_balance 34 = .ok (.getfield 31, 3) := by decide +kernel
theorem dX7_balance_37 : decode cX7_balance 37 = .ok (.iload_n 3, 1) := by decide +kernel
theorem dX7_balance_38 : decode cX7_balance 38 = .ok (.iaload, 1) := by decide +kernel
theorem dX7_balance_39 : decode cX7_balance 39 = .ok (.goto 4, 3) := by decide +kernel
theorem dX7_balance_42 : decode cX7_balance 42 = .ok (.iconst 0, 1) := by decide +kernel
theorem dX7_balance_43 : decode cX7_balance 43 = .ok (.iadd, 1) := by decide +kernel
theorem dX7_balance_44 : decode cX7_balance 44 = .ok (.istore_n 2, 1) := by decide +kernel
theorem dX7_balance_45 : decode cX7_balance 45 = .ok (.iinc 3 1, 3) := by decide +kernel
theorem dX7_balance_48 : decode cX7_balance 48 = .ok (.goto (-34), 3) := by decide +kernel
theorem dX7_balance_51 : decode cX7_balance 51 = .ok (.iconst 0, 1) := by decide +kernel
theorem dX7_balance_52 : decode cX7_balance 52 = .ok (.istore_n 3, 1) := by decide +kernel
theorem dX7_balance_53 : decode cX7_balance 53 = .ok (.iload_n 3, 1) := by decide +kernel
theorem dX7_balance_54 : decode cX7_balance 54 = .ok (.aload_n 0, 1) := by decide +kernel
theorem dX7_balance_55 : decode cX7_balance 55 = .ok (.getfield 89, 3) := by decide +kernel
theorem dX7_balance_58 : decode cX7_balance 58 = .ok (.if_icmp .ge 32, 3) := by decide +kernel
theorem dX7_balance_61 : decode cX7_balance 61 = .ok (.iload_n 2, 1) := by decide +kernel
theorem dX7_balance_62 : decode cX7_balance 62 = .ok (.aload_n 0, 1) := by decide +kernel
theorem dX7_balance_63 : decode cX7_balance 63 = .ok (.getfield 51, 3) := by decide +kernel
theorem dX7_balance_66 : decode cX7_balance 66 = .ok (.iload_n 3, 1) := by decide +kernel
theorem dX7_balance_67 : decode cX7_balance 67 = .ok (.iaload, 1) := by decide +kernel
theorem dX7_balance_68 : decode cX7_balance 68 = .ok (.iload_n 1, 1) := by decide +kernel
theorem dX7_balance_69 : decode cX7_balance 69 = .ok (.if_icmp .ne 12, 3) := by decide +kernel
theorem dX7_balance_72 : decode cX7_balance 72 = .ok (.aload_n 0, 1) := by decide +kernel
theorem dX7_balance_73 : decode cX7_balance 73 = .ok (.getfield 54, 3) := by decide +kernel
theorem dX7_balance_76 : decode cX7_balance 76 = .ok (.iload_n 3, 1) := by decide +kernel
theorem dX7_balance_77 : decode cX7_balance 77 = .ok (.iaload, 1) := by decide +kernel
theorem dX7_balance_78 : decode cX7_balance 78 = .ok (.goto 4, 3) := by decide +kernel
theorem dX7_balance_81 : decode cX7_balance 81 = .ok (.iconst 0, 1) := by decide +kernel
theorem dX7_balance_82 : decode cX7_balance 82 = .ok (.isub, 1) := by decide +kernel
theorem dX7_balance_83 : decode cX7_balance 83 = .ok (.istore_n 2, 1) := by decide +kernel
theorem dX7_balance_84 : decode cX7_balance 84 = .ok (.iinc 3 1, 3) := by decide +kernel
theorem dX7_balance_87 : decode cX7_balance 87 = .ok (.goto (-34), 3) := by decide +kernel
theorem dX7_balance_90 : decode cX7_balance 90 = .ok (.iload_n 2, 1) := by decide +kernel
theorem dX7_balance_91 : decode cX7_balance 91 = .ok (.ireturn, 1) := by decide +kernel
theorem dX7_bucket_0 : decode cX7_bucket 0 = .ok (.aload_n 0, 1) := by decide +kernel
theorem dX7_bucket_1 : decode cX7_bucket 1 = .ok (.getfield 112, 3) := by decide +kernel
theorem dX7_bucket_4 : decode cX7_bucket 4 = .ok (.aload_n 0, 1) := by decide +kernel
theorem dX7_bucket_5 : decode cX7_bucket 5 = .ok (.getfield 28, 3) := by decide +kernel
theorem dX7_bucket_8 : decode cX7_bucket 8 = .ok (.iload_n 1, 1) := by decide +kernel
theorem dX7_bucket_9 : decode cX7_bucket 9 = .ok (.iaload, 1) := by decide +kernel
theorem dX7_bucket_10 : decode cX7_bucket 10 = .ok (.isub, 1) := by decide +kernel
theorem dX7_bucket_11 : decode cX7_bucket 11 = .ok (.istore_n 2, 1) := by decide +kernel
theorem dX7_bucket_12 : decode cX7_bucket 12 = .ok (.iload_n 2, 1) := by decide +kernel
theorem dX7_bucket_13 : decode cX7_bucket 13 = .ok (.ifCond .gt 7, 3) := by decide +kernel
theorem dX7_bucket_16 : decode cX7_bucket 16 = .ok (.iconst 0, 1) := by decide +kernel
theorem dX7_bucket_17 : decode cX7_bucket 17 = .ok (.goto 34, 3) := by decide +kernel
theorem dX7_bucket_20 : decode cX7_bucket 20 = .ok (.iload_n 2, 1) := by decide +kernel
theorem dX7_bucket_21 : decode cX7_bucket 21 = .ok (.bipush 30, 2) := by decide +kernel
theorem dX7_bucket_23 : decode cX7_bucket 23 = .ok (.if_icmp .gt 7, 3) := by decide +kernel
theorem dX7_bucket_26 : decode cX7_bucket 26 = .ok (.iconst 1, 1) := by decide +kernel
theorem dX7_bucket_27 : decode cX7_bucket 27 = .ok (.goto 24, 3) := by decide +kernel
theorem dX7_bucket_30 : decode cX7_bucket 30 = .ok (.iload_n 2, 1) := by decide +kernel
theorem dX7_bucket_31 : decode cX7_bucket 31 = .ok (.bipush 60, 2) := by decide +kernel
theorem dX7_bucket_33 : decode cX7_bucket 33 = .ok (.if_icmp .gt 7, 3) := by decide +kernel
theorem dX7_bucket_36 : decode cX7_bucket 36 = .ok (.iconst 2, 1) := by decide +kernel
theorem dX7_bucket_37 : decode cX7_bucket 37 = .ok (.goto 14, 3) := by decide +kernel
theorem dX7_bucket_40 : decode cX7_bucket 40 = .ok (.iload_n 2, 1) := by decide +kernel
theorem dX7_bucket_41 : decode cX7_bucket 41 = .ok (.bipush 90, 2) := by decide +kernel
theorem dX7_bucket_43 : decode cX7_bucket 43 = .ok (.if_icmp .gt 7, 3) := by decide +kernel
theorem dX7_bucket_46 : decode cX7_bucket 46 = .ok (.iconst 3, 1) := by decide +kernel
theorem dX7_bucket_47 : decode cX7_bucket 47 = .ok (.goto 4, 3) := by decide +kernel
theorem dX7_bucket_50 : decode cX7_bucket 50 = .ok (.iconst 4, 1) := by decide +kernel
theorem dX7_bucket_51 : decode cX7_bucket 51 = .ok (.ireturn, 1) := by decide +kernel
theorem dX7_bucketOf_0 : decode cX7_bucketOf 0 = .ok (.aload_n 0, 1) := by decide +kernel
theorem dX7_bucketOf_1 : decode cX7_bucketOf 1 = .ok (.iload_n 1, 1) := by decide +kernel
theorem dX7_bucketOf_2 : decode cX7_bucketOf 2 = .ok (.invokevirtual 181, 3) := by decide +kernel
theorem dX7_bucketOf_5 : decode cX7_bucketOf 5 = .ok (.ifCond .eq 7, 3) := by decide +kernel
theorem dX7_bucketOf_8 : decode cX7_bucketOf 8 = .ok (.iconst 0, 1) := by decide +kernel
theorem dX7_bucketOf_9 : decode cX7_bucketOf 9 = .ok (.goto 8, 3) := by decide +kernel
theorem dX7_bucketOf_12 : decode cX7_bucketOf 12 = .ok (.aload_n 0, 1) := by decide +kernel
theorem dX7_bucketOf_13 : decode cX7_bucketOf 13 = .ok (.iload_n 1, 1) := by decide +kernel
theorem dX7_bucketOf_14 : decode cX7_bucketOf 14 = .ok (.invokevirtual 184, 3) := by decide +kernel
theorem dX7_bucketOf_17 : decode cX7_bucketOf 17 = .ok (.ireturn, 1) := by decide +kernel
theorem dX7_ageing_0 : decode cX7_ageing 0 = .ok (.aload_n 0, 1) := by decide +kernel
theorem dX7_ageing_1 : decode cX7_ageing 1 = .ok (.aload_n 0, 1) := by decide +kernel
theorem dX7_ageing_2 : decode cX7_ageing 2 = .ok (.iload_n 1, 1) := by decide +kernel
theorem dX7_ageing_3 : decode cX7_ageing 3 = .ok (.invokevirtual 92, 3) := by decide +kernel
theorem dX7_ageing_6 : decode cX7_ageing 6 = .ok (.ifCond .eq 16, 3) := by decide +kernel
theorem dX7_ageing_9 : decode cX7_ageing 9 = .ok (.iload_n 2, 1) := by decide +kernel
theorem dX7_ageing_10 : decode cX7_ageing 10 = .ok (.iconst 0, 1) := by decide +kernel
theorem dX7_ageing_11 : decode cX7_ageing 11 = .ok (.iconst 4, 1) := by decide +kernel
theorem dX7_ageing_12 : decode cX7_ageing 12 = .ok (.invokestatic 82, 3) := by decide +kernel
theorem dX7_ageing_15 : decode cX7_ageing 15 = .ok (.ifCond .eq 7, 3) := by decide +kernel
theorem dX7_ageing_18 : decode cX7_ageing 18 = .ok (.iconst 0, 1) := by decide +kernel
theorem dX7_ageing_19 : decode cX7_ageing 19 = .ok (.goto 4, 3) := by decide +kernel
theorem dX7_ageing_22 : decode cX7_ageing 22 = .ok (.iconst 1, 1) := by decide +kernel
theorem dX7_ageing_23 : decode cX7_ageing 23 = .ok (.invokevirtual 96, 3) := by decide +kernel
theorem dX7_ageing_26 : decode cX7_ageing 26 = .ok (.ifCond .eq 5, 3) := by decide +kernel
theorem dX7_ageing_29 : decode cX7_ageing 29 = .ok (.iconst 0, 1) := by decide +kernel
theorem dX7_ageing_30 : decode cX7_ageing 30 = .ok (.ireturn, 1) := by decide +kernel
theorem dX7_ageing_31 : decode cX7_ageing 31 = .ok (.iconst 0, 1) := by decide +kernel
theorem dX7_ageing_32 : decode cX7_ageing 32 = .ok (.istore_n 3, 1) := by decide +kernel
theorem dX7_ageing_33 : decode cX7_ageing 33 = .ok (.iconst 0, 1) := by decide +kernel
theorem dX7_ageing_34 : decode cX7_ageing 34 = .ok (.istore 4, 2) := by decide +kernel
theorem dX7_ageing_36 : decode cX7_ageing 36 = .ok (.iload 4, 2) := by decide +kernel
theorem dX7_ageing_38 : decode cX7_ageing 38 = .ok (.aload_n 0, 1) := by decide +kernel
theorem dX7_ageing_39 : decode cX7_ageing 39 = .ok (.getfield 86, 3) := by decide +kernel
theorem dX7_ageing_42 : decode cX7_ageing 42 = .ok (.if_icmp .ge 44, 3) := by decide +kernel
theorem dX7_ageing_45 : decode cX7_ageing 45 = .ok (.iload_n 3, 1) := by decide +kernel
theorem dX7_ageing_46 : decode cX7_ageing 46 = .ok (.aload_n 0, 1) := by decide +kernel
theorem dX7_ageing_47 : decode cX7_ageing 47 = .ok (.getfield 22, 3) := by decide +kernel
theorem dX7_ageing_50 : decode cX7_ageing 50 = .ok (.iload 4, 2) := by decide +kernel
theorem dX7_ageing_52 : decode cX7_ageing 52 = .ok (.iaload, 1) := by decide +kernel
theorem dX7_ageing_53 : decode cX7_ageing 53 = .ok (.iload_n 1, 1) := by decide +kernel
theorem dX7_ageing_54 : decode cX7_ageing 54 = .ok (.if_icmp .ne 23, 3) := by decide +kernel
theorem dX7_ageing_57 : decode cX7_ageing 57 = .ok (.aload_n 0, 1) := by decide +kernel
theorem dX7_ageing_58 : decode cX7_ageing 58 = .ok (.iload 4, 2) := by decide +kernel
theorem dX7_ageing_60 : decode cX7_ageing 60 = .ok (.invokevirtual 184, 3) := by decide +kernel
theorem dX7_ageing_63 : decode cX7_ageing 63 = .ok (.iload_n 2, 1) := by decide +kernel
theorem dX7_ageing_64 : decode cX7_ageing 64 = .ok (.if_icmp .ne 13, 3) := by decide +kernel
theorem dX7_ageing_67 : decode cX7_ageing 67 = .ok (.aload_n 0, 1) := by decide +kernel
theorem dX7_ageing_68 : decode cX7_ageing 68 = .ok (.getfield 31, 3) := by decide +kernel
theorem dX7_ageing_71 : decode cX7_ageing 71 = .ok (.iload 4, 2) := by decide +kernel
theorem dX7_ageing_73 : decode cX7_ageing 73 = .ok (.iaload, 1) := by decide +kernel
theorem dX7_ageing_74 : decode cX7_ageing 74 = .ok (.goto 4, 3) := by decide +kernel
theorem dX7_ageing_77 : decode cX7_ageing 77 = .ok (.iconst 0, 1) := by decide +kernel
theorem dX7_ageing_78 : decode cX7_ageing 78 = .ok (.iadd, 1) := by decide +kernel
theorem dX7_ageing_79 : decode cX7_ageing 79 = .ok (.istore_n 3, 1) := by decide +kernel
theorem dX7_ageing_80 : decode cX7_ageing 80 = .ok (.iinc 4 1, 3) := by decide +kernel
theorem dX7_ageing_83 : decode cX7_ageing 83 = .ok (.goto (-47), 3) := by decide +kernel
theorem dX7_ageing_86 : decode cX7_ageing 86 = .ok (.iload_n 3, 1) := by decide +kernel
theorem dX7_ageing_87 : decode cX7_ageing 87 = .ok (.ireturn, 1) := by decide +kernel
theorem dX7_oldest_0 : decode cX7_oldest 0 = .ok (.aload_n 0, 1) := by decide +kernel
theorem dX7_oldest_1 : decode cX7_oldest 1 = .ok (.iload_n 1, 1) := by decide +kernel
theorem dX7_oldest_2 : decode cX7_oldest 2 = .ok (.invokevirtual 169, 3) := by decide +kernel
theorem dX7_oldest_5 : decode cX7_oldest 5 = .ok (.ifCond .eq 7, 3) := by decide +kernel
theorem dX7_oldest_8 : decode cX7_oldest 8 = .ok (.iconst 0, 1) := by decide +kernel
theorem dX7_oldest_9 : decode cX7_oldest 9 = .ok (.goto 8, 3) := by decide +kernel
theorem dX7_oldest_12 : decode cX7_oldest 12 = .ok (.aload_n 0, 1) := by decide +kernel
theorem dX7_oldest_13 : decode cX7_oldest 13 = .ok (.iload_n 1, 1) := by decide +kernel
theorem dX7_oldest_14 : decode cX7_oldest 14 = .ok (.invokevirtual 187, 3) := by decide +kernel
theorem dX7_oldest_17 : decode cX7_oldest 17 = .ok (.ireturn, 1) := by decide +kernel
theorem dX7_levelOf_0 : decode cX7_levelOf 0 = .ok (.aload_n 0, 1) := by decide +kernel
theorem dX7_levelOf_1 : decode cX7_levelOf 1 = .ok (.iload_n 1, 1) := by decide +kernel
theorem dX7_levelOf_2 : decode cX7_levelOf 2 = .ok (.invokevirtual 181, 3) := by decide +kernel
theorem dX7_levelOf_5 : decode cX7_levelOf 5 = .ok (.ifCond .eq 7, 3) := by decide +kernel
theorem dX7_levelOf_8 : decode cX7_levelOf 8 = .ok (.iconst 0, 1) := by decide +kernel
theorem dX7_levelOf_9 : decode cX7_levelOf 9 = .ok (.goto 9, 3) := by decide +kernel
theorem dX7_levelOf_12 : decode cX7_levelOf 12 = .ok (.aload_n 0, 1) := by decide +kernel
theorem dX7_levelOf_13 : decode cX7_levelOf 13 = .ok (.getfield 45, 3) := by decide +kernel
theorem dX7_levelOf_16 : decode cX7_levelOf 16 = .ok (.iload_n 1, 1) := by decide +kernel
theorem dX7_levelOf_17 : decode cX7_levelOf 17 = .ok (.iaload, 1) := by decide +kernel
theorem dX7_levelOf_18 : decode cX7_levelOf 18 = .ok (.ireturn, 1) := by decide +kernel
theorem dX7_daysToReminder_0 : decode cX7_daysToReminder 0 = .ok (.aload_n 0, 1) := by decide +kernel
theorem dX7_daysToReminder_1 : decode cX7_daysToReminder 1 = .ok (.iload_n 1, 1) := by decide +kernel
theorem dX7_daysToReminder_2 : decode cX7_daysToReminder 2 = .ok (.invokevirtual 181, 3) := by decide +kernel
theorem dX7_daysToReminder_5 : decode cX7_daysToReminder 5 = .ok (.ifCond .eq 5, 3) := by decide +kernel
theorem dX7_daysToReminder_8 : decode cX7_daysToReminder 8 = .ok (.iconst 0, 1) := by decide +kernel
theorem dX7_daysToReminder_9 : decode cX7_daysToReminder 9 = .ok (.ireturn, 1) := by decide +kernel
theorem dX7_daysToReminder_10 : decode cX7_daysToReminder 10 = .ok (.aload_n 0, 1) := by decide +kernel
theorem dX7_daysToReminder_11 : decode cX7_daysToReminder 11 = .ok (.iload_n 1, 1) := by decide +kernel
theorem dX7_daysToReminder_12 : decode cX7_daysToReminder 12 = .ok (.invokevirtual 122, 3) := by decide +kernel
theorem dX7_daysToReminder_15 : decode cX7_daysToReminder 15 = .ok (.ifCond .ne 5, 3) := by decide +kernel
theorem dX7_daysToReminder_18 : decode cX7_daysToReminder 18 = .ok (.iconst (-1), 1) := by decide +kernel
theorem dX7_daysToReminder_19 : decode cX7_daysToReminder 19 = .ok (.ireturn, 1) := by decide +kernel
theorem dX7_daysToReminder_20 : decode cX7_daysToReminder 20 = .ok (.aload_n 0, 1) := by decide +kernel
theorem dX7_daysToReminder_21 : decode cX7_daysToReminder 21 = .ok (.getfield 28, 3) := by decide +kernel
theorem dX7_daysToReminder_24 : decode cX7_daysToReminder 24 = .ok (.iload_n 1, 1) := by decide +kernel
theorem dX7_daysToReminder_25 : decode cX7_daysToReminder 25 = .ok (.iaload, 1) := by decide +kernel
theorem dX7_daysToReminder_26 : decode cX7_daysToReminder 26 = .ok (.aload_n 0, 1) := by decide +kernel
theorem dX7_daysToReminder_27 : decode cX7_daysToReminder 27 = .ok (.getfield 112, 3) := by decide +kernel
theorem dX7_daysToReminder_30 : decode cX7_daysToReminder 30 = .ok (.if_icmp .le 12, 3) := by decide +kernel
theorem dX7_daysToReminder_33 : decode cX7_daysToReminder 33 = .ok (.aload_n 0, 1) := by decide +kernel
theorem dX7_daysToReminder_34 : decode cX7_daysToReminder 34 = .ok (.getfield 28, 3) := by decide +kernel
theorem dX7_daysToReminder_37 : decode cX7_daysToReminder 37 = .ok (.iload_n 1, 1) := by decide +kernel
theorem dX7_daysToReminder_38 : decode cX7_daysToReminder 38 = .ok (.iaload, 1) := by decide +kernel
theorem dX7_daysToReminder_39 : decode cX7_daysToReminder 39 = .ok (.goto 7, 3) := by decide +kernel
theorem dX7_daysToReminder_42 : decode cX7_daysToReminder 42 = .ok (.aload_n 0, 1) := by decide +kernel
theorem dX7_daysToReminder_43 : decode cX7_daysToReminder 43 = .ok (.getfield 112, 3) := by decide +kernel
theorem dX7_daysToReminder_46 : decode cX7_daysToReminder 46 = .ok (.istore_n 2, 1) := by decide +kernel
theorem dX7_daysToReminder_47 : decode cX7_daysToReminder 47 = .ok (.aload_n 0, 1) := by decide +kernel
theorem dX7_daysToReminder_48 : decode cX7_daysToReminder 48 = .ok (.getfield 19, 3) := by decide +kernel
theorem dX7_daysToReminder_51 : decode cX7_daysToReminder 51 = .ok (.aload_n 0, 1) := by decide +kernel
theorem dX7_daysToReminder_52 : decode cX7_daysToReminder 52 = .ok (.getfield 22, 3) := by decide +kernel
theorem dX7_daysToReminder_55 : decode cX7_daysToReminder 55 = .ok (.iload_n 1, 1) := by decide +kernel
theorem dX7_daysToReminder_56 : decode cX7_daysToReminder 56 = .ok (.iaload, 1) := by decide +kernel
theorem dX7_daysToReminder_57 : decode cX7_daysToReminder 57 = .ok (.iaload, 1) := by decide +kernel
theorem dX7_daysToReminder_58 : decode cX7_daysToReminder 58 = .ok (.iload_n 2, 1) := by decide +kernel
theorem dX7_daysToReminder_59 : decode cX7_daysToReminder 59 = .ok (.if_icmp .le 17, 3) := by decide +kernel
theorem dX7_daysToReminder_62 : decode cX7_daysToReminder 62 = .ok (.aload_n 0, 1) := by decide +kernel
theorem dX7_daysToReminder_63 : decode cX7_daysToReminder 63 = .ok (.getfield 19, 3) := by decide +kernel
theorem dX7_daysToReminder_66 : decode cX7_daysToReminder 66 = .ok (.aload_n 0, 1) := by decide +kernel
theorem dX7_daysToReminder_67 : decode cX7_daysToReminder 67 = .ok (.getfield 22, 3) := by decide +kernel
theorem dX7_daysToReminder_70 : decode cX7_daysToReminder 70 = .ok (.iload_n 1, 1) := by decide +kernel
theorem dX7_daysToReminder_71 : decode cX7_daysToReminder 71 = .ok (.iaload, 1) := by decide +kernel
theorem dX7_daysToReminder_72 : decode cX7_daysToReminder 72 = .ok (.iaload, 1) := by decide +kernel
theorem dX7_daysToReminder_73 : decode cX7_daysToReminder 73 = .ok (.goto 4, 3) := by decide +kernel
theorem dX7_daysToReminder_76 : decode cX7_daysToReminder 76 = .ok (.iload_n 2, 1) := by decide +kernel
theorem dX7_daysToReminder_77 : decode cX7_daysToReminder 77 = .ok (.istore_n 2, 1) := by decide +kernel
theorem dX7_daysToReminder_78 : decode cX7_daysToReminder 78 = .ok (.iload_n 2, 1) := by decide +kernel
theorem dX7_daysToReminder_79 : decode cX7_daysToReminder 79 = .ok (.aload_n 0, 1) := by decide +kernel
theorem dX7_daysToReminder_80 : decode cX7_daysToReminder 80 = .ok (.getfield 112, 3) := by decide +kernel
theorem dX7_daysToReminder_83 : decode cX7_daysToReminder 83 = .ok (.isub, 1) := by decide +kernel
theorem dX7_daysToReminder_84 : decode cX7_daysToReminder 84 = .ok (.aload_n 0, 1) := by decide +kernel
theorem dX7_daysToReminder_85 : decode cX7_daysToReminder 85 = .ok (.getfield 45, 3) := by decide +kernel
theorem dX7_daysToReminder_88 : decode cX7_daysToReminder 88 = .ok (.iload_n 1, 1) := by decide +kernel
theorem dX7_daysToReminder_89 : decode cX7_daysToReminder 89 = .ok (.iaload, 1) := by decide +kernel
theorem dX7_daysToReminder_90 : decode cX7_daysToReminder 90 = .ok (.invokestatic 125, 3) := by decide +kernel
theorem dX7_daysToReminder_93 : decode cX7_daysToReminder 93 = .ok (.iadd, 1) := by decide +kernel
theorem dX7_daysToReminder_94 : decode cX7_daysToReminder 94 = .ok (.aload_n 0, 1) := by decide +kernel
theorem dX7_daysToReminder_95 : decode cX7_daysToReminder 95 = .ok (.getfield 48, 3) := by decide +kernel
theorem dX7_daysToReminder_98 : decode cX7_daysToReminder 98 = .ok (.iload_n 1, 1) := by decide +kernel
theorem dX7_daysToReminder_99 : decode cX7_daysToReminder 99 = .ok (.iaload, 1) := by decide +kernel
theorem dX7_daysToReminder_100 : decode cX7_daysToReminder 100 = .ok (.isub, 1) := by decide +kernel
theorem dX7_daysToReminder_101 : decode cX7_daysToReminder 101 = .ok (.ireturn, 1) := by decide +kernel
theorem dX7_invoicesAt_0 : decode cX7_invoicesAt 0 = .ok (.aload_n 0, 1) := by decide +kernel
theorem dX7_invoicesAt_1 : decode cX7_invoicesAt 1 = .ok (.iload_n 1, 1) := by decide +kernel
theorem dX7_invoicesAt_2 : decode cX7_invoicesAt 2 = .ok (.iconst 0, 1) := by decide +kernel
theorem dX7_invoicesAt_3 : decode cX7_invoicesAt 3 = .ok (.iconst 4, 1) := by decide +kernel
theorem dX7_invoicesAt_4 : decode cX7_invoicesAt 4 = .ok (.invokestatic 82, 3) := by decide +kernel
theorem dX7_invoicesAt_7 : decode cX7_invoicesAt 7 = .ok (.ifCond .eq 7, 3) := by decide +kernel
theorem dX7_invoicesAt_10 : decode cX7_invoicesAt 10 = .ok (.iconst 0, 1) := by decide +kernel
theorem dX7_invoicesAt_11 : decode cX7_invoicesAt 11 = .ok (.goto 4, 3) := by decide +kernel
theorem dX7_invoicesAt_14 : decode cX7_invoicesAt 14 = .ok (.iconst 1, 1) := by decide +kernel
theorem dX7_invoicesAt_15 : decode cX7_invoicesAt 15 = .ok (.invokevirtual 96, 3) := by decide +kernel
theorem dX7_invoicesAt_18 : decode cX7_invoicesAt 18 = .ok (.ifCond .eq 5, 3) := by decide +kernel
theorem dX7_invoicesAt_21 : decode cX7_invoicesAt 21 = .ok (.iconst 0, 1) := by decide +kernel
theorem dX7_invoicesAt_22 : decode cX7_invoicesAt 22 = .ok (.ireturn, 1) := by decide +kernel
theorem dX7_invoicesAt_23 : decode cX7_invoicesAt 23 = .ok (.iconst 0, 1) := by decide +kernel
theorem dX7_invoicesAt_24 : decode cX7_invoicesAt 24 = .ok (.istore_n 2, 1) := by decide +kernel
theorem dX7_invoicesAt_25 : decode cX7_invoicesAt 25 = .ok (.iconst 0, 1) := by decide +kernel
theorem dX7_invoicesAt_26 : decode cX7_invoicesAt 26 = .ok (.istore_n 3, 1) := by decide +kernel
theorem dX7_invoicesAt_27 : decode cX7_invoicesAt 27 = .ok (.iload_n 3, 1) := by decide +kernel
theorem dX7_invoicesAt_28 : decode cX7_invoicesAt 28 = .ok (.aload_n 0, 1) := by decide +kernel
theorem dX7_invoicesAt_29 : decode cX7_invoicesAt 29 = .ok (.getfield 86, 3) := by decide +kernel
theorem dX7_invoicesAt_32 : decode cX7_invoicesAt 32 = .ok (.if_icmp .ge 27, 3) := by decide +kernel
theorem dX7_invoicesAt_35 : decode cX7_invoicesAt 35 = .ok (.iload_n 2, 1) := by decide +kernel
theorem dX7_invoicesAt_36 : decode cX7_invoicesAt 36 = .ok (.aload_n 0, 1) := by decide +kernel
theorem dX7_invoicesAt_37 : decode cX7_invoicesAt 37 = .ok (.getfield 45, 3) := by decide +kernel
theorem dX7_invoicesAt_40 : decode cX7_invoicesAt 40 = .ok (.iload_n 3, 1) := by decide +kernel
theorem dX7_invoicesAt_41 : decode cX7_invoicesAt 41 = .ok (.iaload, 1) := by decide +kernel
theorem dX7_invoicesAt_42 : decode cX7_invoicesAt 42 = .ok (.iload_n 1, 1) := by decide +kernel
theorem dX7_invoicesAt_43 : decode cX7_invoicesAt 43 = .ok (.if_icmp .ne 7, 3) := by decide +kernel
theorem dX7_invoicesAt_46 : decode cX7_invoicesAt 46 = .ok (.iconst 1, 1) := by decide +kernel
theorem dX7_invoicesAt_47 : decode cX7_invoicesAt 47 = .ok (.goto 4, 3) := by decide +kernel
theorem dX7_invoicesAt_50 : decode cX7_invoicesAt 50 = .ok (.iconst 0, 1) := by decide +kernel
theorem dX7_invoicesAt_51 : decode cX7_invoicesAt 51 = .ok (.iadd, 1) := by decide +kernel
theorem dX7_invoicesAt_52 : decode cX7_invoicesAt 52 = .ok (.istore_n 2, 1) := by decide +kernel
theorem dX7_invoicesAt_53 : decode cX7_invoicesAt 53 = .ok (.iinc 3 1, 3) := by decide +kernel
theorem dX7_invoicesAt_56 : decode cX7_invoicesAt 56 = .ok (.goto (-29), 3) := by decide +kernel
theorem dX7_invoicesAt_59 : decode cX7_invoicesAt 59 = .ok (.iload_n 2, 1) := by decide +kernel
theorem dX7_invoicesAt_60 : decode cX7_invoicesAt 60 = .ok (.ireturn, 1) := by decide +kernel
theorem dX7_ledgerLines_0 : decode cX7_ledgerLines 0 = .ok (.aload_n 0, 1) := by decide +kernel
theorem dX7_ledgerLines_1 : decode cX7_ledgerLines 1 = .ok (.aload_n 0, 1) := by decide +kernel
theorem dX7_ledgerLines_2 : decode cX7_ledgerLines 2 = .ok (.getfield 134, 3) := by decide +kernel
theorem dX7_ledgerLines_5 : decode cX7_ledgerLines 5 = .ok (.invokevirtual 128, 3) := by decide +kernel
theorem dX7_ledgerLines_8 : decode cX7_ledgerLines 8 = .ok (.ireturn, 1) := by decide +kernel
theorem dX7_noLine_0 : decode cX7_noLine 0 = .ok (.aload_n 0, 1) := by decide +kernel
theorem dX7_noLine_1 : decode cX7_noLine 1 = .ok (.iload_n 1, 1) := by decide +kernel
theorem dX7_noLine_2 : decode cX7_noLine 2 = .ok (.iconst 0, 1) := by decide +kernel
theorem dX7_noLine_3 : decode cX7_noLine 3 = .ok (.aload_n 0, 1) := by decide +kernel
theorem dX7_noLine_4 : decode cX7_noLine 4 = .ok (.getfield 134, 3) := by decide +kernel
theorem dX7_noLine_7 : decode cX7_noLine 7 = .ok (.iconst 1, 1) := by decide +kernel
theorem dX7_noLine_8 : decode cX7_noLine 8 = .ok (.isub, 1) := by decide +kernel
theorem dX7_noLine_9 : decode cX7_noLine 9 = .ok (.invokestatic 82, 3) := by decide +kernel
theorem dX7_noLine_12 : decode cX7_noLine 12 = .ok (.ifCond .eq 7, 3) := by decide +kernel
theorem dX7_noLine_15 : decode cX7_noLine 15 = .ok (.iconst 0, 1) := by decide +kernel
theorem dX7_noLine_16 : decode cX7_noLine 16 = .ok (.goto 4, 3) := by decide +kernel
theorem dX7_noLine_19 : decode cX7_noLine 19 = .ok (.iconst 1, 1) := by decide +kernel
theorem dX7_noLine_20 : decode cX7_noLine 20 = .ok (.invokevirtual 96, 3) := by decide +kernel
theorem dX7_noLine_23 : decode cX7_noLine 23 = .ok (.ireturn, 1) := by decide +kernel
theorem dX7_lineInvoice_0 : decode cX7_lineInvoice 0 = .ok (.aload_n 0, 1) := by decide +kernel
theorem dX7_lineInvoice_1 : decode cX7_lineInvoice 1 = .ok (.iload_n 1, 1) := by decide +kernel
theorem dX7_lineInvoice_2 : decode cX7_lineInvoice 2 = .ok (.invokevirtual 190, 3) := by decide +kernel
theorem dX7_lineInvoice_5 : decode cX7_lineInvoice 5 = .ok (.ifCond .eq 7, 3) := by decide +kernel
theorem dX7_lineInvoice_8 : decode cX7_lineInvoice 8 = .ok (.iconst 0, 1) := by decide +kernel
theorem dX7_lineInvoice_9 : decode cX7_lineInvoice 9 = .ok (.goto 9, 3) := by decide +kernel
theorem dX7_lineInvoice_12 : decode cX7_lineInvoice 12 = .ok (.aload_n 0, 1) := by decide +kernel
theorem dX7_lineInvoice_13 : decode cX7_lineInvoice 13 = .ok (.getfield 63, 3) := by decide +kernel
theorem dX7_lineInvoice_16 : decode cX7_lineInvoice 16 = .ok (.iload_n 1, 1) := by decide +kernel
theorem dX7_lineInvoice_17 : decode cX7_lineInvoice 17 = .ok (.iaload, 1) := by decide +kernel
theorem dX7_lineInvoice_18 : decode cX7_lineInvoice 18 = .ok (.ireturn, 1) := by decide +kernel
theorem dX7_lineAmount_0 : decode cX7_lineAmount 0 = .ok (.aload_n 0, 1) := by decide +kernel
theorem dX7_lineAmount_1 : decode cX7_lineAmount 1 = .ok (.iload_n 1, 1) := by decide +kernel
theorem dX7_lineAmount_2 : decode cX7_lineAmount 2 = .ok (.invokevirtual 190, 3) := by decide +kernel
theorem dX7_lineAmount_5 : decode cX7_lineAmount 5 = .ok (.ifCond .eq 7, 3) := by decide +kernel
theorem dX7_lineAmount_8 : decode cX7_lineAmount 8 = .ok (.iconst 0, 1) := by decide +kernel
theorem dX7_lineAmount_9 : decode cX7_lineAmount 9 = .ok (.goto 9, 3) := by decide +kernel
theorem dX7_lineAmount_12 : decode cX7_lineAmount 12 = .ok (.aload_n 0, 1) := by decide +kernel
theorem dX7_lineAmount_13 : decode cX7_lineAmount 13 = .ok (.getfield 66, 3) := by decide +kernel
theorem dX7_lineAmount_16 : decode cX7_lineAmount 16 = .ok (.iload_n 1, 1) := by decide +kernel
theorem dX7_lineAmount_17 : decode cX7_lineAmount 17 = .ok (.iaload, 1) := by decide +kernel
theorem dX7_lineAmount_18 : decode cX7_lineAmount 18 = .ok (.ireturn, 1) := by decide +kernel
