def RX0 : String := "ReceivablesBook$Customer"
def TX0 : u_T := fun k => match k with
  | 0 => ("ReceivablesBook$Customer", "convention", "I", true)
  | 1 => ("ReceivablesBook$Customer", "rule", "I", false)
  | 2 => ("ReceivablesBook$Customer", "rate", "I", false)
  | _ => ("ReceivablesBook$Customer", "pauseEnd", "I", false)
def tyX0 : Nat → FieldType := fun k => match k with
  | 0 => .int
  | 1 => .int
  | 2 => .int
  | _ => .int
abbrev wsX00 : List Cond := u_ws RX0 TX0 4
theorem nmX0 : ∀ a, a < 4 → ∀ b, b < 4 → a ≠ b → (TX0 a).2.1 ≠ (TX0 b).2.1 := by decide +kernel
theorem tyX0_ok : ∀ k, k < 4 → parseFieldDescriptor (TX0 k).2.2.1 = some (tyX0 k) := by decide +kernel
abbrev cX0_init : ByteArray := prog_2_method_1_code
def yX0_init : MethodName := ⟨RX0, "<init>", "(III)V"⟩
abbrev cX0_sumOfOneCent : ByteArray := prog_2_method_2_code
def yX0_sumOfOneCent : MethodName := ⟨RX0, "sumOfOneCent", "()J"⟩
def RX1 : String := "ReceivablesBook$DayCount"
def TX1 : u_T := fun k => match k with
  | _ => ("", "", "", false)
def tyX1 : Nat → FieldType := fun k => match k with
  | _ => .int
abbrev wsX10 : List Cond := u_ws RX1 TX1 0
theorem nmX1 : ∀ a, a < 0 → ∀ b, b < 0 → a ≠ b → (TX1 a).2.1 ≠ (TX1 b).2.1 := by decide +kernel
theorem tyX1_ok : ∀ k, k < 0 → parseFieldDescriptor (TX1 k).2.2.1 = some (tyX1 k) := by decide +kernel
abbrev cX1_daysOfYear : ByteArray := prog_3_method_2_code
def yX1_daysOfYear : MethodName := ⟨RX1, "daysOfYear", "(I)I"⟩
abbrev cX1_daysBetween : ByteArray := prog_3_method_3_code
def yX1_daysBetween : MethodName := ⟨RX1, "daysBetween", "(III)I"⟩
abbrev cX1_thirtyDayNumber : ByteArray := prog_3_method_4_code
def yX1_thirtyDayNumber : MethodName := ⟨RX1, "thirtyDayNumber", "(I)I"⟩
abbrev cX1_monthLength : ByteArray := prog_3_method_5_code
def yX1_monthLength : MethodName := ⟨RX1, "monthLength", "(II)I"⟩
def RX2 : String := "ReceivablesBook$Invoice"
def TX2 : u_T := fun k => match k with
  | 0 => ("ReceivablesBook$Invoice", "owner", "LReceivablesBook$Customer;", true)
  | 1 => ("ReceivablesBook$Invoice", "amount", "I", true)
  | 2 => ("ReceivablesBook$Invoice", "dueDay", "I", true)
  | 3 => ("ReceivablesBook$Invoice", "interest", "Z", true)
  | 4 => ("ReceivablesBook$Invoice", "disputed", "I", false)
  | 5 => ("ReceivablesBook$Invoice", "level", "I", false)
  | 6 => ("ReceivablesBook$Invoice", "paid", "I", false)
  | 7 => ("ReceivablesBook$Invoice", "credited", "I", false)
  | 8 => ("ReceivablesBook$Invoice", "waited", "I", false)
  | _ => ("ReceivablesBook$Invoice", "accruedSum", "J", false)
def tyX2 : Nat → FieldType := fun k => match k with
  | 0 => .object "ReceivablesBook$Customer"
  | 1 => .int
  | 2 => .int
  | 3 => .boolean
  | 4 => .int
  | 5 => .int
  | 6 => .int
  | 7 => .int
  | 8 => .int
  | _ => .long
abbrev wsX20 : List Cond := u_ws RX2 TX2 10
theorem nmX2 : ∀ a, a < 10 → ∀ b, b < 10 → a ≠ b → (TX2 a).2.1 ≠ (TX2 b).2.1 := by decide +kernel
theorem tyX2_ok : ∀ k, k < 10 → parseFieldDescriptor (TX2 k).2.2.1 = some (tyX2 k) := by decide +kernel
abbrev cX2_init : ByteArray := prog_4_method_1_code
def yX2_init : MethodName := ⟨RX2, "<init>", "(LReceivablesBook$Customer;IIZ)V"⟩
abbrev cX2_openAmount : ByteArray := prog_4_method_2_code
def yX2_openAmount : MethodName := ⟨RX2, "openAmount", "()I"⟩
abbrev cX2_clearAmount : ByteArray := prog_4_method_3_code
def yX2_clearAmount : MethodName := ⟨RX2, "clearAmount", "()I"⟩
abbrev cX2_pay : ByteArray := prog_4_method_4_code
def yX2_pay : MethodName := ⟨RX2, "pay", "(I)V"⟩
abbrev cX2_unpay : ByteArray := prog_4_method_5_code
def yX2_unpay : MethodName := ⟨RX2, "unpay", "(I)V"⟩
abbrev cX2_settleWith : ByteArray := prog_4_method_6_code
def yX2_settleWith : MethodName := ⟨RX2, "settleWith", "(I)V"⟩
abbrev cX2_forgetRemindersIfPaid : ByteArray := prog_4_method_7_code
def yX2_forgetRemindersIfPaid : MethodName := ⟨RX2, "forgetRemindersIfPaid", "()V"⟩
abbrev cX2_accrueOn : ByteArray := prog_4_method_8_code
def yX2_accrueOn : MethodName := ⟨RX2, "accrueOn", "(I)V"⟩
abbrev cX2_accruedCents : ByteArray := prog_4_method_9_code
def yX2_accruedCents : MethodName := ⟨RX2, "accruedCents", "()I"⟩
abbrev cX2_dropAccruedCents : ByteArray := prog_4_method_10_code
def yX2_dropAccruedCents : MethodName := ⟨RX2, "dropAccruedCents", "()V"⟩
abbrev cX2_waitOn : ByteArray := prog_4_method_11_code
def yX2_waitOn : MethodName := ⟨RX2, "waitOn", "(I)V"⟩
abbrev cX2_daysToNextLevel : ByteArray := prog_4_method_12_code
def yX2_daysToNextLevel : MethodName := ⟨RX2, "daysToNextLevel", "(I)I"⟩
abbrev cX2_canBeReminded : ByteArray := prog_4_method_13_code
def yX2_canBeReminded : MethodName := ⟨RX2, "canBeReminded", "()Z"⟩
abbrev cX2_waitOfLevel : ByteArray := prog_4_method_14_code
def yX2_waitOfLevel : MethodName := ⟨RX2, "waitOfLevel", "()I"⟩
abbrev cX2_bucketOn : ByteArray := prog_4_method_15_code
def yX2_bucketOn : MethodName := ⟨RX2, "bucketOn", "(I)I"⟩
def RX3 : String := "ReceivablesBook$Ledger"
def TX3 : u_T := fun k => match k with
  | 0 => ("ReceivablesBook$Ledger", "count", "I", false)
  | 1 => ("ReceivablesBook$Ledger", "invoiceNumbers", "[I", false)
  | _ => ("ReceivablesBook$Ledger", "amounts", "[I", false)
def tyX3 : Nat → FieldType := fun k => match k with
  | 0 => .int
  | 1 => .array .int
  | _ => .array .int
abbrev wsX30 : List Cond := u_ws RX3 TX3 3
theorem nmX3 : ∀ a, a < 3 → ∀ b, b < 3 → a ≠ b → (TX3 a).2.1 ≠ (TX3 b).2.1 := by decide +kernel
theorem tyX3_ok : ∀ k, k < 3 → parseFieldDescriptor (TX3 k).2.2.1 = some (tyX3 k) := by decide +kernel
abbrev cX3_init : ByteArray := prog_5_method_1_code
def yX3_init : MethodName := ⟨RX3, "<init>", "()V"⟩
abbrev cX3_write : ByteArray := prog_5_method_2_code
def yX3_write : MethodName := ⟨RX3, "write", "(II)V"⟩
abbrev cX3_hasRoom : ByteArray := prog_5_method_3_code
def yX3_hasRoom : MethodName := ⟨RX3, "hasRoom", "()Z"⟩
abbrev cX3_doubleRoom : ByteArray := prog_5_method_4_code
def yX3_doubleRoom : MethodName := ⟨RX3, "doubleRoom", "()V"⟩
abbrev cX3_sumOf : ByteArray := prog_5_method_5_code
def yX3_sumOf : MethodName := ⟨RX3, "sumOf", "(I)I"⟩
abbrev cX3_invoiceIn : ByteArray := prog_5_method_6_code
def yX3_invoiceIn : MethodName := ⟨RX3, "invoiceIn", "(I)I"⟩
abbrev cX3_amountIn : ByteArray := prog_5_method_7_code
def yX3_amountIn : MethodName := ⟨RX3, "amountIn", "(I)I"⟩
def RX4 : String := "ReceivablesBook$Payment"
def TX4 : u_T := fun k => match k with
  | 0 => ("ReceivablesBook$Payment", "owner", "LReceivablesBook$Customer;", true)
  | 1 => ("ReceivablesBook$Payment", "reversed", "Z", false)
  | 2 => ("ReceivablesBook$Payment", "amount", "I", true)
  | 3 => ("ReceivablesBook$Payment", "spentByInvoice", "[I", true)
  | _ => ("ReceivablesBook$Payment", "spent", "I", false)
def tyX4 : Nat → FieldType := fun k => match k with
  | 0 => .object "ReceivablesBook$Customer"
  | 1 => .boolean
  | 2 => .int
  | 3 => .array .int
  | _ => .int
abbrev wsX40 : List Cond := u_ws RX4 TX4 5
theorem nmX4 : ∀ a, a < 5 → ∀ b, b < 5 → a ≠ b → (TX4 a).2.1 ≠ (TX4 b).2.1 := by decide +kernel
theorem tyX4_ok : ∀ k, k < 5 → parseFieldDescriptor (TX4 k).2.2.1 = some (tyX4 k) := by decide +kernel
abbrev cX4_init : ByteArray := prog_6_method_1_code
def yX4_init : MethodName := ⟨RX4, "<init>", "(LReceivablesBook$Customer;I)V"⟩
abbrev cX4_unspent : ByteArray := prog_6_method_2_code
def yX4_unspent : MethodName := ⟨RX4, "unspent", "()I"⟩
abbrev cX4_spentOn : ByteArray := prog_6_method_3_code
def yX4_spentOn : MethodName := ⟨RX4, "spentOn", "(I)I"⟩
abbrev cX4_spend : ByteArray := prog_6_method_4_code
def yX4_spend : MethodName := ⟨RX4, "spend", "(II)V"⟩
def RX5 : String := "ReceivablesBook$Shares"
def TX5 : u_T := fun k => match k with
  | 0 => ("ReceivablesBook$Shares", "weights", "[I", true)
  | 1 => ("ReceivablesBook$Shares", "parts", "[I", true)
  | _ => ("ReceivablesBook$Shares", "remainders", "[J", true)
def tyX5 : Nat → FieldType := fun k => match k with
  | 0 => .array .int
  | 1 => .array .int
  | _ => .array .long
abbrev wsX50 : List Cond := u_ws RX5 TX5 3
theorem nmX5 : ∀ a, a < 3 → ∀ b, b < 3 → a ≠ b → (TX5 a).2.1 ≠ (TX5 b).2.1 := by decide +kernel
theorem tyX5_ok : ∀ k, k < 3 → parseFieldDescriptor (TX5 k).2.2.1 = some (tyX5 k) := by decide +kernel
abbrev cX5_init : ByteArray := prog_7_method_1_code
def yX5_init : MethodName := ⟨RX5, "<init>", "()V"⟩
abbrev cX5_reset : ByteArray := prog_7_method_2_code
def yX5_reset : MethodName := ⟨RX5, "reset", "()V"⟩
abbrev cX5_has : ByteArray := prog_7_method_3_code
def yX5_has : MethodName := ⟨RX5, "has", "(I)Z"⟩
abbrev cX5_setWeight : ByteArray := prog_7_method_4_code
def yX5_setWeight : MethodName := ⟨RX5, "setWeight", "(II)V"⟩
abbrev cX5_partOf : ByteArray := prog_7_method_5_code
def yX5_partOf : MethodName := ⟨RX5, "partOf", "(I)I"⟩
abbrev cX5_wantsPart : ByteArray := prog_7_method_6_code
def yX5_wantsPart : MethodName := ⟨RX5, "wantsPart", "(I)Z"⟩
abbrev cX5_fill : ByteArray := prog_7_method_7_code
def yX5_fill : MethodName := ⟨RX5, "fill", "(II)I"⟩
abbrev cX5_sumOfWeights : ByteArray := prog_7_method_8_code
def yX5_sumOfWeights : MethodName := ⟨RX5, "sumOfWeights", "()J"⟩
abbrev cX5_splitUpToWeights : ByteArray := prog_7_method_9_code
def yX5_splitUpToWeights : MethodName := ⟨RX5, "splitUpToWeights", "(I)V"⟩
abbrev cX5_splitInProportion : ByteArray := prog_7_method_10_code
def yX5_splitInProportion : MethodName := ⟨RX5, "splitInProportion", "(I)V"⟩
abbrev cX5_giveCentToGreatestRemainder : ByteArray := prog_7_method_11_code
def yX5_giveCentToGreatestRemainder : MethodName := ⟨RX5, "giveCentToGreatestRemainder", "()V"⟩
def RX6 : String := "ReceivablesBook"
def TX6 : u_T := fun k => match k with
  | 0 => ("ReceivablesBook", "customerList", "Ljava/util/ArrayList;", true)
  | 1 => ("ReceivablesBook", "invoiceList", "Ljava/util/ArrayList;", true)
  | 2 => ("ReceivablesBook", "paymentList", "Ljava/util/ArrayList;", true)
  | 3 => ("ReceivablesBook", "ledger", "LReceivablesBook$Ledger;", true)
  | 4 => ("ReceivablesBook", "shares", "LReceivablesBook$Shares;", true)
  | _ => ("ReceivablesBook", "currentDay", "I", false)
def tyX6 : Nat → FieldType := fun k => match k with
  | 0 => .object "java/util/ArrayList"
  | 1 => .object "java/util/ArrayList"
  | 2 => .object "java/util/ArrayList"
  | 3 => .object "ReceivablesBook$Ledger"
  | 4 => .object "ReceivablesBook$Shares"
  | _ => .int
abbrev wsX60 : List Cond := u_ws RX6 TX6 6
theorem nmX6 : ∀ a, a < 6 → ∀ b, b < 6 → a ≠ b → (TX6 a).2.1 ≠ (TX6 b).2.1 := by decide +kernel
theorem tyX6_ok : ∀ k, k < 6 → parseFieldDescriptor (TX6 k).2.2.1 = some (tyX6 k) := by decide +kernel
abbrev cX6_init : ByteArray := prog_1_method_1_code
def yX6_init : MethodName := ⟨RX6, "<init>", "()V"⟩
abbrev cX6_addCustomer : ByteArray := prog_1_method_2_code
def yX6_addCustomer : MethodName := ⟨RX6, "addCustomer", "(III)I"⟩
abbrev cX6_setRule : ByteArray := prog_1_method_3_code
def yX6_setRule : MethodName := ⟨RX6, "setRule", "(II)I"⟩
abbrev cX6_setRate : ByteArray := prog_1_method_4_code
def yX6_setRate : MethodName := ⟨RX6, "setRate", "(II)I"⟩
abbrev cX6_pauseReminders : ByteArray := prog_1_method_5_code
def yX6_pauseReminders : MethodName := ⟨RX6, "pauseReminders", "(II)I"⟩
abbrev cX6_today : ByteArray := prog_1_method_6_code
def yX6_today : MethodName := ⟨RX6, "today", "()I"⟩
abbrev cX6_passDays : ByteArray := prog_1_method_7_code
def yX6_passDays : MethodName := ⟨RX6, "passDays", "(I)I"⟩
abbrev cX6_passOneDay : ByteArray := prog_1_method_9_code
def yX6_passOneDay : MethodName := ⟨RX6, "passOneDay", "()V"⟩
abbrev cX6_postInvoice : ByteArray := prog_1_method_10_code
def yX6_postInvoice : MethodName := ⟨RX6, "postInvoice", "(III)I"⟩
abbrev cX6_postPayment : ByteArray := prog_1_method_11_code
def yX6_postPayment : MethodName := ⟨RX6, "postPayment", "(II)I"⟩
abbrev cX6_allocate : ByteArray := prog_1_method_12_code
def yX6_allocate : MethodName := ⟨RX6, "allocate", "(III)I"⟩
abbrev cX6_allocateRest : ByteArray := prog_1_method_13_code
def yX6_allocateRest : MethodName := ⟨RX6, "allocateRest", "(I)I"⟩
abbrev cX6_release : ByteArray := prog_1_method_14_code
def yX6_release : MethodName := ⟨RX6, "release", "(II)I"⟩
abbrev cX6_reverse : ByteArray := prog_1_method_15_code
def yX6_reverse : MethodName := ⟨RX6, "reverse", "(I)I"⟩
abbrev cX6_enterInvoice : ByteArray := prog_1_method_16_code
def yX6_enterInvoice : MethodName := ⟨RX6, "enterInvoice", "(LReceivablesBook$Invoice;)I"⟩
abbrev cX6_allocateByRule : ByteArray := prog_1_method_17_code
def yX6_allocateByRule : MethodName := ⟨RX6, "allocateByRule", "(LReceivablesBook$Payment;)I"⟩
abbrev cX6_weighClearAmounts : ByteArray := prog_1_method_18_code
def yX6_weighClearAmounts : MethodName := ⟨RX6, "weighClearAmounts", "(LReceivablesBook$Customer;)V"⟩
abbrev cX6_shareOldestFirst : ByteArray := prog_1_method_19_code
def yX6_shareOldestFirst : MethodName := ⟨RX6, "shareOldestFirst", "(I)V"⟩
abbrev cX6_oldestWithoutPart : ByteArray := prog_1_method_20_code
def yX6_oldestWithoutPart : MethodName := ⟨RX6, "oldestWithoutPart", "()I"⟩
abbrev cX6_moveToInvoice : ByteArray := prog_1_method_21_code
def yX6_moveToInvoice : MethodName := ⟨RX6, "moveToInvoice", "(LReceivablesBook$Payment;II)V"⟩
abbrev cX6_takeBack : ByteArray := prog_1_method_22_code
def yX6_takeBack : MethodName := ⟨RX6, "takeBack", "(LReceivablesBook$Payment;I)I"⟩
abbrev cX6_dispute : ByteArray := prog_1_method_23_code
def yX6_dispute : MethodName := ⟨RX6, "dispute", "(II)I"⟩
abbrev cX6_disputeAll : ByteArray := prog_1_method_24_code
def yX6_disputeAll : MethodName := ⟨RX6, "disputeAll", "(II)I"⟩
abbrev cX6_settle : ByteArray := prog_1_method_25_code
def yX6_settle : MethodName := ⟨RX6, "settle", "(II)I"⟩
abbrev cX6_chargeInterest : ByteArray := prog_1_method_26_code
def yX6_chargeInterest : MethodName := ⟨RX6, "chargeInterest", "(II)I"⟩
abbrev cX6_accrued : ByteArray := prog_1_method_27_code
def yX6_accrued : MethodName := ⟨RX6, "accrued", "(I)I"⟩
abbrev cX6_isInterest : ByteArray := prog_1_method_28_code
def yX6_isInterest : MethodName := ⟨RX6, "isInterest", "(I)Z"⟩
abbrev cX6_accruedOfAll : ByteArray := prog_1_method_29_code
def yX6_accruedOfAll : MethodName := ⟨RX6, "accruedOfAll", "(LReceivablesBook$Customer;)I"⟩
abbrev cX6_customers : ByteArray := prog_1_method_30_code
def yX6_customers : MethodName := ⟨RX6, "customers", "()I"⟩
abbrev cX6_invoices : ByteArray := prog_1_method_31_code
def yX6_invoices : MethodName := ⟨RX6, "invoices", "()I"⟩
abbrev cX6_payments : ByteArray := prog_1_method_32_code
def yX6_payments : MethodName := ⟨RX6, "payments", "()I"⟩
abbrev cX6_amountOf : ByteArray := prog_1_method_33_code
def yX6_amountOf : MethodName := ⟨RX6, "amountOf", "(I)I"⟩
abbrev cX6_dueDay : ByteArray := prog_1_method_34_code
def yX6_dueDay : MethodName := ⟨RX6, "dueDay", "(I)I"⟩
abbrev cX6_openOf : ByteArray := prog_1_method_35_code
def yX6_openOf : MethodName := ⟨RX6, "openOf", "(I)I"⟩
abbrev cX6_openByLedger : ByteArray := prog_1_method_36_code
def yX6_openByLedger : MethodName := ⟨RX6, "openByLedger", "(I)I"⟩
abbrev cX6_disputedOf : ByteArray := prog_1_method_37_code
def yX6_disputedOf : MethodName := ⟨RX6, "disputedOf", "(I)I"⟩
abbrev cX6_allocated : ByteArray := prog_1_method_38_code
def yX6_allocated : MethodName := ⟨RX6, "allocated", "(II)I"⟩
abbrev cX6_unallocated : ByteArray := prog_1_method_39_code
def yX6_unallocated : MethodName := ⟨RX6, "unallocated", "(I)I"⟩
abbrev cX6_balance : ByteArray := prog_1_method_40_code
def yX6_balance : MethodName := ⟨RX6, "balance", "(I)I"⟩
abbrev cX6_bucketOf : ByteArray := prog_1_method_41_code
def yX6_bucketOf : MethodName := ⟨RX6, "bucketOf", "(I)I"⟩
abbrev cX6_ageing : ByteArray := prog_1_method_42_code
def yX6_ageing : MethodName := ⟨RX6, "ageing", "(II)I"⟩
abbrev cX6_oldest : ByteArray := prog_1_method_43_code
def yX6_oldest : MethodName := ⟨RX6, "oldest", "(I)I"⟩
abbrev cX6_levelOf : ByteArray := prog_1_method_44_code
def yX6_levelOf : MethodName := ⟨RX6, "levelOf", "(I)I"⟩
abbrev cX6_daysToReminder : ByteArray := prog_1_method_45_code
def yX6_daysToReminder : MethodName := ⟨RX6, "daysToReminder", "(I)I"⟩
abbrev cX6_invoicesAt : ByteArray := prog_1_method_46_code
def yX6_invoicesAt : MethodName := ⟨RX6, "invoicesAt", "(I)I"⟩
abbrev cX6_ledgerLines : ByteArray := prog_1_method_47_code
def yX6_ledgerLines : MethodName := ⟨RX6, "ledgerLines", "()I"⟩
abbrev cX6_lineInvoice : ByteArray := prog_1_method_48_code
def yX6_lineInvoice : MethodName := ⟨RX6, "lineInvoice", "(I)I"⟩
abbrev cX6_lineAmount : ByteArray := prog_1_method_49_code
def yX6_lineAmount : MethodName := ⟨RX6, "lineAmount", "(I)I"⟩
abbrev cX6_customerAt : ByteArray := prog_1_method_50_code
def yX6_customerAt : MethodName := ⟨RX6, "customerAt", "(I)LReceivablesBook$Customer;"⟩
abbrev cX6_invoiceAt : ByteArray := prog_1_method_51_code
def yX6_invoiceAt : MethodName := ⟨RX6, "invoiceAt", "(I)LReceivablesBook$Invoice;"⟩
abbrev cX6_paymentAt : ByteArray := prog_1_method_52_code
def yX6_paymentAt : MethodName := ⟨RX6, "paymentAt", "(I)LReceivablesBook$Payment;"⟩
abbrev cX6_requireIndex : ByteArray := prog_1_method_53_code
def yX6_requireIndex : MethodName := ⟨RX6, "requireIndex", "(II)V"⟩
abbrev cX6_requireRange : ByteArray := prog_1_method_54_code
def yX6_requireRange : MethodName := ⟨RX6, "requireRange", "(III)V"⟩
abbrev cX6_requireCent : ByteArray := prog_1_method_55_code
def yX6_requireCent : MethodName := ⟨RX6, "requireCent", "(I)V"⟩
abbrev cX6_requireRoom : ByteArray := prog_1_method_56_code
def yX6_requireRoom : MethodName := ⟨RX6, "requireRoom", "(II)V"⟩
abbrev cX6_requireState : ByteArray := prog_1_method_57_code
def yX6_requireState : MethodName := ⟨RX6, "requireState", "(Z)V"⟩
def RX7 : String := "ReceivablesBookModel"
def TX7 : u_T := fun k => match k with
  | _ => ("", "", "", false)
def tyX7 : Nat → FieldType := fun k => match k with
  | _ => .int
abbrev wsX70 : List Cond := u_ws RX7 TX7 0
theorem nmX7 : ∀ a, a < 0 → ∀ b, b < 0 → a ≠ b → (TX7 a).2.1 ≠ (TX7 b).2.1 := by decide +kernel
theorem tyX7_ok : ∀ k, k < 0 → parseFieldDescriptor (TX7 k).2.2.1 = some (tyX7 k) := by decide +kernel
def RJx145de : String := "java/io/Serializable"
def TJx145de : u_T := fun k => match k with
  | _ => ("", "", "", false)
def tyJx145de : Nat → FieldType := fun k => match k with
  | _ => .int
abbrev wsJx145de0 : List Cond := u_ws RJx145de TJx145de 0
theorem nmJx145de : ∀ a, a < 0 → ∀ b, b < 0 → a ≠ b → (TJx145de a).2.1 ≠ (TJx145de b).2.1 := by decide +kernel
theorem tyJx145de_ok : ∀ k, k < 0 → parseFieldDescriptor (TJx145de k).2.2.1 = some (tyJx145de k) := by decide +kernel
def RJx8e188 : String := "java/lang/Cloneable"
def TJx8e188 : u_T := fun k => match k with
  | _ => ("", "", "", false)
def tyJx8e188 : Nat → FieldType := fun k => match k with
  | _ => .int
abbrev wsJx8e1880 : List Cond := u_ws RJx8e188 TJx8e188 0
theorem nmJx8e188 : ∀ a, a < 0 → ∀ b, b < 0 → a ≠ b → (TJx8e188 a).2.1 ≠ (TJx8e188 b).2.1 := by decide +kernel
theorem tyJx8e188_ok : ∀ k, k < 0 → parseFieldDescriptor (TJx8e188 k).2.2.1 = some (tyJx8e188 k) := by decide +kernel
def RJxab1ab : String := "java/lang/Iterable"
def TJxab1ab : u_T := fun k => match k with
  | _ => ("", "", "", false)
def tyJxab1ab : Nat → FieldType := fun k => match k with
  | _ => .int
abbrev wsJxab1ab0 : List Cond := u_ws RJxab1ab TJxab1ab 0
theorem nmJxab1ab : ∀ a, a < 0 → ∀ b, b < 0 → a ≠ b → (TJxab1ab a).2.1 ≠ (TJxab1ab b).2.1 := by decide +kernel
theorem tyJxab1ab_ok : ∀ k, k < 0 → parseFieldDescriptor (TJxab1ab k).2.2.1 = some (tyJxab1ab k) := by decide +kernel
def RJ9 : String := "java/lang/Math"
def TJ9 : u_T := fun k => match k with
  | _ => ("", "", "", false)
def tyJ9 : Nat → FieldType := fun k => match k with
  | _ => .int
abbrev wsJ90 : List Cond := u_ws RJ9 TJ9 0
theorem nmJ9 : ∀ a, a < 0 → ∀ b, b < 0 → a ≠ b → (TJ9 a).2.1 ≠ (TJ9 b).2.1 := by decide +kernel
theorem tyJ9_ok : ∀ k, k < 0 → parseFieldDescriptor (TJ9 k).2.2.1 = some (tyJ9 k) := by decide +kernel
abbrev cJ9_max_7cf53 : ByteArray := prog_17_method_65_code
def yJ9_max_7cf53 : MethodName := ⟨RJ9, "max", "(II)I"⟩
abbrev cJ9_min_7cf53 : ByteArray := prog_17_method_69_code
def yJ9_min_7cf53 : MethodName := ⟨RJ9, "min", "(II)I"⟩
abbrev cJ9_min_f86c9 : ByteArray := prog_17_method_70_code
def yJ9_min_f86c9 : MethodName := ⟨RJ9, "min", "(JJ)J"⟩
def RJ0 : String := "java/lang/String"
def TJ0 : u_T := fun k => match k with
  | _ => ("", "", "", false)
def tyJ0 : Nat → FieldType := fun k => match k with
  | _ => .int
abbrev wsJ00 : List Cond := u_ws RJ0 TJ0 0
theorem nmJ0 : ∀ a, a < 0 → ∀ b, b < 0 → a ≠ b → (TJ0 a).2.1 ≠ (TJ0 b).2.1 := by decide +kernel
theorem tyJ0_ok : ∀ k, k < 0 → parseFieldDescriptor (TJ0 k).2.2.1 = some (tyJ0 k) := by decide +kernel
def RJ10 : String := "java/lang/System"
def TJ10 : u_T := fun k => match k with
  | _ => ("", "", "", false)
def tyJ10 : Nat → FieldType := fun k => match k with
  | _ => .int
abbrev wsJ100 : List Cond := u_ws RJ10 TJ10 0
theorem nmJ10 : ∀ a, a < 0 → ∀ b, b < 0 → a ≠ b → (TJ10 a).2.1 ≠ (TJ10 b).2.1 := by decide +kernel
theorem tyJ10_ok : ∀ k, k < 0 → parseFieldDescriptor (TJ10 k).2.2.1 = some (tyJ10 k) := by decide +kernel
def RJxa1e45 : String := "java/util/AbstractCollection"
def TJxa1e45 : u_T := fun k => match k with
  | _ => ("", "", "", false)
def tyJxa1e45 : Nat → FieldType := fun k => match k with
  | _ => .int
abbrev wsJxa1e450 : List Cond := u_ws RJxa1e45 TJxa1e45 0
theorem nmJxa1e45 : ∀ a, a < 0 → ∀ b, b < 0 → a ≠ b → (TJxa1e45 a).2.1 ≠ (TJxa1e45 b).2.1 := by decide +kernel
theorem tyJxa1e45_ok : ∀ k, k < 0 → parseFieldDescriptor (TJxa1e45 k).2.2.1 = some (tyJxa1e45 k) := by decide +kernel
abbrev cJxa1e45_init_da8c8 : ByteArray := prog_22_method_1_code
def yJxa1e45_init_da8c8 : MethodName := ⟨RJxa1e45, "<init>", "()V"⟩
def RJxc12de : String := "java/util/AbstractList"
def TJxc12de : u_T := fun k => match k with
  | _ => ("", "", "", false)
def tyJxc12de : Nat → FieldType := fun k => match k with
  | _ => .int
abbrev wsJxc12de0 : List Cond := u_ws RJxc12de TJxc12de 0
theorem nmJxc12de : ∀ a, a < 0 → ∀ b, b < 0 → a ≠ b → (TJxc12de a).2.1 ≠ (TJxc12de b).2.1 := by decide +kernel
theorem tyJxc12de_ok : ∀ k, k < 0 → parseFieldDescriptor (TJxc12de k).2.2.1 = some (tyJxc12de k) := by decide +kernel
abbrev cJxc12de_init_da8c8 : ByteArray := prog_23_method_1_code
def yJxc12de_init_da8c8 : MethodName := ⟨RJxc12de, "<init>", "()V"⟩
def RJx4a65c : String := "java/util/ArrayList"
def TJx4a65c : u_T := fun k => match k with
  | 0 => ("java/util/AbstractList", "modCount", "I", false)
  | 1 => ("java/util/ArrayList", "elementData", "[Ljava/lang/Object;", false)
  | _ => ("java/util/ArrayList", "size", "I", false)
def tyJx4a65c : Nat → FieldType := fun k => match k with
  | 0 => .int
  | 1 => .array (.object "java/lang/Object")
  | _ => .int
abbrev wsJx4a65c0 : List Cond := u_ws RJx4a65c TJx4a65c 3
theorem nmJx4a65c : ∀ a, a < 3 → ∀ b, b < 3 → a ≠ b → (TJx4a65c a).2.1 ≠ (TJx4a65c b).2.1 := by decide +kernel
theorem tyJx4a65c_ok : ∀ k, k < 3 → parseFieldDescriptor (TJx4a65c k).2.2.1 = some (tyJx4a65c k) := by decide +kernel
abbrev cJx4a65c_init_da8c8 : ByteArray := prog_24_method_2_code
def yJx4a65c_init_da8c8 : MethodName := ⟨RJx4a65c, "<init>", "()V"⟩
abbrev cJx4a65c_grow_92f84 : ByteArray := prog_24_method_6_code
def yJx4a65c_grow_92f84 : MethodName := ⟨RJx4a65c, "grow", "(I)[Ljava/lang/Object;"⟩
abbrev cJx4a65c_grow_d5877 : ByteArray := prog_24_method_7_code
def yJx4a65c_grow_d5877 : MethodName := ⟨RJx4a65c, "grow", "()[Ljava/lang/Object;"⟩
abbrev cJx4a65c_size_8abf5 : ByteArray := prog_24_method_8_code
def yJx4a65c_size_8abf5 : MethodName := ⟨RJx4a65c, "size", "()I"⟩
abbrev cJx4a65c_elementData_915e3 : ByteArray := prog_24_method_18_code
def yJx4a65c_elementData_915e3 : MethodName := ⟨RJx4a65c, "elementData", "(I)Ljava/lang/Object;"⟩
abbrev cJx4a65c_get_915e3 : ByteArray := prog_24_method_20_code
def yJx4a65c_get_915e3 : MethodName := ⟨RJx4a65c, "get", "(I)Ljava/lang/Object;"⟩
abbrev cJx4a65c_add_72be8 : ByteArray := prog_24_method_24_code
def yJx4a65c_add_72be8 : MethodName := ⟨RJx4a65c, "add", "(Ljava/lang/Object;[Ljava/lang/Object;I)V"⟩
abbrev cJx4a65c_add_9ea2d : ByteArray := prog_24_method_25_code
def yJx4a65c_add_9ea2d : MethodName := ⟨RJx4a65c, "add", "(Ljava/lang/Object;)Z"⟩
def RJ7 : String := "java/util/Arrays"
def TJ7 : u_T := fun k => match k with
  | _ => ("", "", "", false)
def tyJ7 : Nat → FieldType := fun k => match k with
  | _ => .int
abbrev wsJ70 : List Cond := u_ws RJ7 TJ7 0
theorem nmJ7 : ∀ a, a < 0 → ∀ b, b < 0 → a ≠ b → (TJ7 a).2.1 ≠ (TJ7 b).2.1 := by decide +kernel
theorem tyJ7_ok : ∀ k, k < 0 → parseFieldDescriptor (TJ7 k).2.2.1 = some (tyJ7 k) := by decide +kernel
abbrev cJ7_fill_53178 : ByteArray := prog_25_method_103_code
def yJ7_fill_53178 : MethodName := ⟨RJ7, "fill", "([II)V"⟩
abbrev cJ7_copyOf_1904c : ByteArray := prog_25_method_119_code
def yJ7_copyOf_1904c : MethodName := ⟨RJ7, "copyOf", "([Ljava/lang/Object;I)[Ljava/lang/Object;"⟩
abbrev cJ7_copyOf_6403c : ByteArray := prog_25_method_120_code
def yJ7_copyOf_6403c : MethodName := ⟨RJ7, "copyOf", "([Ljava/lang/Object;ILjava/lang/Class;)[Ljava/lang/Object;"⟩
abbrev cJ7_copyOf_59c91 : ByteArray := prog_25_method_123_code
def yJ7_copyOf_59c91 : MethodName := ⟨RJ7, "copyOf", "([II)[I"⟩
def RJx5ef63 : String := "java/util/Collection"
def TJx5ef63 : u_T := fun k => match k with
  | _ => ("", "", "", false)
def tyJx5ef63 : Nat → FieldType := fun k => match k with
  | _ => .int
abbrev wsJx5ef630 : List Cond := u_ws RJx5ef63 TJx5ef63 0
theorem nmJx5ef63 : ∀ a, a < 0 → ∀ b, b < 0 → a ≠ b → (TJx5ef63 a).2.1 ≠ (TJx5ef63 b).2.1 := by decide +kernel
theorem tyJx5ef63_ok : ∀ k, k < 0 → parseFieldDescriptor (TJx5ef63 k).2.2.1 = some (tyJx5ef63 k) := by decide +kernel
def RJxbd725 : String := "java/util/List"
def TJxbd725 : u_T := fun k => match k with
  | _ => ("", "", "", false)
def tyJxbd725 : Nat → FieldType := fun k => match k with
  | _ => .int
abbrev wsJxbd7250 : List Cond := u_ws RJxbd725 TJxbd725 0
theorem nmJxbd725 : ∀ a, a < 0 → ∀ b, b < 0 → a ≠ b → (TJxbd725 a).2.1 ≠ (TJxbd725 b).2.1 := by decide +kernel
theorem tyJxbd725_ok : ∀ k, k < 0 → parseFieldDescriptor (TJxbd725 k).2.2.1 = some (tyJxbd725 k) := by decide +kernel
def RJ15 : String := "java/util/Objects"
def TJ15 : u_T := fun k => match k with
  | _ => ("", "", "", false)
def tyJ15 : Nat → FieldType := fun k => match k with
  | _ => .int
abbrev wsJ150 : List Cond := u_ws RJ15 TJ15 0
theorem nmJ15 : ∀ a, a < 0 → ∀ b, b < 0 → a ≠ b → (TJ15 a).2.1 ≠ (TJ15 b).2.1 := by decide +kernel
theorem tyJ15_ok : ∀ k, k < 0 → parseFieldDescriptor (TJ15 k).2.2.1 = some (tyJ15 k) := by decide +kernel
abbrev cJ15_checkIndex_7cf53 : ByteArray := prog_28_method_17_code
def yJ15_checkIndex_7cf53 : MethodName := ⟨RJ15, "checkIndex", "(II)I"⟩
def RJxf0a74 : String := "java/util/RandomAccess"
def TJxf0a74 : u_T := fun k => match k with
  | _ => ("", "", "", false)
def tyJxf0a74 : Nat → FieldType := fun k => match k with
  | _ => .int
abbrev wsJxf0a740 : List Cond := u_ws RJxf0a74 TJxf0a74 0
theorem nmJxf0a74 : ∀ a, a < 0 → ∀ b, b < 0 → a ≠ b → (TJxf0a74 a).2.1 ≠ (TJxf0a74 b).2.1 := by decide +kernel
theorem tyJxf0a74_ok : ∀ k, k < 0 → parseFieldDescriptor (TJxf0a74 k).2.2.1 = some (tyJxf0a74 k) := by decide +kernel
def RJxa66e6 : String := "java/util/SequencedCollection"
def TJxa66e6 : u_T := fun k => match k with
  | _ => ("", "", "", false)
def tyJxa66e6 : Nat → FieldType := fun k => match k with
  | _ => .int
abbrev wsJxa66e60 : List Cond := u_ws RJxa66e6 TJxa66e6 0
theorem nmJxa66e6 : ∀ a, a < 0 → ∀ b, b < 0 → a ≠ b → (TJxa66e6 a).2.1 ≠ (TJxa66e6 b).2.1 := by decide +kernel
theorem tyJxa66e6_ok : ∀ k, k < 0 → parseFieldDescriptor (TJxa66e6 k).2.2.1 = some (tyJxa66e6 k) := by decide +kernel
def RJ8 : String := "jdk/internal/util/ArraysSupport"
def TJ8 : u_T := fun k => match k with
  | _ => ("", "", "", false)
def tyJ8 : Nat → FieldType := fun k => match k with
  | _ => .int
abbrev wsJ80 : List Cond := u_ws RJ8 TJ8 0
theorem nmJ8 : ∀ a, a < 0 → ∀ b, b < 0 → a ≠ b → (TJ8 a).2.1 ≠ (TJ8 b).2.1 := by decide +kernel
theorem tyJ8_ok : ∀ k, k < 0 → parseFieldDescriptor (TJ8 k).2.2.1 = some (tyJ8 k) := by decide +kernel
abbrev cJ8_newLength_cabcc : ByteArray := prog_31_method_27_code
def yJ8_newLength_cabcc : MethodName := ⟨RJ8, "newLength", "(III)I"⟩
abbrev cJ8_hugeLength_7cf53 : ByteArray := prog_31_method_28_code
def yJ8_hugeLength_7cf53 : MethodName := ⟨RJ8, "hugeLength", "(II)I"⟩
def RJ3 : String := "jdk/internal/util/Preconditions"
def TJ3 : u_T := fun k => match k with
  | _ => ("", "", "", false)
def tyJ3 : Nat → FieldType := fun k => match k with
  | _ => .int
abbrev wsJ30 : List Cond := u_ws RJ3 TJ3 0
theorem nmJ3 : ∀ a, a < 0 → ∀ b, b < 0 → a ≠ b → (TJ3 a).2.1 ≠ (TJ3 b).2.1 := by decide +kernel
theorem tyJ3_ok : ∀ k, k < 0 → parseFieldDescriptor (TJ3 k).2.2.1 = some (tyJ3 k) := by decide +kernel
abbrev cJ3_checkIndex_8e157 : ByteArray := prog_32_method_11_code
def yJ3_checkIndex_8e157 : MethodName := ⟨RJ3, "checkIndex", "(IILjava/util/function/BiFunction;)I"⟩
def RL : String := "ReceivablesBookLaw"
abbrev cL_draw : ByteArray := method_2_code
def yL_draw : MethodName := ⟨RL, "draw", "([II)I"⟩
abbrev cL_from : ByteArray := method_3_code
def yL_from : MethodName := ⟨RL, "from", "(JJJ)Z"⟩
abbrev cL_customer : ByteArray := method_4_code
def yL_customer : MethodName := ⟨RL, "customer", "(LReceivablesBook;III)J"⟩
abbrev cL_rule : ByteArray := method_5_code
def yL_rule : MethodName := ⟨RL, "rule", "(LReceivablesBook;II)J"⟩
abbrev cL_rate : ByteArray := method_6_code
def yL_rate : MethodName := ⟨RL, "rate", "(LReceivablesBook;II)J"⟩
abbrev cL_pause : ByteArray := method_7_code
def yL_pause : MethodName := ⟨RL, "pause", "(LReceivablesBook;II)J"⟩
abbrev cL_pass : ByteArray := method_8_code
def yL_pass : MethodName := ⟨RL, "pass", "(LReceivablesBook;I)J"⟩
abbrev cL_invoice : ByteArray := method_10_code
def yL_invoice : MethodName := ⟨RL, "invoice", "(LReceivablesBook;III)J"⟩
abbrev cL_pay : ByteArray := method_11_code
def yL_pay : MethodName := ⟨RL, "pay", "(LReceivablesBook;II)J"⟩
abbrev cL_allocate : ByteArray := method_12_code
def yL_allocate : MethodName := ⟨RL, "allocate", "(LReceivablesBook;III)J"⟩
abbrev cL_rest : ByteArray := method_13_code
def yL_rest : MethodName := ⟨RL, "rest", "(LReceivablesBook;I)J"⟩
abbrev cL_release : ByteArray := method_14_code
def yL_release : MethodName := ⟨RL, "release", "(LReceivablesBook;II)J"⟩
abbrev cL_reverse : ByteArray := method_15_code
def yL_reverse : MethodName := ⟨RL, "reverse", "(LReceivablesBook;I)J"⟩
abbrev cL_dispute : ByteArray := method_16_code
def yL_dispute : MethodName := ⟨RL, "dispute", "(LReceivablesBook;II)J"⟩
abbrev cL_disputeAll : ByteArray := method_17_code
def yL_disputeAll : MethodName := ⟨RL, "disputeAll", "(LReceivablesBook;II)J"⟩
abbrev cL_settle : ByteArray := method_18_code
def yL_settle : MethodName := ⟨RL, "settle", "(LReceivablesBook;II)J"⟩
abbrev cL_charge : ByteArray := method_19_code
def yL_charge : MethodName := ⟨RL, "charge", "(LReceivablesBook;II)J"⟩
abbrev cL_accrued : ByteArray := method_20_code
def yL_accrued : MethodName := ⟨RL, "accrued", "(LReceivablesBook;I)J"⟩
abbrev cL_interest : ByteArray := method_21_code
def yL_interest : MethodName := ⟨RL, "interest", "(LReceivablesBook;I)J"⟩
abbrev cL_amount : ByteArray := method_22_code
def yL_amount : MethodName := ⟨RL, "amount", "(LReceivablesBook;I)J"⟩
abbrev cL_due : ByteArray := method_23_code
def yL_due : MethodName := ⟨RL, "due", "(LReceivablesBook;I)J"⟩
abbrev cL_open : ByteArray := method_24_code
def yL_open : MethodName := ⟨RL, "open", "(LReceivablesBook;I)J"⟩
abbrev cL_byLedger : ByteArray := method_25_code
def yL_byLedger : MethodName := ⟨RL, "byLedger", "(LReceivablesBook;I)J"⟩
abbrev cL_disputed : ByteArray := method_26_code
def yL_disputed : MethodName := ⟨RL, "disputed", "(LReceivablesBook;I)J"⟩
abbrev cL_allocated : ByteArray := method_27_code
def yL_allocated : MethodName := ⟨RL, "allocated", "(LReceivablesBook;II)J"⟩
abbrev cL_unallocated : ByteArray := method_28_code
def yL_unallocated : MethodName := ⟨RL, "unallocated", "(LReceivablesBook;I)J"⟩
abbrev cL_balance : ByteArray := method_29_code
def yL_balance : MethodName := ⟨RL, "balance", "(LReceivablesBook;I)J"⟩
abbrev cL_bucket : ByteArray := method_30_code
def yL_bucket : MethodName := ⟨RL, "bucket", "(LReceivablesBook;I)J"⟩
abbrev cL_ageing : ByteArray := method_31_code
def yL_ageing : MethodName := ⟨RL, "ageing", "(LReceivablesBook;II)J"⟩
abbrev cL_oldest : ByteArray := method_32_code
def yL_oldest : MethodName := ⟨RL, "oldest", "(LReceivablesBook;I)J"⟩
abbrev cL_level : ByteArray := method_33_code
def yL_level : MethodName := ⟨RL, "level", "(LReceivablesBook;I)J"⟩
abbrev cL_toReminder : ByteArray := method_34_code
def yL_toReminder : MethodName := ⟨RL, "toReminder", "(LReceivablesBook;I)J"⟩
abbrev cL_atLevel : ByteArray := method_35_code
def yL_atLevel : MethodName := ⟨RL, "atLevel", "(LReceivablesBook;I)J"⟩
abbrev cL_lineOf : ByteArray := method_36_code
def yL_lineOf : MethodName := ⟨RL, "lineOf", "(LReceivablesBook;I)J"⟩
abbrev cL_lineAmount : ByteArray := method_37_code
def yL_lineAmount : MethodName := ⟨RL, "lineAmount", "(LReceivablesBook;I)J"⟩
abbrev cL_now : ByteArray := method_38_code
def yL_now : MethodName := ⟨RL, "now", "(LReceivablesBook;)J"⟩
abbrev cL_refuses : ByteArray := method_39_code
def yL_refuses : MethodName := ⟨RL, "refuses", "(LReceivablesBook;)Z"⟩
abbrev cL_addsUp : ByteArray := method_40_code
def yL_addsUp : MethodName := ⟨RL, "addsUp", "(LReceivablesBook;[I[I[I[I)Z"⟩
abbrev cL_clear : ByteArray := method_41_code
def yL_clear : MethodName := ⟨RL, "clear", "(LReceivablesBook;[II)J"⟩
abbrev cL_interests : ByteArray := method_42_code
def yL_interests : MethodName := ⟨RL, "interests", "(LReceivablesBook;[II)J"⟩
abbrev cL_pays : ByteArray := method_43_code
def yL_pays : MethodName := ⟨RL, "pays", "(LReceivablesBook;[I[I[IIII)Z"⟩
abbrev cL_law : ByteArray := code
def yL_law : MethodName := ⟨RL, "law", "([I)Z"⟩
abbrev vwCl : List vw_C := [(RJx4a65c, TJx4a65c, 3), (RX0, TX0, 4), (RX2, TX2, 10), (RX3, TX3, 3), (RX4, TX4, 5), (RX5, TX5, 3), (RX6, TX6, 6)]
