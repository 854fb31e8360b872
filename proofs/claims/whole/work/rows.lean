section
-- ===== PART A: goes FIRST, ahead of the names: the tables' words, and 'selects' of the private methods out of them =====
/-- a private method of a class that the tables say can be made, by its rows of tables_1 -/
def lw_okq (q : MethodName × Nat) : Prop := (q.1.cls ≠ "java/lang/invoke/MethodHandle" ∧ q.1.cls ≠ "java/lang/invoke/VarHandle") ∧ Cond.instantiable q.1.cls q.2 ∈ tables_1 ∧ Cond.privateMethod q.1 ∈ tables_1 ∧ Cond.instanceMethod q.1 ∈ tables_1
theorem lw_p0 : lw_okq (⟨"java/lang/Throwable", "fillInStackTrace", "(I)Ljava/lang/Throwable;"⟩, 6) := ⟨⟨by decide +kernel, by decide +kernel⟩, List.mem_of_getElem? (i := 187) (by decide +kernel), List.mem_of_getElem? (i := 185) (by decide +kernel), List.mem_of_getElem? (i := 186) (by decide +kernel)⟩
theorem lw_p1 : lw_okq (⟨"java/util/ArrayList", "add", "(Ljava/lang/Object;[Ljava/lang/Object;I)V"⟩, 3) := ⟨⟨by decide +kernel, by decide +kernel⟩, List.mem_of_getElem? (i := 33) (by decide +kernel), List.mem_of_getElem? (i := 264) (by decide +kernel), List.mem_of_getElem? (i := 265) (by decide +kernel)⟩
theorem lw_p2 : lw_okq (⟨"java/util/ArrayList", "grow", "()[Ljava/lang/Object;"⟩, 3) := ⟨⟨by decide +kernel, by decide +kernel⟩, List.mem_of_getElem? (i := 33) (by decide +kernel), List.mem_of_getElem? (i := 268) (by decide +kernel), List.mem_of_getElem? (i := 269) (by decide +kernel)⟩
theorem lw_p3 : lw_okq (⟨"java/util/ArrayList", "grow", "(I)[Ljava/lang/Object;"⟩, 3) := ⟨⟨by decide +kernel, by decide +kernel⟩, List.mem_of_getElem? (i := 33) (by decide +kernel), List.mem_of_getElem? (i := 272) (by decide +kernel), List.mem_of_getElem? (i := 273) (by decide +kernel)⟩
theorem lw_p4 : lw_okq (⟨"ReceivablesBook", "customerAt", "(I)LReceivablesBook$Customer;"⟩, 6) := ⟨⟨by decide +kernel, by decide +kernel⟩, List.mem_of_getElem? (i := 25) (by decide +kernel), List.mem_of_getElem? (i := 326) (by decide +kernel), List.mem_of_getElem? (i := 327) (by decide +kernel)⟩
theorem lw_p5 : lw_okq (⟨"ReceivablesBook", "passOneDay", "()V"⟩, 6) := ⟨⟨by decide +kernel, by decide +kernel⟩, List.mem_of_getElem? (i := 25) (by decide +kernel), List.mem_of_getElem? (i := 388) (by decide +kernel), List.mem_of_getElem? (i := 389) (by decide +kernel)⟩
theorem lw_p6 : lw_okq (⟨"ReceivablesBook$Invoice", "canBeReminded", "()Z"⟩, 10) := ⟨⟨by decide +kernel, by decide +kernel⟩, List.mem_of_getElem? (i := 423) (by decide +kernel), List.mem_of_getElem? (i := 421) (by decide +kernel), List.mem_of_getElem? (i := 422) (by decide +kernel)⟩
theorem lw_p7 : lw_okq (⟨"ReceivablesBook$Invoice", "waitOfLevel", "()I"⟩, 10) := ⟨⟨by decide +kernel, by decide +kernel⟩, List.mem_of_getElem? (i := 423) (by decide +kernel), List.mem_of_getElem? (i := 426) (by decide +kernel), List.mem_of_getElem? (i := 427) (by decide +kernel)⟩
theorem lw_p8 : lw_okq (⟨"ReceivablesBook", "enterInvoice", "(LReceivablesBook$Invoice;)I"⟩, 6) := ⟨⟨by decide +kernel, by decide +kernel⟩, List.mem_of_getElem? (i := 25) (by decide +kernel), List.mem_of_getElem? (i := 487) (by decide +kernel), List.mem_of_getElem? (i := 488) (by decide +kernel)⟩
theorem lw_p9 : lw_okq (⟨"ReceivablesBook$Ledger", "doubleRoom", "()V"⟩, 3) := ⟨⟨by decide +kernel, by decide +kernel⟩, List.mem_of_getElem? (i := 59) (by decide +kernel), List.mem_of_getElem? (i := 495) (by decide +kernel), List.mem_of_getElem? (i := 496) (by decide +kernel)⟩
theorem lw_p10 : lw_okq (⟨"ReceivablesBook", "allocateByRule", "(LReceivablesBook$Payment;)I"⟩, 6) := ⟨⟨by decide +kernel, by decide +kernel⟩, List.mem_of_getElem? (i := 25) (by decide +kernel), List.mem_of_getElem? (i := 540) (by decide +kernel), List.mem_of_getElem? (i := 541) (by decide +kernel)⟩
theorem lw_p11 : lw_okq (⟨"ReceivablesBook", "weighClearAmounts", "(LReceivablesBook$Customer;)V"⟩, 6) := ⟨⟨by decide +kernel, by decide +kernel⟩, List.mem_of_getElem? (i := 25) (by decide +kernel), List.mem_of_getElem? (i := 548) (by decide +kernel), List.mem_of_getElem? (i := 549) (by decide +kernel)⟩
theorem lw_p12 : lw_okq (⟨"ReceivablesBook", "shareOldestFirst", "(I)V"⟩, 6) := ⟨⟨by decide +kernel, by decide +kernel⟩, List.mem_of_getElem? (i := 25) (by decide +kernel), List.mem_of_getElem? (i := 564) (by decide +kernel), List.mem_of_getElem? (i := 565) (by decide +kernel)⟩
theorem lw_p13 : lw_okq (⟨"ReceivablesBook", "oldestWithoutPart", "()I"⟩, 6) := ⟨⟨by decide +kernel, by decide +kernel⟩, List.mem_of_getElem? (i := 25) (by decide +kernel), List.mem_of_getElem? (i := 568) (by decide +kernel), List.mem_of_getElem? (i := 569) (by decide +kernel)⟩
theorem lw_p14 : lw_okq (⟨"ReceivablesBook$Shares", "giveCentToGreatestRemainder", "()V"⟩, 3) := ⟨⟨by decide +kernel, by decide +kernel⟩, List.mem_of_getElem? (i := 77) (by decide +kernel), List.mem_of_getElem? (i := 596) (by decide +kernel), List.mem_of_getElem? (i := 597) (by decide +kernel)⟩
theorem lw_p15 : lw_okq (⟨"ReceivablesBook", "moveToInvoice", "(LReceivablesBook$Payment;II)V"⟩, 6) := ⟨⟨by decide +kernel, by decide +kernel⟩, List.mem_of_getElem? (i := 25) (by decide +kernel), List.mem_of_getElem? (i := 604) (by decide +kernel), List.mem_of_getElem? (i := 605) (by decide +kernel)⟩
def lw_privs_1 : List (MethodName × Nat) := [(⟨"java/lang/Throwable", "fillInStackTrace", "(I)Ljava/lang/Throwable;"⟩, 6), (⟨"java/util/ArrayList", "add", "(Ljava/lang/Object;[Ljava/lang/Object;I)V"⟩, 3), (⟨"java/util/ArrayList", "grow", "()[Ljava/lang/Object;"⟩, 3), (⟨"java/util/ArrayList", "grow", "(I)[Ljava/lang/Object;"⟩, 3), (⟨"ReceivablesBook", "customerAt", "(I)LReceivablesBook$Customer;"⟩, 6), (⟨"ReceivablesBook", "passOneDay", "()V"⟩, 6), (⟨"ReceivablesBook$Invoice", "canBeReminded", "()Z"⟩, 10), (⟨"ReceivablesBook$Invoice", "waitOfLevel", "()I"⟩, 10), (⟨"ReceivablesBook", "enterInvoice", "(LReceivablesBook$Invoice;)I"⟩, 6), (⟨"ReceivablesBook$Ledger", "doubleRoom", "()V"⟩, 3), (⟨"ReceivablesBook", "allocateByRule", "(LReceivablesBook$Payment;)I"⟩, 6), (⟨"ReceivablesBook", "weighClearAmounts", "(LReceivablesBook$Customer;)V"⟩, 6), (⟨"ReceivablesBook", "shareOldestFirst", "(I)V"⟩, 6), (⟨"ReceivablesBook", "oldestWithoutPart", "()I"⟩, 6), (⟨"ReceivablesBook$Shares", "giveCentToGreatestRemainder", "()V"⟩, 3), (⟨"ReceivablesBook", "moveToInvoice", "(LReceivablesBook$Payment;II)V"⟩, 6)]
theorem lw_r1 : ∀ q ∈ lw_privs_1, lw_okq q := List.forall_mem_cons.mpr ⟨lw_p0, List.forall_mem_cons.mpr ⟨lw_p1, List.forall_mem_cons.mpr ⟨lw_p2, List.forall_mem_cons.mpr ⟨lw_p3, List.forall_mem_cons.mpr ⟨lw_p4, List.forall_mem_cons.mpr ⟨lw_p5, List.forall_mem_cons.mpr ⟨lw_p6, List.forall_mem_cons.mpr ⟨lw_p7, List.forall_mem_cons.mpr ⟨lw_p8, List.forall_mem_cons.mpr ⟨lw_p9, List.forall_mem_cons.mpr ⟨lw_p10, List.forall_mem_cons.mpr ⟨lw_p11, List.forall_mem_cons.mpr ⟨lw_p12, List.forall_mem_cons.mpr ⟨lw_p13, List.forall_mem_cons.mpr ⟨lw_p14, List.forall_mem_cons.mpr ⟨lw_p15, fun _ h => absurd h List.not_mem_nil⟩⟩⟩⟩⟩⟩⟩⟩⟩⟩⟩⟩⟩⟩⟩⟩
theorem lw_p16 : lw_okq (⟨"ReceivablesBook$Invoice", "forgetRemindersIfPaid", "()V"⟩, 10) := ⟨⟨by decide +kernel, by decide +kernel⟩, List.mem_of_getElem? (i := 423) (by decide +kernel), List.mem_of_getElem? (i := 617) (by decide +kernel), List.mem_of_getElem? (i := 618) (by decide +kernel)⟩
theorem lw_p17 : lw_okq (⟨"ReceivablesBook", "paymentAt", "(I)LReceivablesBook$Payment;"⟩, 6) := ⟨⟨by decide +kernel, by decide +kernel⟩, List.mem_of_getElem? (i := 25) (by decide +kernel), List.mem_of_getElem? (i := 628) (by decide +kernel), List.mem_of_getElem? (i := 629) (by decide +kernel)⟩
theorem lw_p18 : lw_okq (⟨"ReceivablesBook", "invoiceAt", "(I)LReceivablesBook$Invoice;"⟩, 6) := ⟨⟨by decide +kernel, by decide +kernel⟩, List.mem_of_getElem? (i := 25) (by decide +kernel), List.mem_of_getElem? (i := 632) (by decide +kernel), List.mem_of_getElem? (i := 633) (by decide +kernel)⟩
theorem lw_p19 : lw_okq (⟨"ReceivablesBook", "takeBack", "(LReceivablesBook$Payment;I)I"⟩, 6) := ⟨⟨by decide +kernel, by decide +kernel⟩, List.mem_of_getElem? (i := 25) (by decide +kernel), List.mem_of_getElem? (i := 655) (by decide +kernel), List.mem_of_getElem? (i := 656) (by decide +kernel)⟩
theorem lw_p20 : lw_okq (⟨"ReceivablesBook", "accruedOfAll", "(LReceivablesBook$Customer;)I"⟩, 6) := ⟨⟨by decide +kernel, by decide +kernel⟩, List.mem_of_getElem? (i := 25) (by decide +kernel), List.mem_of_getElem? (i := 708) (by decide +kernel), List.mem_of_getElem? (i := 709) (by decide +kernel)⟩
theorem lw_p21 : lw_okq (⟨"ReceivablesBookModel", "refused", "(I)Z"⟩, 27) := ⟨⟨by decide +kernel, by decide +kernel⟩, List.mem_of_getElem? (i := 878) (by decide +kernel), List.mem_of_getElem? (i := 978) (by decide +kernel), List.mem_of_getElem? (i := 979) (by decide +kernel)⟩
theorem lw_p22 : lw_okq (⟨"ReceivablesBookModel", "isCustomer", "(I)Z"⟩, 27) := ⟨⟨by decide +kernel, by decide +kernel⟩, List.mem_of_getElem? (i := 878) (by decide +kernel), List.mem_of_getElem? (i := 986) (by decide +kernel), List.mem_of_getElem? (i := 987) (by decide +kernel)⟩
theorem lw_p23 : lw_okq (⟨"ReceivablesBookModel", "told", "(I)I"⟩, 27) := ⟨⟨by decide +kernel, by decide +kernel⟩, List.mem_of_getElem? (i := 878) (by decide +kernel), List.mem_of_getElem? (i := 1002) (by decide +kernel), List.mem_of_getElem? (i := 1003) (by decide +kernel)⟩
theorem lw_p24 : lw_okq (⟨"ReceivablesBookModel", "passDay", "()V"⟩, 27) := ⟨⟨by decide +kernel, by decide +kernel⟩, List.mem_of_getElem? (i := 878) (by decide +kernel), List.mem_of_getElem? (i := 1010) (by decide +kernel), List.mem_of_getElem? (i := 1011) (by decide +kernel)⟩
theorem lw_p25 : lw_okq (⟨"ReceivablesBookModel", "clear", "(I)I"⟩, 27) := ⟨⟨by decide +kernel, by decide +kernel⟩, List.mem_of_getElem? (i := 878) (by decide +kernel), List.mem_of_getElem? (i := 1014) (by decide +kernel), List.mem_of_getElem? (i := 1015) (by decide +kernel)⟩
theorem lw_p26 : lw_okq (⟨"ReceivablesBookModel", "isReminded", "(I)Z"⟩, 27) := ⟨⟨by decide +kernel, by decide +kernel⟩, List.mem_of_getElem? (i := 878) (by decide +kernel), List.mem_of_getElem? (i := 1027) (by decide +kernel), List.mem_of_getElem? (i := 1028) (by decide +kernel)⟩
theorem lw_p27 : lw_okq (⟨"ReceivablesBookModel", "post", "(IIIZ)I"⟩, 27) := ⟨⟨by decide +kernel, by decide +kernel⟩, List.mem_of_getElem? (i := 878) (by decide +kernel), List.mem_of_getElem? (i := 1043) (by decide +kernel), List.mem_of_getElem? (i := 1044) (by decide +kernel)⟩
theorem lw_p28 : lw_okq (⟨"ReceivablesBookModel", "write", "(II)V"⟩, 27) := ⟨⟨by decide +kernel, by decide +kernel⟩, List.mem_of_getElem? (i := 878) (by decide +kernel), List.mem_of_getElem? (i := 1047) (by decide +kernel), List.mem_of_getElem? (i := 1048) (by decide +kernel)⟩
theorem lw_p29 : lw_okq (⟨"ReceivablesBookModel", "allocateByRule", "(I)I"⟩, 27) := ⟨⟨by decide +kernel, by decide +kernel⟩, List.mem_of_getElem? (i := 878) (by decide +kernel), List.mem_of_getElem? (i := 1055) (by decide +kernel), List.mem_of_getElem? (i := 1056) (by decide +kernel)⟩
theorem lw_p30 : lw_okq (⟨"ReceivablesBookModel", "share", "(II)V"⟩, 27) := ⟨⟨by decide +kernel, by decide +kernel⟩, List.mem_of_getElem? (i := 878) (by decide +kernel), List.mem_of_getElem? (i := 1059) (by decide +kernel), List.mem_of_getElem? (i := 1060) (by decide +kernel)⟩
theorem lw_p31 : lw_okq (⟨"ReceivablesBookModel", "clearOf", "(I)J"⟩, 27) := ⟨⟨by decide +kernel, by decide +kernel⟩, List.mem_of_getElem? (i := 878) (by decide +kernel), List.mem_of_getElem? (i := 1063) (by decide +kernel), List.mem_of_getElem? (i := 1064) (by decide +kernel)⟩
def lw_privs_2 : List (MethodName × Nat) := [(⟨"ReceivablesBook$Invoice", "forgetRemindersIfPaid", "()V"⟩, 10), (⟨"ReceivablesBook", "paymentAt", "(I)LReceivablesBook$Payment;"⟩, 6), (⟨"ReceivablesBook", "invoiceAt", "(I)LReceivablesBook$Invoice;"⟩, 6), (⟨"ReceivablesBook", "takeBack", "(LReceivablesBook$Payment;I)I"⟩, 6), (⟨"ReceivablesBook", "accruedOfAll", "(LReceivablesBook$Customer;)I"⟩, 6), (⟨"ReceivablesBookModel", "refused", "(I)Z"⟩, 27), (⟨"ReceivablesBookModel", "isCustomer", "(I)Z"⟩, 27), (⟨"ReceivablesBookModel", "told", "(I)I"⟩, 27), (⟨"ReceivablesBookModel", "passDay", "()V"⟩, 27), (⟨"ReceivablesBookModel", "clear", "(I)I"⟩, 27), (⟨"ReceivablesBookModel", "isReminded", "(I)Z"⟩, 27), (⟨"ReceivablesBookModel", "post", "(IIIZ)I"⟩, 27), (⟨"ReceivablesBookModel", "write", "(II)V"⟩, 27), (⟨"ReceivablesBookModel", "allocateByRule", "(I)I"⟩, 27), (⟨"ReceivablesBookModel", "share", "(II)V"⟩, 27), (⟨"ReceivablesBookModel", "clearOf", "(I)J"⟩, 27)]
theorem lw_r2 : ∀ q ∈ lw_privs_2, lw_okq q := List.forall_mem_cons.mpr ⟨lw_p16, List.forall_mem_cons.mpr ⟨lw_p17, List.forall_mem_cons.mpr ⟨lw_p18, List.forall_mem_cons.mpr ⟨lw_p19, List.forall_mem_cons.mpr ⟨lw_p20, List.forall_mem_cons.mpr ⟨lw_p21, List.forall_mem_cons.mpr ⟨lw_p22, List.forall_mem_cons.mpr ⟨lw_p23, List.forall_mem_cons.mpr ⟨lw_p24, List.forall_mem_cons.mpr ⟨lw_p25, List.forall_mem_cons.mpr ⟨lw_p26, List.forall_mem_cons.mpr ⟨lw_p27, List.forall_mem_cons.mpr ⟨lw_p28, List.forall_mem_cons.mpr ⟨lw_p29, List.forall_mem_cons.mpr ⟨lw_p30, List.forall_mem_cons.mpr ⟨lw_p31, fun _ h => absurd h List.not_mem_nil⟩⟩⟩⟩⟩⟩⟩⟩⟩⟩⟩⟩⟩⟩⟩⟩
theorem lw_p32 : lw_okq (⟨"ReceivablesBookModel", "split", "(II)V"⟩, 27) := ⟨⟨by decide +kernel, by decide +kernel⟩, List.mem_of_getElem? (i := 878) (by decide +kernel), List.mem_of_getElem? (i := 1067) (by decide +kernel), List.mem_of_getElem? (i := 1068) (by decide +kernel)⟩
theorem lw_p33 : lw_okq (⟨"ReceivablesBookModel", "fromOldest", "(III)I"⟩, 27) := ⟨⟨by decide +kernel, by decide +kernel⟩, List.mem_of_getElem? (i := 878) (by decide +kernel), List.mem_of_getElem? (i := 1071) (by decide +kernel), List.mem_of_getElem? (i := 1072) (by decide +kernel)⟩
theorem lw_p34 : lw_okq (⟨"ReceivablesBookModel", "put", "(III)V"⟩, 27) := ⟨⟨by decide +kernel, by decide +kernel⟩, List.mem_of_getElem? (i := 878) (by decide +kernel), List.mem_of_getElem? (i := 1075) (by decide +kernel), List.mem_of_getElem? (i := 1076) (by decide +kernel)⟩
theorem lw_p35 : lw_okq (⟨"ReceivablesBookModel", "isPayment", "(I)Z"⟩, 27) := ⟨⟨by decide +kernel, by decide +kernel⟩, List.mem_of_getElem? (i := 878) (by decide +kernel), List.mem_of_getElem? (i := 1083) (by decide +kernel), List.mem_of_getElem? (i := 1084) (by decide +kernel)⟩
theorem lw_p36 : lw_okq (⟨"ReceivablesBookModel", "isInvoice", "(I)Z"⟩, 27) := ⟨⟨by decide +kernel, by decide +kernel⟩, List.mem_of_getElem? (i := 878) (by decide +kernel), List.mem_of_getElem? (i := 1087) (by decide +kernel), List.mem_of_getElem? (i := 1088) (by decide +kernel)⟩
theorem lw_p37 : lw_okq (⟨"ReceivablesBookModel", "noCustomer", "(I)Z"⟩, 27) := ⟨⟨by decide +kernel, by decide +kernel⟩, List.mem_of_getElem? (i := 878) (by decide +kernel), List.mem_of_getElem? (i := 1095) (by decide +kernel), List.mem_of_getElem? (i := 1096) (by decide +kernel)⟩
theorem lw_p38 : lw_okq (⟨"ReceivablesBookModel", "takeBack", "(II)I"⟩, 27) := ⟨⟨by decide +kernel, by decide +kernel⟩, List.mem_of_getElem? (i := 878) (by decide +kernel), List.mem_of_getElem? (i := 1103) (by decide +kernel), List.mem_of_getElem? (i := 1104) (by decide +kernel)⟩
theorem lw_p39 : lw_okq (⟨"ReceivablesBookModel", "accruedOf", "(I)I"⟩, 27) := ⟨⟨by decide +kernel, by decide +kernel⟩, List.mem_of_getElem? (i := 878) (by decide +kernel), List.mem_of_getElem? (i := 1127) (by decide +kernel), List.mem_of_getElem? (i := 1128) (by decide +kernel)⟩
theorem lw_p40 : lw_okq (⟨"ReceivablesBookModel", "noInvoice", "(I)Z"⟩, 27) := ⟨⟨by decide +kernel, by decide +kernel⟩, List.mem_of_getElem? (i := 878) (by decide +kernel), List.mem_of_getElem? (i := 1139) (by decide +kernel), List.mem_of_getElem? (i := 1140) (by decide +kernel)⟩
theorem lw_p41 : lw_okq (⟨"ReceivablesBookModel", "bucket", "(I)I"⟩, 27) := ⟨⟨by decide +kernel, by decide +kernel⟩, List.mem_of_getElem? (i := 878) (by decide +kernel), List.mem_of_getElem? (i := 1195) (by decide +kernel), List.mem_of_getElem? (i := 1196) (by decide +kernel)⟩
theorem lw_p42 : lw_okq (⟨"ReceivablesBookModel", "oldestOf", "(I)I"⟩, 27) := ⟨⟨by decide +kernel, by decide +kernel⟩, List.mem_of_getElem? (i := 878) (by decide +kernel), List.mem_of_getElem? (i := 1207) (by decide +kernel), List.mem_of_getElem? (i := 1208) (by decide +kernel)⟩
theorem lw_p43 : lw_okq (⟨"ReceivablesBookModel", "noLine", "(I)Z"⟩, 27) := ⟨⟨by decide +kernel, by decide +kernel⟩, List.mem_of_getElem? (i := 878) (by decide +kernel), List.mem_of_getElem? (i := 1231) (by decide +kernel), List.mem_of_getElem? (i := 1232) (by decide +kernel)⟩
def lw_privs_3 : List (MethodName × Nat) := [(⟨"ReceivablesBookModel", "split", "(II)V"⟩, 27), (⟨"ReceivablesBookModel", "fromOldest", "(III)I"⟩, 27), (⟨"ReceivablesBookModel", "put", "(III)V"⟩, 27), (⟨"ReceivablesBookModel", "isPayment", "(I)Z"⟩, 27), (⟨"ReceivablesBookModel", "isInvoice", "(I)Z"⟩, 27), (⟨"ReceivablesBookModel", "noCustomer", "(I)Z"⟩, 27), (⟨"ReceivablesBookModel", "takeBack", "(II)I"⟩, 27), (⟨"ReceivablesBookModel", "accruedOf", "(I)I"⟩, 27), (⟨"ReceivablesBookModel", "noInvoice", "(I)Z"⟩, 27), (⟨"ReceivablesBookModel", "bucket", "(I)I"⟩, 27), (⟨"ReceivablesBookModel", "oldestOf", "(I)I"⟩, 27), (⟨"ReceivablesBookModel", "noLine", "(I)Z"⟩, 27)]
theorem lw_r3 : ∀ q ∈ lw_privs_3, lw_okq q := List.forall_mem_cons.mpr ⟨lw_p32, List.forall_mem_cons.mpr ⟨lw_p33, List.forall_mem_cons.mpr ⟨lw_p34, List.forall_mem_cons.mpr ⟨lw_p35, List.forall_mem_cons.mpr ⟨lw_p36, List.forall_mem_cons.mpr ⟨lw_p37, List.forall_mem_cons.mpr ⟨lw_p38, List.forall_mem_cons.mpr ⟨lw_p39, List.forall_mem_cons.mpr ⟨lw_p40, List.forall_mem_cons.mpr ⟨lw_p41, List.forall_mem_cons.mpr ⟨lw_p42, List.forall_mem_cons.mpr ⟨lw_p43, fun _ h => absurd h List.not_mem_nil⟩⟩⟩⟩⟩⟩⟩⟩⟩⟩⟩⟩
def lw_privs : List (MethodName × Nat) := lw_privs_1 ++ (lw_privs_2 ++ (lw_privs_3))
def lw_tbl : List Cond := k2_sels lw_privs ++ tables_1
theorem lw_privs_ok : ∀ q ∈ lw_privs, lw_okq q := by
  show ∀ q ∈ lw_privs_1 ++ (lw_privs_2 ++ (lw_privs_3)), lw_okq q
  exact List.forall_mem_append.mpr ⟨lw_r1, List.forall_mem_append.mpr ⟨lw_r2, lw_r3⟩⟩
-- ===== end of PART A; then your names; then what follows =====
end
section
/-! ===== BEGIN words of one list among another's, by their places ===== -/
theorem goodIn_r {big : List Cond} (ws : List Cond) (ps : List Nat) (hp : ws = ps.filterMap (fun i => big[i]?)) (h : ws.all goodWord = true) : GoodIn big ws := by
  intro w hw
  have h1 := List.all_eq_true.mp h w hw
  rw [hp] at hw
  obtain ⟨i, -, hi⟩ := List.mem_filterMap.mp hw
  have hm : w ∈ big := by first | exact List.mem_of_getElem? hi | exact List.getElem?_mem hi
  exact ⟨hm, good_of_word h1⟩
theorem goodIn_app {big a b : List Cond} (ha : GoodIn big a) (hb : GoodIn big b) : GoodIn big (a ++ b) := fun w h => (List.mem_append.mp h).elim (ha w) (hb w)
theorem goodIn_ca {big a b : List Cond} {c : Cond} (ha : GoodIn big (c :: a)) (hb : GoodIn big b) : GoodIn big (c :: (a ++ b)) := fun w h => (List.mem_cons.mp h).elim (fun e => ha w (List.mem_cons.mpr (Or.inl e))) (fun h => (List.mem_append.mp h).elim (fun h => ha w (List.mem_cons.mpr (Or.inr h))) (hb w))
theorem goodIn_sub {big ws : List Cond} (hm : ∀ w ∈ ws, w ∈ big) (h : ws.all goodWord = true) : GoodIn big ws := fun w hw => ⟨hm w hw, good_of_word (List.all_eq_true.mp h w hw)⟩
/-! ===== END ===== -/

/-! ===== BEGIN exceptions that leave a method, and their catching by the caller (launches without stack traces) ===== -/
section VXA
/-! The laws vx_back, vx_callV, vx_callS, vx_callSW, vx_throw0, vx_throwS follow proofs of the library, with one case more: JvmDerived/Free/Laws.lean (Back.of_free), Shelf42/LK1.lean (callV, callS), Shelf/KitTraced.lean (throwNew0V, throwNewS). -/
/-- where a method has thrown q: the class by its name, the cell, what was written, the world -/
def vx_T (XC : String → State → State → Prop) (st : State) (q : Addr) (t : State) (mc ms : Nat) (free : Addr → Prop) : Prop :=
  ∃ (E : String) (ce : Cell) (L : List Loc), XC E st t ∧ t.heap[q]? = some ce ∧ ce.vm = .none ∧ st.vm.findClass E = some ce.cls ∧ st.WarmedH t.vm ∧ st.sameButNew ({ t with vm := st.vm } : State) L mc ms ∧ ∀ z ∈ L, free z.base
def vx_Q (Qc : Array Value → State → Outcome → State → Prop) (XC : String → State → State → Prop) (mc ms : Nat) (free : Addr → Prop) : Array Value → State → Outcome → State → Prop := fun a st o t =>
  (Qc a st o t ∧ ∃ L, FrameEnd st o t L mc ms ∧ ∀ q ∈ L, free q.base) ∨ ∃ q, o = .threw q ∧ vx_T XC st q t mc ms free
/-- a callee that returns or throws -/
def vx_Met (l : Launch) (y : MethodName) (ws : List Cond) (rm : Room) (Pc : Array Value → State → Prop) (Qc : Array Value → State → Outcome → State → Prop) (XC : String → State → State → Prop) (mc ms : Nat) (free : Addr → Prop) : Prop :=
  MetFree l y (headSpec ws rm) Pc (fun _ _ _ _ _ => True) (vx_Q Qc XC mc ms free)
def vx_Post (XC : String → State → State → Prop) (mc ms : Nat) (free : Addr → Prop) : Pt → Array Value → Addr → Pt → Prop := fun A a q B =>
  ∃ (g : JFrame) (mk : MethodId) (t : State) (L : List Loc) (E : String) (ce : Cell), B.U.heap = t.heap ∧ B.U.vm = t.vm ∧ XC E (A.U.calling g mk a) t ∧ t.heap[q]? = some ce ∧ ce.vm = .none ∧ A.U.vm.findClass E = some ce.cls ∧ B.locs = A.locs ++ L ∧ (∀ z ∈ L, free z.base) ∧ B.cells = A.cells + mc ∧ B.slots = A.slots + ms
def vx_Back (l : Launch) (R : Room) (p : Program) (e : Env) (below : List Frame) (s : State) (sargs : Array Value) (y : MethodName) (len W9 : Nat)
    (Pre : Pt → Array Value → Prop) (Post : Pt → Array Value → Option Value → Pt → Prop) (PostX : Pt → Array Value → Addr → Pt → Prop) : Prop :=
  ∀ (m : MethodId) (meth : Method) (c : Code) (A : Pt) (g : JFrame) (ig : Instr) (mk : MethodId) (a : Array Value),
    Stand p l e R s m sargs below meth c A.U A.locs A.cells A.slots → g.method = m → g.locals.size = c.maxLocals → decode c.code g.pc = .ok (ig, len) →
    2 * g.monitorRoom + (g.stack.map fun v => v.category).sum ≤ W9 → A.U.methodNamed? y = some mk → Pre A a →
    (∃ (v : Option Value) (B : Pt), Stand p l e R s m sargs below meth c B.U B.locs B.cells B.slots ∧ Post A a v B ∧
      Steps p.tables e below (doInvoke e (A.U.setTop g) [] mk a).1 (B.U.setTop { g with pc := g.pc + len, stack := v.toList ++ g.stack })) ∨
    (∃ (q : Addr) (B : Pt), Stand p l e R s m sargs below meth c B.U B.locs B.cells B.slots ∧ PostX A a q B ∧
      Steps p.tables e below (doInvoke e (A.U.setTop g) [] mk a).1 ((B.U.setTop g).pushFrame (.throwing q)))
section Payer
variable {l : Launch} {R : Room} {p : Program} {e : Env} {below : List Frame} {s : State} {sargs : Array Value} {y : MethodName} {len W9 : Nat}
theorem vx_back {ws : List Cond} {rm : Room} {Pc : Array Value → State → Prop} {Qc : Array Value → State → Outcome → State → Prop} {XC : String → State → State → Prop} {mc ms : Nat} {free : Addr → Prop} {bytes : ByteArray} {maxL : Nat} {ret : Option FieldType}
    (hM : vx_Met l y ws rm Pc Qc XC mc ms free) (hblind : FrameBlind Pc) (hrc : rm.cells = mc) (hrs : rm.slots = ms)
    (hframes : rm.frames + 1 ≤ R.frames) (hlocals : W9 + (maxL + 11) + rm.locals ≤ R.locals)
    (hws : ∀ w ∈ ws, ∀ a' U, s.WarmedH U.vm → w.before a' U = true) (hcode : Cond.code y bytes maxL ret ∈ ws) (hinit : ∀ a' U, s.WarmedH U.vm → (Cond.initialized y.cls).before a' U = true) :
    vx_Back l R p e below s sargs y len W9 (PreOf R mc ms Pc) (PostOf Qc mc ms free) (vx_Post XC mc ms free) := by
  intro m meth c A g ig mk a X hg hsize hdg hW hn hp
  have h1 : (headSpec ws rm).pre.before a A.U = true := atoms_intro fun w hw => hws w hw _ _ X.warmed
  have h2 : (Cond.code y bytes maxL ret).before a A.U = true := hws _ hcode _ _ X.warmed
  have h3 : (Cond.initialized y.cls).before a A.U = true := hinit _ _ X.warmed
  have h4 : A.cells + (headSpec ws rm).room.cells ≤ R.cells := by rw [show (headSpec ws rm).room.cells = mc from hrc]; exact hp.1
  have h5 : A.slots + (headSpec ws rm).room.slots ≤ R.slots := by rw [show (headSpec ws rm).room.slots = ms from hrs]; exact hp.2.1
  have hPc : Pc a (A.U.calling g mk a) := hblind _ _ _ _ hp.2.2
  obtain ⟨U, Ls, c0, s0⟩ := A
  dsimp only [Pt.U, Pt.locs, Pt.cells, Pt.slots] at h1 h2 h3 h4 h5 X hn hPc ⊢
  obtain ⟨methY, cY, hmY, hcY, -, hlY, -, -, -, -⟩ := Cond.code_spec hn h2
  obtain ⟨kY, hkY, -⟩ := className_of_methodNamed hn
  have hinitY : kY.init = .initialized := Cond.initialized_spec (findClass_of_methodNamed hn) hkY h3
  have h : At U g.method c below := by rw [hg]; exact X.here
  have hlocals9 : W9 + (maxL + 11) + (headSpec ws rm).room.locals ≤ R.locals := hlocals
  have happ : (headSpec ws rm).appliesLoose y e.platform (U.calling g mk a) = true :=
    Spec.appliesLoose_calling (g := g) h hdg hn hkY hinitY
      (X.room_calling (g := g) (R' := (headSpec ws rm).room) hsize hmY hcY hframes (by rw [hlY]; omega) h4 h5) h1
  obtain ⟨mid, hmid⟩ := h.above
  have hfr : (U.setTop g).frames = (.java g :: mid) ++ below := by rw [State.frames_setTop' g h.top, hmid]; rfl
  obtain ⟨o, s₂, hsteps, -, hend, hq⟩ := Steps.callFree hM p X.admits X.cas X.clock (acts := []) hfr happ hPc trivial
  have hq' : vx_Q Qc XC mc ms free a (U.calling g mk a) o s₂ := hq
  rw [State.frames_setTop' g h.top] at hend
  obtain ⟨g₀, hg0⟩ := Option.isSome_iff_exists.mp h.top
  obtain ⟨r, hr⟩ := State.topJava?_eq_some.mp hg0
  have hr' : (({ U with heap := s₂.heap, slotsUsed := s₂.slotsUsed } : State).setVm s₂.vm).frames = .java g₀ :: r := hr
  rcases hq' with ⟨hqc, L, hfe, hL⟩ | ⟨q, rfl, E, ce, L, hx, hce, hcv, hcl, hW₂, hsm, hL⟩
  · obtain ⟨⟨v, rfl⟩, hW₂, e2, q2, q3, q4, q5, q6⟩ := id hfe
    have e3 : s₂ = ({ (U.calling g mk a).setFrames s₂.frames with heap := s₂.heap, slotsUsed := s₂.slotsUsed } : State).setVm s₂.vm := by
      have : s₂ = ({ s₂ with vm := (U.calling g mk a).vm } : State).setVm s₂.vm := rfl
      rw [e2] at this
      exact this
    obtain ⟨c₂, i₂, len₂, hc₂, hd₂, hf₂⟩ := hend
    have hW' : U.WarmedH s₂.vm := hW₂
    have hcc : c₂ = c := by
      have h1 : s₂.code? g.method = U.code? g.method := by
        rw [State.code?_eq, State.code?_eq, hW'.alike.method?]
      exact Option.some.inj (hc₂.symm.trans (h1.trans h.code))
    subst hcc
    have hlen : len₂ = len := by rw [hdg] at hd₂; cases hd₂; rfl
    subst hlen
    have hs₂ : s₂ = (({ U with heap := s₂.heap, slotsUsed := s₂.slotsUsed } : State).setVm s₂.vm).setTop { g with pc := g.pc + len₂, stack := v.toList ++ g.stack } := by
      refine e3.trans ?_
      rw [hf₂, State.calling_eq h.top, State.setFrames_setFrames, State.setTop_of_frames _ hr', hr]
      rfl
    have hsame : U.sameButNew ({ U with heap := s₂.heap, slotsUsed := s₂.slotsUsed } : State) L mc ms := by
      refine ⟨?_, q2, q3, q4, q5, q6⟩
      obtain ⟨t, ht, -⟩ := State.frames_cons hr
      show ({ U with heap := s₂.heap, slotsUsed := s₂.slotsUsed } : State) = { U.setFrames U.frames with heap := s₂.heap, slotsUsed := s₂.slotsUsed }
      rw [State.setFrames_self ht]
    subst hg
    refine Or.inl ⟨v, ⟨(({ U with heap := s₂.heap, slotsUsed := s₂.slotsUsed } : State).setVm s₂.vm), Ls ++ L, c0 + mc, s0 + ms⟩,
      ⟨X.admits, X.cas, X.clock, X.frames, X.room, X.hears, X.method, X.code, (X.here.setHeapUsed s₂.heap s₂.slotsUsed).setVm hW'.alike, X.tail, State.WarmedH.trans X.warmed hW', X.limits, X.bytes, X.same.trans (hsame.setVm s.vm)⟩,
      ⟨g, mk, s₂, L, rfl, rfl, hqc, rfl, hL, rfl, rfl⟩, ?_⟩
    show Steps p.tables e below _ ((({ U with heap := s₂.heap, slotsUsed := s₂.slotsUsed } : State).setVm s₂.vm).setTop { g with pc := g.pc + len₂, stack := v.toList ++ g.stack })
    rw [← hs₂]
    exact hsteps
  · obtain ⟨e2, q2, q3, q4, q5, q6⟩ := id hsm
    have e3 : s₂ = ({ (U.calling g mk a).setFrames s₂.frames with heap := s₂.heap, slotsUsed := s₂.slotsUsed } : State).setVm s₂.vm := by
      have : s₂ = ({ s₂ with vm := (U.calling g mk a).vm } : State).setVm s₂.vm := rfl
      rw [e2] at this
      exact this
    have hf₂ : s₂.frames = .throwing q :: .java g :: U.frames.tail := hend
    have hW' : U.WarmedH s₂.vm := hW₂
    have hs₂ : s₂ = ((({ U with heap := s₂.heap, slotsUsed := s₂.slotsUsed } : State).setVm s₂.vm).setTop g).pushFrame (.throwing q) := by
      refine e3.trans ?_
      rw [hf₂, State.calling_eq h.top, State.setFrames_setFrames, State.pushFrame, State.frames_setTop _ hr', State.setTop_of_frames _ hr', State.setFrames_setFrames, hr]
      rfl
    have hsame : U.sameButNew ({ U with heap := s₂.heap, slotsUsed := s₂.slotsUsed } : State) L mc ms := by
      refine ⟨?_, q2, q3, q4, q5, q6⟩
      obtain ⟨t, ht, -⟩ := State.frames_cons hr
      show ({ U with heap := s₂.heap, slotsUsed := s₂.slotsUsed } : State) = { U.setFrames U.frames with heap := s₂.heap, slotsUsed := s₂.slotsUsed }
      rw [State.setFrames_self ht]
    subst hg
    refine Or.inr ⟨q, ⟨(({ U with heap := s₂.heap, slotsUsed := s₂.slotsUsed } : State).setVm s₂.vm), Ls ++ L, c0 + mc, s0 + ms⟩,
      ⟨X.admits, X.cas, X.clock, X.frames, X.room, X.hears, X.method, X.code, (X.here.setHeapUsed s₂.heap s₂.slotsUsed).setVm hW'.alike, X.tail, State.WarmedH.trans X.warmed hW', X.limits, X.bytes, X.same.trans (hsame.setVm s.vm)⟩,
      ⟨g, mk, s₂, L, E, ce, rfl, rfl, hx, hce, hcv, hcl, rfl, hL, rfl, rfl⟩, ?_⟩
    show Steps p.tables e below _ (((({ U with heap := s₂.heap, slotsUsed := s₂.slotsUsed } : State).setVm s₂.vm).setTop g).pushFrame (.throwing q))
    rw [← hs₂]
    exact hsteps
end Payer
section Calls
variable {p : Program} {l : Launch} {e : Env} {R : Room} {s : State} {m : MethodId} {args : Array Value} {below : List Frame} {meth : Method} {c : Code} {T : State} {locs : List Loc} {cells slots : Nat}
theorem vx_callV (X : Stand p l e R s m args below meth c T locs cells slots) (hexec : p.tables.exec = Jvm.exec) {own C : String} {index : Nat} {y : MethodName} {bytes : ByteArray} {maxL : Nat} {ret : Option FieldType}
    (hown : s.vm.findClass own = some m.cls) (hlink : (Cond.methodLink own index y).before args s = true) (hinst : (Cond.instanceMethod y).before args s = true) (hsel : (Cond.selects C y y).before args s = true)
    (hcode : (Cond.code y bytes maxL ret).before args s = true) (hy : y.cls ≠ "java/lang/invoke/MethodHandle" ∧ y.cls ≠ "java/lang/invoke/VarHandle")
    {W9 : Nat} {Pre : Pt → Array Value → Prop} {Post : Pt → Array Value → Option Value → Pt → Prop} {PostX : Pt → Array Value → Addr → Pt → Prop} (hK : vx_Back l R p e below s args y 3 W9 Pre Post PostX)
    {b : Addr} {cellB : Cell} (hcell : T.heap[b]? = some cellB) (hobj : cellB.vm.isStatics = false) (hcls : s.vm.findClass C = some cellB.cls)
    {g : JFrame} (hg : g.method = m) (hsize : g.locals.size = c.maxLocals) {argsL rest : List Value} (hlen : ∀ sig, parseMethodDescriptor y.desc = some sig → argsL.length = sig.parameters.length)
    (hstack : g.stack = argsL.reverse ++ .ref b :: rest) (hW : 2 * g.monitorRoom + (rest.map fun v => v.category).sum ≤ W9) (hdg : decode c.code g.pc = .ok (.invokevirtual index, 3))
    (hpre : ∀ vm₁, s.WarmedH vm₁ → Pre ⟨T.setVm vm₁, locs, cells, slots⟩ (Value.ref b :: argsL).toArray) :
    (∃ (v : Option Value) (vm₁ : Vm) (B : Pt), s.WarmedH vm₁ ∧ Stand p l e R s m args below meth c B.U B.locs B.cells B.slots ∧ Post ⟨T.setVm vm₁, locs, cells, slots⟩ (Value.ref b :: argsL).toArray v B ∧
      ∀ target, Steps p.tables e below (B.U.setTop { g with pc := g.pc + 3, stack := v.toList ++ rest }) target → Steps p.tables e below (T.setTop g) target) ∨
    (∃ (q : Addr) (vm₁ : Vm) (B : Pt), s.WarmedH vm₁ ∧ Stand p l e R s m args below meth c B.U B.locs B.cells B.slots ∧ PostX ⟨T.setVm vm₁, locs, cells, slots⟩ (Value.ref b :: argsL).toArray q B ∧
      Steps p.tables e below (T.setTop g) ((B.U.setTop { g with stack := rest }).pushFrame (.throwing q))) := by
  obtain ⟨mk, methM, hnamed, hmethM, hstM, habM⟩ := Cond.instanceMethod_spec hinst
  obtain ⟨methM', cM, hmethM', -, -, -, -, -, -, hsigM⟩ := Cond.code_spec hnamed hcode
  cases hmethM.symm.trans hmethM'
  obtain ⟨c2, r2, m2, q1, q2, q3, q4, kP, hkP, hkPi⟩ := Cond.selects_spec hsel
  cases hcls.symm.trans q1
  cases (State.methodFound?_of_named hnamed hy).symm.trans q2
  cases hnamed.symm.trans q3
  have hselP : selectMethod e.platform s.vm cellB.cls mk = .method mk := by rw [Launch.admits_selectMethod X.admits]; exact q4
  obtain ⟨vm₁, X₁, hstep₁⟩ := X.invokevirtual hexec hown hlink hnamed hmethM hstM hkP hkPi hy (a := b) (cell := cellB) hcell
    (fun z h => by rw [h] at hobj; cases hobj) hselP hmethM habM hkP hkPi (g := g) hg (argsL := argsL) (rest := rest) (hlen _ hsigM) hstack hdg
  rcases hK m meth c ⟨T.setVm vm₁, locs, cells, slots⟩ { g with stack := rest } (.invokevirtual index) mk (Value.ref b :: argsL).toArray X₁ hg hsize hdg hW (X₁.named hnamed) (hpre vm₁ X₁.warmed) with ⟨v, B, X', hpost, hsteps⟩ | ⟨q, B, X', hpost, hsteps⟩
  · exact Or.inl ⟨v, vm₁, B, X₁.warmed, X', hpost, fun target h => hstep₁ _ fun acts => by rw [doInvoke_state]; exact hsteps.trans h⟩
  · exact Or.inr ⟨q, vm₁, B, X₁.warmed, X', hpost, hstep₁ _ fun acts => by rw [doInvoke_state]; exact hsteps⟩
theorem vx_callS (X : Stand p l e R s m args below meth c T locs cells slots) (hexec : p.tables.exec = Jvm.exec) {own : String} {index : Nat} {y : MethodName} {bytes : ByteArray} {maxL : Nat} {ret : Option FieldType}
    (hown : s.vm.findClass own = some m.cls) (hlink : (Cond.methodLink own index y).before args s = true) (hstat : (Cond.static y).before args s = true) (hinit : (Cond.initialized y.cls).before args s = true)
    (hcode : (Cond.code y bytes maxL ret).before args s = true) (hy : y.cls ≠ "java/lang/invoke/MethodHandle" ∧ y.cls ≠ "java/lang/invoke/VarHandle")
    {W9 : Nat} {Pre : Pt → Array Value → Prop} {Post : Pt → Array Value → Option Value → Pt → Prop} {PostX : Pt → Array Value → Addr → Pt → Prop} (hK : vx_Back l R p e below s args y 3 W9 Pre Post PostX)
    {g : JFrame} (hg : g.method = m) (hsize : g.locals.size = c.maxLocals) {argsL rest : List Value} (hlen : ∀ sig, parseMethodDescriptor y.desc = some sig → argsL.length = sig.parameters.length)
    (hstack : g.stack = argsL.reverse ++ rest) (hW : 2 * g.monitorRoom + (rest.map fun v => v.category).sum ≤ W9) (hdg : decode c.code g.pc = .ok (.invokestatic index, 3))
    (hpre : ∀ vm₁, s.WarmedH vm₁ → Pre ⟨T.setVm vm₁, locs, cells, slots⟩ argsL.toArray) :
    (∃ (v : Option Value) (vm₁ : Vm) (B : Pt), s.WarmedH vm₁ ∧ Stand p l e R s m args below meth c B.U B.locs B.cells B.slots ∧ Post ⟨T.setVm vm₁, locs, cells, slots⟩ argsL.toArray v B ∧
      ∀ target, Steps p.tables e below (B.U.setTop { g with pc := g.pc + 3, stack := v.toList ++ rest }) target → Steps p.tables e below (T.setTop g) target) ∨
    (∃ (q : Addr) (vm₁ : Vm) (B : Pt), s.WarmedH vm₁ ∧ Stand p l e R s m args below meth c B.U B.locs B.cells B.slots ∧ PostX ⟨T.setVm vm₁, locs, cells, slots⟩ argsL.toArray q B ∧
      Steps p.tables e below (T.setTop g) ((B.U.setTop { g with stack := rest }).pushFrame (.throwing q))) := by
  obtain ⟨mk, hnamed⟩ := Cond.code_named hcode
  obtain ⟨methM, cM, hmethM, -, -, -, -, -, -, hsigM⟩ := Cond.code_spec hnamed hcode
  have hstatic : methM.isStatic = true := Cond.static_spec hnamed hmethM hstat
  obtain ⟨kP, hkP, -⟩ := className_of_methodNamed hnamed
  have hinitP : kP.init = .initialized := Cond.initialized_spec (findClass_of_methodNamed hnamed) hkP hinit
  obtain ⟨vm₁, X₁, hstep₁⟩ := X.invokestatic hexec hown hlink hnamed hmethM hstatic hkP hinitP hy (g := g) hg (argsL := argsL) (rest := rest) (hlen _ hsigM) hstack hdg
  rcases hK m meth c ⟨T.setVm vm₁, locs, cells, slots⟩ { g with stack := rest } (.invokestatic index) mk argsL.toArray X₁ hg hsize hdg hW (X₁.named hnamed) (hpre vm₁ X₁.warmed) with ⟨v, B, X', hpost, hsteps⟩ | ⟨q, B, X', hpost, hsteps⟩
  · exact Or.inl ⟨v, vm₁, B, X₁.warmed, X', hpost, fun target h => hstep₁ _ fun acts => by rw [doInvoke_state]; exact hsteps.trans h⟩
  · exact Or.inr ⟨q, vm₁, B, X₁.warmed, X', hpost, hstep₁ _ fun acts => by rw [doInvoke_state]; exact hsteps⟩
end Calls
theorem vx_cls {s : State} {T : State} {vm₁ : Vm} {E : String} {k : ClassId} (hW : s.WarmedH vm₁) (h : (T.setVm vm₁).vm.findClass E = some k) : s.vm.findClass E = some k := by
  have h1 : vm₁.findClass E = some k := h
  rw [hW.alike.findClass] at h1
  exact h1
/-- the method's frame g, with q thrown over it -/
def vx_W (p : Program) (l : Launch) (e : Env) (R : Room) (s : State) (m : MethodId) (args : Array Value) (below : List Frame) (meth : Method) (c : Code) (H : Heap) (locs : List Loc) (cells slots : Nat) (Q : State → Prop) (g : JFrame) (q : Addr) : Prop :=
  ∀ T : State, T.heap = H → Stand p l e R s m args below meth c T locs cells slots → ∃ t, Steps p.tables e below ((T.setTop g).pushFrame (.throwing q)) t ∧ Q t
def vx_Run (p : Program) (l : Launch) (e : Env) (R : Room) (s : State) (m : MethodId) (args : Array Value) (below : List Frame) (meth : Method) (c : Code) (H : Heap) (locs : List Loc) (cells slots mc ms : Nat) (g : JFrame) (rest : List Value) (Qa : State → Outcome → State → Prop) (XC : String → State → State → Prop) (free : Addr → Prop) : Prop :=
  ∀ T : State, T.heap = H → Stand p l e R s m args below meth c T locs cells slots →
    (∃ (v : Option Value) (st₀ t T' : State) (L : List Loc), st₀.heap = H ∧ Stand p l e R s m args below meth c T' (locs ++ L) (cells + mc) (slots + ms) ∧ (∀ q ∈ L, free q.base) ∧ T'.heap = t.heap ∧ T'.vm = t.vm ∧ Qa st₀ (.returned v) t ∧
      Goes p e below T g T' { g with pc := g.pc + 3, stack := v.toList ++ rest }) ∨
    (∃ (q : Addr) (st₀ t T' : State) (L : List Loc) (E : String) (ce : Cell), st₀.heap = H ∧ Stand p l e R s m args below meth c T' (locs ++ L) (cells + mc) (slots + ms) ∧ (∀ z ∈ L, free z.base) ∧ T'.heap = t.heap ∧ T'.vm = t.vm ∧ XC E st₀ t ∧ t.heap[q]? = some ce ∧ ce.vm = .none ∧ s.vm.findClass E = some ce.cls ∧
      Steps p.tables e below (T.setTop g) ((T'.setTop { g with stack := rest }).pushFrame (.throwing q)))
def vx_X {S : Type} (px : S → Prop) (B : String → S → State → Prop) (A : Nat → Prop) : String → State → State → Prop := fun E st t => ∃ u : S, px u ∧ B E u t ∧ va_F A st t
section Runs
variable {p : Program} {l : Launch} {e : Env} {R : Room} {s : State} {m : MethodId} {args : Array Value} {below : List Frame} {meth : Method} {c : Code} {H : Heap} {locs : List Loc} {cells slots : Nat}
variable {y : MethodName} {bytes cc : ByteArray} {maxL nL mc ms n index : Nat} {ret : Option FieldType} {ws : List Cond} {rm : Room} {Pc : Array Value → State → Prop} {Qc : Array Value → State → Outcome → State → Prop} {XC : String → State → State → Prop} {free : Addr → Prop} {Ts : List Cond} {own C : String} {b : Addr} {As rest : List Value} {g : JFrame}
theorem vx_callBack (cb : CallB R s args own index y bytes maxL ret ws rm mc ms n) (hM : vx_Met l y ws rm Pc Qc XC mc ms free) (hbl : FrameBlind Pc) : vx_Back l R p e below s args y 3 8 (PreOf R mc ms Pc) (PostOf Qc mc ms free) (vx_Post XC mc ms free) := by
  obtain ⟨hrc, hrs, hfr, hlo, hws, hcw, -, hini, -⟩ := cb
  exact vx_back (bytes := bytes) (maxL := maxL) (ret := ret) hM hbl hrc hrs hfr hlo hws hcw (fun a' U hW => word_at hW (Or.inl (by first | rfl | simp [Cond.onTables, Cond.keeps, Cond.steady])) hini)
theorem vx_runV (S : CallFix p m c cc nL s args Ts own) (hM : vx_Met l y ws rm Pc Qc XC mc ms free) (cw : CallW R s args own C index y bytes maxL ret ws rm mc ms n) (hp : PreV s H C b Pc As)
    (hg : g.method = m) (hn : As.length = n) (hsize : g.locals.size = nL) (hstack : g.stack = As.reverse ++ .ref b :: rest) (hW : 2 * g.monitorRoom + (rest.map fun v => v.category).sum ≤ 8) (hdg : decode cc g.pc = .ok (.invokevirtual index, 3)) (hf : cells + mc ≤ R.cells ∧ slots + ms ≤ R.slots) :
    vx_Run p l e R s m args below meth c H locs cells slots mc ms g rest (Qc (Value.ref b :: As).toArray) XC free := by
  have hK : vx_Back l R p e below s args y 3 8 (PreOf R mc ms Pc) (PostOf Qc mc ms free) (vx_Post XC mc ms free) := vx_callBack cw.1 hM hp.1
  obtain ⟨⟨-, -, -, -, -, -, hcode, -, hy, hlen, hl⟩, hin, hse⟩ := cw
  obtain ⟨hx, hb, hml, ho, -⟩ := S
  obtain ⟨-, ⟨cellB, hcB, hoB, hclB⟩, hPc⟩ := hp
  intro T hT X
  rcases vx_callV X hx (C := C) (bytes := bytes) (maxL := maxL) (ret := ret) ho hl hin hse hcode hy hK (by rw [hT]; exact hcB) hoB hclB hg (hsize.trans hml.symm) (argsL := As) (rest := rest) (fun sig h => hn.trans (hlen sig h)) hstack hW (by rw [hb]; exact hdg)
    (fun vm₁ hW₁ => ⟨hf.1, hf.2, hPc (T.setVm vm₁) hT hW₁⟩) with ⟨v, vm₁, ⟨U', l2, c2, s2⟩, hW₁, X', ⟨g', mk, t, L, e1, e2, hq, h1, hL, h2, h3⟩, st⟩ | ⟨q, vm₁, ⟨U', l2, c2, s2⟩, hW₁, X', ⟨g', mk, t, L, E, ce, e1, e2, hq, hce, hcv, hcl, h1, hL, h2, h3⟩, st⟩
  · dsimp only [Pt.U, Pt.locs, Pt.cells, Pt.slots] at X' e1 e2 h1 h2 h3 st
    subst h1; subst h2; subst h3
    exact Or.inl ⟨v, (T.setVm vm₁).calling g' mk (Value.ref b :: As).toArray, t, U', L, hT, X', hL, e1, e2, hq, st⟩
  · dsimp only [Pt.U, Pt.locs, Pt.cells, Pt.slots] at X' e1 e2 h1 h2 h3 st hcl
    subst h1; subst h2; subst h3
    exact Or.inr ⟨q, (T.setVm vm₁).calling g' mk (Value.ref b :: As).toArray, t, U', L, E, ce, hT, X', hL, e1, e2, hq, hce, hcv, vx_cls hW₁ hcl, st⟩
theorem vx_runS (S : CallFix p m c cc nL s args Ts own) (hM : vx_Met l y ws rm Pc Qc XC mc ms free) (cw : CallB R s args own index y bytes maxL ret ws rm mc ms n ∧ (Cond.static y).before args s = true) (hp : PreS s H Pc As)
    (hg : g.method = m) (hn : As.length = n) (hsize : g.locals.size = nL) (hstack : g.stack = As.reverse ++ rest) (hW : 2 * g.monitorRoom + (rest.map fun v => v.category).sum ≤ 8) (hdg : decode cc g.pc = .ok (.invokestatic index, 3)) (hf : cells + mc ≤ R.cells ∧ slots + ms ≤ R.slots) :
    vx_Run p l e R s m args below meth c H locs cells slots mc ms g rest (Qc As.toArray) XC free := by
  have hK : vx_Back l R p e below s args y 3 8 (PreOf R mc ms Pc) (PostOf Qc mc ms free) (vx_Post XC mc ms free) := vx_callBack cw.1 hM hp.1
  obtain ⟨⟨-, -, -, -, -, -, hcode, hini, hy, hlen, hl⟩, hstt⟩ := cw
  obtain ⟨hx, hb, hml, ho, -⟩ := S
  intro T hT X
  rcases vx_callS X hx (bytes := bytes) (maxL := maxL) (ret := ret) ho hl hstt hini hcode hy hK hg (hsize.trans hml.symm) (argsL := As) (rest := rest) (fun sig h => hn.trans (hlen sig h)) hstack hW (by rw [hb]; exact hdg)
    (fun vm₁ hW₁ => ⟨hf.1, hf.2, hp.2 (T.setVm vm₁) hT hW₁⟩) with ⟨v, vm₁, ⟨U', l2, c2, s2⟩, hW₁, X', ⟨g', mk, t, L, e1, e2, hq, h1, hL, h2, h3⟩, st⟩ | ⟨q, vm₁, ⟨U', l2, c2, s2⟩, hW₁, X', ⟨g', mk, t, L, E, ce, e1, e2, hq, hce, hcv, hcl, h1, hL, h2, h3⟩, st⟩
  · dsimp only [Pt.U, Pt.locs, Pt.cells, Pt.slots] at X' e1 e2 h1 h2 h3 st
    subst h1; subst h2; subst h3
    exact Or.inl ⟨v, (T.setVm vm₁).calling g' mk As.toArray, t, U', L, hT, X', hL, e1, e2, hq, st⟩
  · dsimp only [Pt.U, Pt.locs, Pt.cells, Pt.slots] at X' e1 e2 h1 h2 h3 st hcl
    subst h1; subst h2; subst h3
    exact Or.inr ⟨q, (T.setVm vm₁).calling g' mk As.toArray, t, U', L, E, ce, hT, X', hL, e1, e2, hq, hce, hcv, vx_cls hW₁ hcl, st⟩
end Runs
section Rows
variable {p : Program} {l : Launch} {e : Env} {R : Room} {s : State} {m : MethodId} {args : Array Value} {below : List Frame} {meth : Method} {c : Code} {H : Heap} {locs : List Loc} {cells slots : Nat} {Q : State → Prop}
variable {mc ms : Nat} {free : Addr → Prop} {A0 A1 : Nat → Prop} {H0 : Heap} {a : Array Value} {pc : Nat} {ls : Array Slot} {st0 rest : List Value}
theorem vx_keep {st₀ t T' : State} {L : List Loc} (h0 : st₀.heap = H) (e1 : T'.heap = t.heap) (hS : va_S A0 H0 H locs) (hA : ∀ q, q < H.size → A1 q → A0 q) (hf : ∀ q, free q → A0 q) (hL : ∀ q ∈ L, free q.base) (hF : va_F A1 st₀ t) :
    H.size ≤ T'.heap.size ∧ (∀ q : Nat, q < H.size → ¬ A1 q → T'.heap[q]? = H[q]?) ∧ va_S A0 H0 T'.heap (locs ++ L) := by
  obtain ⟨hz, hk⟩ := hF
  rw [h0] at hz hk
  exact ⟨by rw [e1]; exact hz, fun q h1 h2 => by rw [e1]; exact hk q h1 h2,
    ⟨Nat.le_trans hS.1 (by rw [e1]; exact hz), fun q h1 h2 => by rw [e1, hk q (Nat.lt_of_lt_of_le h1 hS.1) (fun z => h2 (hA q (Nat.lt_of_lt_of_le h1 hS.1) z))]; exact hS.2.1 q h1 h2, fun q hq => by
      rcases List.mem_append.mp hq with h | h
      · exact hS.2.2 q h
      · exact hf _ (hL q h)⟩⟩
theorem vx_calli {S SX : Type} {post : Int32 → S → Prop} {px : SX → Prop} {B : S → State → Prop} {BX : String → SX → State → Prop} {AX : Nat → Prop} (hr : vx_Run p l e R s m args below meth c H locs cells slots mc ms (F0 m pc ls st0) rest (va_Qi post B A1 a) (vx_X px BX AX) free) (hS : va_S A0 H0 H locs) (hA : ∀ q, q < H.size → A1 q → A0 q) (hf : ∀ q, free q → A0 q) (hAX : ∀ q, q < H.size → AX q → A0 q)
    (kx : ∀ (E : String) (ce : Cell) (q9 : Addr) (u : SX) (t : State) (H1 : Heap) (locs1 : List Loc), t.heap = H1 → s.vm.Alike t.vm → px u → BX E u t → H.size ≤ H1.size → (∀ q : Nat, q < H.size → ¬ AX q → H1[q]? = H[q]?) → va_S A0 H0 H1 locs1 → H1[q9]? = some ce → ce.vm = .none → s.vm.findClass E = some ce.cls → vx_W p l e R s m args below meth c H1 locs1 (cells + mc) (slots + ms) Q (F0 m pc ls rest) q9)
    (kk : ∀ (r : Int32) (u : S) (t : State) (H1 : Heap) (locs1 : List Loc), t.heap = H1 → s.vm.Alike t.vm → post r u → B u t → H.size ≤ H1.size → (∀ q : Nat, q < H.size → ¬ A1 q → H1[q]? = H[q]?) → va_S A0 H0 H1 locs1 → W p l e R s m args below meth c H1 locs1 (cells + mc) (slots + ms) Q (F0 m (pc + 3) ls (.int r :: rest))) : W p l e R s m args below meth c H locs cells slots Q (F0 m pc ls st0) := by
  intro T hT X
  rcases hr T hT X with ⟨v, st₀, t, T', L, h0, X', hL, e1, e2, ⟨⟨r, u, hv, hp, hb⟩, hF⟩, st⟩ | ⟨q, st₀, t, T', L, E, ce, h0, X', hL, e1, e2, ⟨u, hp, hb, hF⟩, hce, hcv, hcl, st⟩
  · cases hv
    obtain ⟨k1, k2, k3⟩ := vx_keep h0 e1 hS hA hf hL hF
    obtain ⟨t2, a1, b1⟩ := kk r u t T'.heap (locs ++ L) e1.symm (by rw [← e2]; exact X'.warmed.alike) hp hb k1 k2 k3 T' rfl X'
    exact ⟨t2, st t2 a1, b1⟩
  · obtain ⟨k1, k2, k3⟩ := vx_keep h0 e1 hS hAX hf hL hF
    obtain ⟨t2, a1, b1⟩ := kx E ce q u t T'.heap (locs ++ L) e1.symm (by rw [← e2]; exact X'.warmed.alike) hp hb k1 k2 k3 (by rw [e1]; exact hce) hcv hcl T' rfl X'
    exact ⟨t2, st.trans a1, b1⟩
theorem vx_calll {S SX : Type} {post : Int64 → S → Prop} {px : SX → Prop} {B : S → State → Prop} {BX : String → SX → State → Prop} {AX : Nat → Prop} (hr : vx_Run p l e R s m args below meth c H locs cells slots mc ms (F0 m pc ls st0) rest (va_Ql post B A1 a) (vx_X px BX AX) free) (hS : va_S A0 H0 H locs) (hA : ∀ q, q < H.size → A1 q → A0 q) (hf : ∀ q, free q → A0 q) (hAX : ∀ q, q < H.size → AX q → A0 q)
    (kx : ∀ (E : String) (ce : Cell) (q9 : Addr) (u : SX) (t : State) (H1 : Heap) (locs1 : List Loc), t.heap = H1 → s.vm.Alike t.vm → px u → BX E u t → H.size ≤ H1.size → (∀ q : Nat, q < H.size → ¬ AX q → H1[q]? = H[q]?) → va_S A0 H0 H1 locs1 → H1[q9]? = some ce → ce.vm = .none → s.vm.findClass E = some ce.cls → vx_W p l e R s m args below meth c H1 locs1 (cells + mc) (slots + ms) Q (F0 m pc ls rest) q9)
    (kk : ∀ (r : Int64) (u : S) (t : State) (H1 : Heap) (locs1 : List Loc), t.heap = H1 → s.vm.Alike t.vm → post r u → B u t → H.size ≤ H1.size → (∀ q : Nat, q < H.size → ¬ A1 q → H1[q]? = H[q]?) → va_S A0 H0 H1 locs1 → W p l e R s m args below meth c H1 locs1 (cells + mc) (slots + ms) Q (F0 m (pc + 3) ls (.long r :: rest))) : W p l e R s m args below meth c H locs cells slots Q (F0 m pc ls st0) := by
  intro T hT X
  rcases hr T hT X with ⟨v, st₀, t, T', L, h0, X', hL, e1, e2, ⟨⟨r, u, hv, hp, hb⟩, hF⟩, st⟩ | ⟨q, st₀, t, T', L, E, ce, h0, X', hL, e1, e2, ⟨u, hp, hb, hF⟩, hce, hcv, hcl, st⟩
  · cases hv
    obtain ⟨k1, k2, k3⟩ := vx_keep h0 e1 hS hA hf hL hF
    obtain ⟨t2, a1, b1⟩ := kk r u t T'.heap (locs ++ L) e1.symm (by rw [← e2]; exact X'.warmed.alike) hp hb k1 k2 k3 T' rfl X'
    exact ⟨t2, st t2 a1, b1⟩
  · obtain ⟨k1, k2, k3⟩ := vx_keep h0 e1 hS hAX hf hL hF
    obtain ⟨t2, a1, b1⟩ := kx E ce q u t T'.heap (locs ++ L) e1.symm (by rw [← e2]; exact X'.warmed.alike) hp hb k1 k2 k3 (by rw [e1]; exact hce) hcv hcl T' rfl X'
    exact ⟨t2, st.trans a1, b1⟩
theorem vx_callf {S SX : Type} {post : UInt32 → S → Prop} {px : SX → Prop} {B : S → State → Prop} {BX : String → SX → State → Prop} {AX : Nat → Prop} (hr : vx_Run p l e R s m args below meth c H locs cells slots mc ms (F0 m pc ls st0) rest (va_Qf post B A1 a) (vx_X px BX AX) free) (hS : va_S A0 H0 H locs) (hA : ∀ q, q < H.size → A1 q → A0 q) (hf : ∀ q, free q → A0 q) (hAX : ∀ q, q < H.size → AX q → A0 q)
    (kx : ∀ (E : String) (ce : Cell) (q9 : Addr) (u : SX) (t : State) (H1 : Heap) (locs1 : List Loc), t.heap = H1 → s.vm.Alike t.vm → px u → BX E u t → H.size ≤ H1.size → (∀ q : Nat, q < H.size → ¬ AX q → H1[q]? = H[q]?) → va_S A0 H0 H1 locs1 → H1[q9]? = some ce → ce.vm = .none → s.vm.findClass E = some ce.cls → vx_W p l e R s m args below meth c H1 locs1 (cells + mc) (slots + ms) Q (F0 m pc ls rest) q9)
    (kk : ∀ (r : UInt32) (u : S) (t : State) (H1 : Heap) (locs1 : List Loc), t.heap = H1 → s.vm.Alike t.vm → post r u → B u t → H.size ≤ H1.size → (∀ q : Nat, q < H.size → ¬ A1 q → H1[q]? = H[q]?) → va_S A0 H0 H1 locs1 → W p l e R s m args below meth c H1 locs1 (cells + mc) (slots + ms) Q (F0 m (pc + 3) ls (.float r :: rest))) : W p l e R s m args below meth c H locs cells slots Q (F0 m pc ls st0) := by
  intro T hT X
  rcases hr T hT X with ⟨v, st₀, t, T', L, h0, X', hL, e1, e2, ⟨⟨r, u, hv, hp, hb⟩, hF⟩, st⟩ | ⟨q, st₀, t, T', L, E, ce, h0, X', hL, e1, e2, ⟨u, hp, hb, hF⟩, hce, hcv, hcl, st⟩
  · cases hv
    obtain ⟨k1, k2, k3⟩ := vx_keep h0 e1 hS hA hf hL hF
    obtain ⟨t2, a1, b1⟩ := kk r u t T'.heap (locs ++ L) e1.symm (by rw [← e2]; exact X'.warmed.alike) hp hb k1 k2 k3 T' rfl X'
    exact ⟨t2, st t2 a1, b1⟩
  · obtain ⟨k1, k2, k3⟩ := vx_keep h0 e1 hS hAX hf hL hF
    obtain ⟨t2, a1, b1⟩ := kx E ce q u t T'.heap (locs ++ L) e1.symm (by rw [← e2]; exact X'.warmed.alike) hp hb k1 k2 k3 (by rw [e1]; exact hce) hcv hcl T' rfl X'
    exact ⟨t2, st.trans a1, b1⟩
theorem vx_calld {S SX : Type} {post : UInt64 → S → Prop} {px : SX → Prop} {B : S → State → Prop} {BX : String → SX → State → Prop} {AX : Nat → Prop} (hr : vx_Run p l e R s m args below meth c H locs cells slots mc ms (F0 m pc ls st0) rest (va_Qd post B A1 a) (vx_X px BX AX) free) (hS : va_S A0 H0 H locs) (hA : ∀ q, q < H.size → A1 q → A0 q) (hf : ∀ q, free q → A0 q) (hAX : ∀ q, q < H.size → AX q → A0 q)
    (kx : ∀ (E : String) (ce : Cell) (q9 : Addr) (u : SX) (t : State) (H1 : Heap) (locs1 : List Loc), t.heap = H1 → s.vm.Alike t.vm → px u → BX E u t → H.size ≤ H1.size → (∀ q : Nat, q < H.size → ¬ AX q → H1[q]? = H[q]?) → va_S A0 H0 H1 locs1 → H1[q9]? = some ce → ce.vm = .none → s.vm.findClass E = some ce.cls → vx_W p l e R s m args below meth c H1 locs1 (cells + mc) (slots + ms) Q (F0 m pc ls rest) q9)
    (kk : ∀ (r : UInt64) (u : S) (t : State) (H1 : Heap) (locs1 : List Loc), t.heap = H1 → s.vm.Alike t.vm → post r u → B u t → H.size ≤ H1.size → (∀ q : Nat, q < H.size → ¬ A1 q → H1[q]? = H[q]?) → va_S A0 H0 H1 locs1 → W p l e R s m args below meth c H1 locs1 (cells + mc) (slots + ms) Q (F0 m (pc + 3) ls (.double r :: rest))) : W p l e R s m args below meth c H locs cells slots Q (F0 m pc ls st0) := by
  intro T hT X
  rcases hr T hT X with ⟨v, st₀, t, T', L, h0, X', hL, e1, e2, ⟨⟨r, u, hv, hp, hb⟩, hF⟩, st⟩ | ⟨q, st₀, t, T', L, E, ce, h0, X', hL, e1, e2, ⟨u, hp, hb, hF⟩, hce, hcv, hcl, st⟩
  · cases hv
    obtain ⟨k1, k2, k3⟩ := vx_keep h0 e1 hS hA hf hL hF
    obtain ⟨t2, a1, b1⟩ := kk r u t T'.heap (locs ++ L) e1.symm (by rw [← e2]; exact X'.warmed.alike) hp hb k1 k2 k3 T' rfl X'
    exact ⟨t2, st t2 a1, b1⟩
  · obtain ⟨k1, k2, k3⟩ := vx_keep h0 e1 hS hAX hf hL hF
    obtain ⟨t2, a1, b1⟩ := kx E ce q u t T'.heap (locs ++ L) e1.symm (by rw [← e2]; exact X'.warmed.alike) hp hb k1 k2 k3 (by rw [e1]; exact hce) hcv hcl T' rfl X'
    exact ⟨t2, st.trans a1, b1⟩
theorem vx_callv {S SX : Type} {post : S → Prop} {px : SX → Prop} {B : S → State → Prop} {BX : String → SX → State → Prop} {AX : Nat → Prop} (hr : vx_Run p l e R s m args below meth c H locs cells slots mc ms (F0 m pc ls st0) rest (va_Qv post B A1 a) (vx_X px BX AX) free) (hS : va_S A0 H0 H locs) (hA : ∀ q, q < H.size → A1 q → A0 q) (hf : ∀ q, free q → A0 q) (hAX : ∀ q, q < H.size → AX q → A0 q)
    (kx : ∀ (E : String) (ce : Cell) (q9 : Addr) (u : SX) (t : State) (H1 : Heap) (locs1 : List Loc), t.heap = H1 → s.vm.Alike t.vm → px u → BX E u t → H.size ≤ H1.size → (∀ q : Nat, q < H.size → ¬ AX q → H1[q]? = H[q]?) → va_S A0 H0 H1 locs1 → H1[q9]? = some ce → ce.vm = .none → s.vm.findClass E = some ce.cls → vx_W p l e R s m args below meth c H1 locs1 (cells + mc) (slots + ms) Q (F0 m pc ls rest) q9)
    (kk : ∀ (u : S) (t : State) (H1 : Heap) (locs1 : List Loc), t.heap = H1 → s.vm.Alike t.vm → post u → B u t → H.size ≤ H1.size → (∀ q : Nat, q < H.size → ¬ A1 q → H1[q]? = H[q]?) → va_S A0 H0 H1 locs1 → W p l e R s m args below meth c H1 locs1 (cells + mc) (slots + ms) Q (F0 m (pc + 3) ls (rest))) : W p l e R s m args below meth c H locs cells slots Q (F0 m pc ls st0) := by
  intro T hT X
  rcases hr T hT X with ⟨v, st₀, t, T', L, h0, X', hL, e1, e2, ⟨⟨u, hv, hp, hb⟩, hF⟩, st⟩ | ⟨q, st₀, t, T', L, E, ce, h0, X', hL, e1, e2, ⟨u, hp, hb, hF⟩, hce, hcv, hcl, st⟩
  · cases hv
    obtain ⟨k1, k2, k3⟩ := vx_keep h0 e1 hS hA hf hL hF
    obtain ⟨t2, a1, b1⟩ := kk u t T'.heap (locs ++ L) e1.symm (by rw [← e2]; exact X'.warmed.alike) hp hb k1 k2 k3 T' rfl X'
    exact ⟨t2, st t2 a1, b1⟩
  · obtain ⟨k1, k2, k3⟩ := vx_keep h0 e1 hS hAX hf hL hF
    obtain ⟨t2, a1, b1⟩ := kx E ce q u t T'.heap (locs ++ L) e1.symm (by rw [← e2]; exact X'.warmed.alike) hp hb k1 k2 k3 (by rw [e1]; exact hce) hcv hcl T' rfl X'
    exact ⟨t2, st.trans a1, b1⟩
/-- caught by the row x of this method's table; the rows ahead don't take it -/
theorem vx_catch {own name : String} {E : String} {ce : Cell} {q : Addr} (hown : s.vm.findClass own = some m.cls) (pre : List ExceptionTableEntry) (x : ExceptionTableEntry) (suf : List ExceptionTableEntry) (hsplit : c.exceptionTable.toList = pre ++ x :: suf)
    (hpass : ∀ z ∈ pre, covers z pc = false ∨ (z.catchType ≠ 0 ∧ ∃ nm : String, (Cond.classLink own z.catchType nm).before args s = true ∧ va_Nc E nm s)) (hx : covers x pc = true) (h0 : x.catchType ≠ 0)
    (hlink : (Cond.classLink own x.catchType name).before args s = true) (hcast : (Cond.castable E name).before args s = true) (hcell : H[q]? = some ce) (hv : ce.vm = .none) (hcl : s.vm.findClass E = some ce.cls)
    (kk : W p l e R s m args below meth c H locs cells slots Q (F0 m x.handlerPc ls [.ref q])) : vx_W p l e R s m args below meth c H locs cells slots Q (F0 m pc ls rest) q := by
  intro T hT X
  have hpl : e.platform.magicAccessors = ({} : Platform).magicAccessors := by rw [X.admits.platform]
  obtain ⟨c3, c4, hc3, hc4, hasg⟩ := Cond.castable_spec hcast
  cases Option.some.inj (hc3.symm.trans hcl)
  obtain ⟨c5, hc5, hcl5⟩ := Cond.classLink_spec hown hlink e.platform hpl
  cases Option.some.inj (hc4.symm.trans hc5)
  obtain ⟨vm', X', st⟩ := X.thenCaughtThrough q (g := F0 m pc ls rest) rfl (Steps.refl _) (by rw [hT]; exact hcell) (by rw [hv]; rfl) (by obtain ⟨k9, h9, -⟩ := Vm.findClass_spec hcl; exact ⟨k9, h9⟩) pre x suf hsplit
    (fun z hz => by
      rcases hpass z hz with h | ⟨hz0, nm, hl1, hn1⟩
      · exact Or.inl h
      · obtain ⟨c6, hc6, hcl6⟩ := Cond.classLink_spec hown hl1 e.platform hpl
        obtain ⟨a8, b8, h1, h2, h3⟩ := hn1
        cases Option.some.inj (h1.symm.trans hcl)
        cases Option.some.inj (h2.symm.trans hc6)
        exact Or.inr ⟨hz0, _, hcl6, h3⟩) hx (Or.inr ⟨h0, c4, hcl5, hasg⟩)
  obtain ⟨t, a1, b1⟩ := kk (T.setVm vm') hT X'
  exact ⟨t, st.trans a1, b1⟩
end Rows
section Ends
variable {p : Program} {l : Launch} {e : Env} {R : Room} {s : State} {m : MethodId} {args : Array Value} {below : List Frame} {meth : Method} {c : Code} {H : Heap} {locs : List Loc} {cells slots : Nat} {Q : State → Prop}
variable {mc ms : Nat} {free : Addr → Prop} {A0 A1 : Nat → Prop} {H0 : Heap} {a : Array Value} {ls : Array Slot} {st0 rest : List Value}
variable {Qc : Array Value → State → Outcome → State → Prop} {XC : String → State → State → Prop}
/-- what a body that may throw owes at its end -/
def vx_MQ (below : List Frame) (Qc : Array Value → State → Outcome → State → Prop) (XC : String → State → State → Prop) (a : Array Value) (s : State) (mc ms : Nat) (free : Addr → Prop) : State → Prop := fun t =>
  ∃ o, t.status = .running ∧ Ended t below o ∧ vx_Q Qc XC mc ms free a s o t
theorem vx_ret {g : JFrame} {mc ms : Nat} (k : W p l e R s m args below meth c H locs cells slots (MQ below Qc args s mc ms free) g) : W p l e R s m args below meth c H locs cells slots (vx_MQ below Qc XC args s mc ms free) g := by
  intro T hT X
  obtain ⟨t, a1, o, b1, b2, b3, b4⟩ := k T hT X
  exact ⟨t, a1, o, b1, b2, Or.inl ⟨b3, b4⟩⟩
/-- not caught here: it goes on to the caller -/
theorem vx_widen {g : JFrame} {q : Addr} {k n : Nat} (h1 : cells ≤ k) (h2 : slots ≤ n) (kk : vx_W p l e R s m args below meth c H locs k n Q g q) : vx_W p l e R s m args below meth c H locs cells slots Q g q := fun T hT X => kk T hT (stand_widen X h1 h2)
theorem vx_out {pc : Nat} {E : String} {ce : Cell} {q : Addr} {mc ms : Nat} (hout : ∀ x ∈ c.exceptionTable.toList, covers x pc = false) (hlocks : meth.locks = false) (hcell : H[q]? = some ce) (hv : ce.vm = .none) (hcl : s.vm.findClass E = some ce.cls)
    (hx : ∀ t : State, t.heap = H → s.vm.Alike t.vm → XC E s t) (hf : ∀ z ∈ locs, free z.base) (hc : cells ≤ mc) (hs : slots ≤ ms) :
    vx_W p l e R s m args below meth c H locs cells slots (vx_MQ below Qc XC args s mc ms free) (F0 m pc ls rest) q := by
  intro T hT X
  obtain ⟨st1, hrun, hend, hW, hsm⟩ := X.leaveThrown q (g := F0 m pc ls rest) rfl rfl rfl hout hlocks
  have hcell9 : (T.setFrames (.throwing q :: below)).heap[q]? = some ce := by
    show T.heap[q]? = some ce
    rw [hT]; exact hcell
  exact ⟨_, st1, .threw q, hrun, hend, Or.inr ⟨q, rfl, E, ce, locs, hx _ hT hW.alike, hcell9, hv, hcl, hW, hsm.mono hc hs, hf⟩⟩
theorem vx_frame {U : State} {k n : Nat} (h : s.sameButNew ({ U with vm := s.vm } : State) locs k n) : s.heap.size ≤ U.heap.size ∧ ∀ q : Nat, q < s.heap.size → (∀ z ∈ locs, z.base ≠ q) → U.heap[q]? = s.heap[q]? := by
  obtain ⟨-, h2, -, -, -, h6⟩ := h
  refine ⟨h2, fun q hq hz => ?_⟩
  obtain ⟨c9, e1, e2, e3, e4⟩ := h6 q _ (Array.getElem?_eq_getElem hq)
  have hs : c9.slots = (s.heap[q]).slots := Array.ext_getElem? fun i => e4 i fun hm => hz _ hm rfl
  have h9 : c9 = s.heap[q] := by
    rw [hs] at e2
    exact e2
  have e5 : U.heap[q]? = some c9 := e1
  rw [e5, h9, Array.getElem?_eq_getElem hq]
/-- the words of a throw but the four that speak of the heap -/
def vx_no (w : Cond) : Bool := decide (w ≠ .isRef (.static Bundle.tN "UNASSIGNED_STACK" Bundle.steD)) && decide (w ≠ .isRef (.static Bundle.tN "SUPPRESSED_SENTINEL" Bundle.listD)) && decide (w ≠ .laysStatic Bundle.tN "UNASSIGNED_STACK" Bundle.steD) && decide (w ≠ .laysStatic Bundle.tN "SUPPRESSED_SENTINEL" Bundle.listD)
def vx_at0 (own : String) (ic : Nat) (X : String) (names : List String) : List Cond := (Bundle.ownAtoms0 own ic X names).filter vx_no
def vx_atS (own : String) (ic : Nat) (X : String) (names : List String) : List Cond := (Bundle.ownAtoms own ic X names).filter vx_no
/-- a word that the tables alone decide, or a good one -/
def vx_ot (w : Cond) : Bool := w.onTables || goodWord w
theorem vx_ot_at {args a' : Array Value} {s U : State} {w : Cond} (hW : s.WarmedH U.vm) (hvm : s.vm = U.vm) (hg : vx_ot w = true) (h : w.before args s = true) : w.before a' U = true := by
  simp only [vx_ot, Bool.or_eq_true] at hg
  rcases hg with hg | hg
  · exact va_tabs hg hvm h
  · exact word_at hW (good_of_word hg) h
/-- a list's words: the good ones out of the method's own list, the others by premises of their own -/
theorem vx_hat {args : Array Value} {s : State} {L B : List Cond} (h1 : ∀ w ∈ L.filter goodWord, w.before args s = true) (h2 : ∀ w ∈ L.filter (fun w => !goodWord w), w ∈ B) (h3 : ∀ w ∈ B, w.before args s = true) : ∀ w ∈ L, w.before args s = true := by
  intro w hw
  by_cases g : goodWord w = true
  · exact h1 w (List.mem_filter.mpr ⟨hw, g⟩)
  · refine h3 w (h2 w (List.mem_filter.mpr ⟨hw, ?_⟩))
    show (!goodWord w) = true
    cases hgw : goodWord w
    · rfl
    · exact absurd hgw g
theorem vx_c {args : Array Value} {s : State} {w : Cond} {B : List Cond} (h : w.before args s = true) (t : ∀ w ∈ B, w.before args s = true) : ∀ w' ∈ w :: B, w'.before args s = true := fun w' h' => (List.mem_cons.mp h').elim (fun e => by rw [e]; exact h) (t w')
theorem vx_n {args : Array Value} {s : State} : ∀ w ∈ ([] : List Cond), w.before args s = true := fun _ h => nomatch h
theorem vx_own {args : Array Value} {s : State} {L : List Cond} (h1 : ∀ w ∈ L.filter vx_no, w.before args s = true)
    (hU : (Cond.isRef (.static Bundle.tN "UNASSIGNED_STACK" Bundle.steD)).before args s = true) (hN : (Cond.isRef (.static Bundle.tN "SUPPRESSED_SENTINEL" Bundle.listD)).before args s = true)
    (lU : (Cond.laysStatic Bundle.tN "UNASSIGNED_STACK" Bundle.steD).before args s = true) (lN : (Cond.laysStatic Bundle.tN "SUPPRESSED_SENTINEL" Bundle.listD).before args s = true) : ∀ w ∈ L, w.before args s = true := by
  intro w hw
  by_cases e1 : w = .isRef (.static Bundle.tN "UNASSIGNED_STACK" Bundle.steD)
  · rw [e1]; exact hU
  · by_cases e2 : w = .isRef (.static Bundle.tN "SUPPRESSED_SENTINEL" Bundle.listD)
    · rw [e2]; exact hN
    · by_cases e3 : w = .laysStatic Bundle.tN "UNASSIGNED_STACK" Bundle.steD
      · rw [e3]; exact lU
      · by_cases e4 : w = .laysStatic Bundle.tN "SUPPRESSED_SENTINEL" Bundle.listD
        · rw [e4]; exact lN
        · exact h1 w (List.mem_filter.mpr ⟨hw, by unfold vx_no; rw [decide_eq_true e1, decide_eq_true e2, decide_eq_true e3, decide_eq_true e4]; rfl⟩)
/-- where a static field lies, its class's statics cell in H -/
def vx_L (C n d : String) (A : Nat → Prop) (U : State) (H : Heap) : Prop := ∃ (c : ClassId) (k : Class) (i : Nat) (f : Field) (a : Nat) (cell : Cell), U.vm.findClass C = some c ∧ U.fieldFound? C n d = some (c, k, i, f) ∧ f.isStatic = true ∧ k.statics = some a ∧ H[a]? = some cell ∧ cell.vm.isStatics = true ∧ cell.cls = c ∧ f.slot < cell.slots.size ∧ k.staticTypes[f.slot]? = some f.type ∧ ¬ A a
theorem vx_L.moved {C n d : String} {A : Nat → Prop} {u U : State} {H : Heap} (hvm : u.vm.Alike U.vm) (h : vx_L C n d A u H) : vx_L C n d A U H := by
  obtain ⟨c, k, i, f, a, cell, h1, h2, h3, h4, h5, h6, h7, h8, h9, h10⟩ := h
  obtain ⟨k', hi', he⟩ := State.fieldFound?_setVm hvm h2
  exact ⟨c, k', i, f, a, cell, by rw [hvm.findClass]; exact h1, hi', h3, by rw [he]; exact h4, h5, h6, h7, h8, by rw [he]; exact h9, h10⟩
theorem vx_L.kept {C n d : String} {A : Nat → Prop} {U : State} {H H1 : Heap} (h : vx_L C n d A U H) (hq : ∀ a : Nat, a < H.size → ¬ A a → H1[a]? = H[a]?) : vx_L C n d A U H1 := by
  obtain ⟨c, k, i, f, a, cell, h1, h2, h3, h4, h5, h6, h7, h8, h9, h10⟩ := h
  exact ⟨c, k, i, f, a, cell, h1, h2, h3, h4, by rw [hq a (Array.getElem?_eq_some_iff.mp h5).1 h10]; exact h5, h6, h7, h8, h9, h10⟩
theorem vx_L.narrow {C n d : String} {A B : Nat → Prop} {U : State} {H : Heap} (h : vx_L C n d A U H) (hAB : ∀ q, B q → A q) : vx_L C n d B U H := by
  obtain ⟨c, k, i, f, a, cell, h1, h2, h3, h4, h5, h6, h7, h8, h9, h10⟩ := h
  exact ⟨c, k, i, f, a, cell, h1, h2, h3, h4, h5, h6, h7, h8, h9, fun z => h10 (hAB _ z)⟩
theorem vx_L.word {C n d : String} {A : Nat → Prop} {s : State} {args : Array Value} (h : vx_L C n d A s s.heap) : (Cond.laysStatic C n d).before args s = true := by
  obtain ⟨c, k, i, f, a, cell, h1, h2, h3, h4, h5, h6, h7, h8, h9, -⟩ := h
  show (Cond.laysStatic C n d).holds args s none s [] = true
  exact Cond.laysStatic_of h1 h2 h3 h4 h5 h6 h7 h8 h9
/-- .. and what it holds: null or some reference -/
def vx_Zq (C n d : String) (A : Nat → Prop) (U : State) (H : Heap) : Prop := va_Zq C n d A U H ∧ vx_L C n d A U H
theorem vx_Zq.moved {C n d : String} {A : Nat → Prop} {u U : State} {H : Heap} (hvm : u.vm.Alike U.vm) (h : vx_Zq C n d A u H) : vx_Zq C n d A U H := ⟨va_Zq.moved hvm h.1, vx_L.moved hvm h.2⟩
theorem vx_Zq.kept {C n d : String} {A : Nat → Prop} {U : State} {H H1 : Heap} (h : vx_Zq C n d A U H) (hq : ∀ a : Nat, a < H.size → ¬ A a → H1[a]? = H[a]?) : vx_Zq C n d A U H1 := ⟨va_Zq.kept h.1 hq, vx_L.kept h.2 hq⟩
theorem vx_Zq.narrow {C n d : String} {A B : Nat → Prop} {U : State} {H : Heap} (h : vx_Zq C n d A U H) (hAB : ∀ q, B q → A q) : vx_Zq C n d B U H := ⟨va_Zq.narrow h.1 hAB, vx_L.narrow h.2 hAB⟩
theorem vx_Zqof {args : Array Value} {s : State} {C n d : String} {A : Nat → Prop} (hl : (Cond.laysStatic C n d).before args s = true) (hini : (Cond.initialized C).before args s = true) (h : (Cond.isRef (.static C n d)).before args s = true) (hA : ∀ a : Nat, a < s.heap.size → ¬ A a) : vx_Zq C n d A s s.heap := by
  refine ⟨va_Zqof hl hini h hA, ?_⟩
  obtain ⟨c, k, i, f, a, cell, h1, h2, h3, h4, h5, h6, h7, h8, h9⟩ := Cond.laysStatic_spec hl
  exact ⟨c, k, i, f, a, cell, h1, h2, h3, h4, h5, h6, h7, h8, h9, hA a (Array.getElem?_eq_some_iff.mp h5).1⟩
theorem vx_isRef {C n d : String} {v : Value} {A : Nat → Prop} {s : State} {args : Array Value} (h : va_Z C n d v A s s.heap) (hv : v.isRef = true) : (Cond.isRef (.static C n d)).before args s = true := by
  obtain ⟨cf, kf, fi, f, a, cell, h1, h2, h3, h4, h5, h6, h7, -⟩ := h
  have he : (Term.static C n d).eval args s none [] s = some v := by
    simp [Term.eval, State.fieldNamed?, h1, h2, h4, h5, h6, h7]
  simp only [Cond.before, Cond.holds, Cond.value, he]
  cases v <;> simp_all [Value.isRef]
theorem vx_isRefq {C n d : String} {A : Nat → Prop} {s : State} {args : Array Value} (h : va_Zq C n d A s s.heap) : (Cond.isRef (.static C n d)).before args s = true := by
  rcases h with h | ⟨t, h⟩
  · exact vx_isRef h rfl
  · exact vx_isRef h rfl
/-- the same frame, seen from here: as if the method were called anew in this heap -/
theorem vx_rebase {T : State} (X : Stand p l e R s m args below meth c T locs cells slots) {R' : Room} (hf : R'.frames ≤ R.frames) (hl : R'.locals ≤ R.locals) (hc : cells + R'.cells ≤ R.cells) (hs : slots + R'.slots ≤ R.slots) :
    Stand p l e R' ((T.setVm s.vm).setFrames (.invoking m args :: below)) m args below meth c T [] 0 0 := by
  have htop : (T.setVm s.vm).topJava?.isSome := X.here.top
  have hF : ((T.setVm s.vm).setFrames (.invoking m args :: below)).frames = .invoking m args :: below := State.frames_setFrames _ (State.cur_lt_of_top htop)
  obtain ⟨g₀, hg0⟩ := Option.isSome_iff_exists.mp htop
  obtain ⟨r, hr⟩ := State.topJava?_eq_some.mp hg0
  have hl9 : e.platform.stackLimits (T.setVm s.vm).me = e.platform.stackLimits s.me := X.limits
  have hb9 : (T.setVm s.vm).me.stackBytes = s.me.stackBytes := X.bytes
  refine ⟨X.admits, X.cas, X.clock, hF, ?_, X.hears, X.method, X.code, X.here, X.tail, X.warmed, ?_, ?_, ?_⟩
  · have h := X.room
    have hU : ((T.setVm s.vm).setFrames (.invoking m args :: below)).localsInUse = s.localsInUse := by
      rw [State.localsInUse_invoking hF (meth := meth) (c := c) X.method X.code, State.localsInUse_invoking X.frames X.method X.code]
    simp only [State.hasRoom, Bool.and_eq_true, decide_eq_true_eq] at h ⊢
    obtain ⟨⟨⟨⟨h1, h2, h3, h4, h5, h6⟩, h7⟩, h8⟩, h9⟩ := h
    rw [X.frames, List.length_cons] at h2 h3
    have q1 := X.heapSize
    have q2 := X.used
    simp only [hF, hU, List.length_cons, State.stackLimits_setFrames, State.stackBytes_setFrames, hl9, hb9]
    refine ⟨⟨⟨⟨by omega, by omega, by omega, by omega, by omega, h6⟩, ?_⟩, ?_⟩, X.book⟩
    · show T.heap.size + R'.cells ≤ e.platform.maxCells
      omega
    · show T.slotsUsed + R'.slots ≤ e.platform.maxSlots
      omega
  · rw [State.stackLimits_setFrames]; rfl
  · rw [State.stackBytes_setFrames]; rfl
  · refine ⟨?_, Nat.le_refl _, Nat.le_refl _, ?_, ?_, fun a c9 h9 => ⟨c9, h9, rfl, rfl, fun _ _ => rfl⟩⟩
    · obtain ⟨t, ht, -⟩ := State.frames_cons hr
      show T.setVm s.vm = { ((T.setVm s.vm).setFrames (.invoking m args :: below)).setFrames (T.setVm s.vm).frames with heap := T.heap, slotsUsed := T.slotsUsed }
      rw [State.setFrames_setFrames, State.setFrames_self ht]
      rfl
    · show T.slotsUsed = T.slotsUsed + ((T.heap.toList.drop T.heap.size).map (·.slots.size)).sum
      rw [List.drop_eq_nil_of_le (Nat.le_of_eq Array.length_toList)]
      rfl
    · show ((T.heap.toList.drop T.heap.size).map (·.slots.size)).sum ≤ 0
      rw [List.drop_eq_nil_of_le (Nat.le_of_eq Array.length_toList)]
      exact Nat.le_refl _
/-- 'throw new E()': new; dup; invokespecial; athrow -/
theorem vx_throw0 {cc : ByteArray} {pc : Nat} (hexec : p.tables.exec = Jvm.exec) (hb : c.code = cc) (hl : l.stackTraces = false) {own cls : String} {names : List String} {ik ic mc ms : Nat} {A : Nat → Prop}
    (hown : s.vm.findClass own = some m.cls) (hcls : Bundle.fit cls = true) (hnames : ∀ n ∈ names, Bundle.fit n = true)
    (hk : (Cond.classLink own ik cls).before args s = true) (hini : (Cond.initialized cls).before args s = true) (hat : ∀ w ∈ vx_at0 own ic cls names, w.before args s = true)
    (hgood : ∀ w ∈ Cond.classLink own ik cls :: Cond.initialized cls :: vx_at0 own ic cls names, vx_ot w = true)
    (hU : vx_Zq Bundle.tN "UNASSIGNED_STACK" Bundle.steD A s s.heap) (hN : vx_Zq Bundle.tN "SUPPRESSED_SENTINEL" Bundle.listD A s s.heap) (hS : va_S A s.heap H locs) (hsize : ls.size = c.maxLocals)
    (d0 : decode cc pc = .ok (.new ik, 3)) (d3 : decode cc (pc + 3) = .ok (.dup, 1)) (d4 : decode cc (pc + 4) = .ok (.invokespecial ic, 3)) (d7 : decode cc (pc + 7) = .ok (.athrow, 1))
    (hout : ∀ x ∈ c.exceptionTable.toList, covers x (pc + 7) = false)
    (hRframes : names.length + 3 < R.frames) (hRlocals : (rest.map fun v => v.category).sum + (13 * (names.length + 1) + 42) ≤ R.locals) (hRcells : cells + 1 ≤ R.cells) (hRslots : slots + 6 ≤ R.slots) (hlocks : meth.locks = false)
    (hx : ∀ t : State, s.vm.Alike t.vm → H.size ≤ t.heap.size → (∀ q : Nat, q < H.size → t.heap[q]? = H[q]?) → XC cls s t)
    (hf : ∀ z ∈ locs, free z.base) (hc : cells + 1 ≤ mc) (hs : slots + 6 ≤ ms) :
    W p l e R s m args below meth c H locs cells slots (vx_MQ below Qc XC args s mc ms free) (F0 m pc ls rest) := by
  intro T hT X
  have htr : e.platform.stackTraces = false := (show e.platform.stackTraces = l.stackTraces by rw [X.admits.platform]).trans hl
  have Y := vx_rebase X (R' := { frames := R.frames, locals := R.locals, cells := 1, slots := 6 }) (Nat.le_refl _) (Nat.le_refl _) hRcells hRslots
  obtain ⟨s', hA⟩ : ∃ z, z = (T.setVm s.vm).setFrames (.invoking m args :: below) := ⟨_, rfl⟩
  rw [← hA] at Y
  have hvm : s'.vm = s.vm := by rw [hA]; rfl
  have hhp : s'.heap = H := by rw [hA]; exact hT
  have hW0 : s.WarmedH s'.vm := by rw [hvm]; exact State.WarmedH.refl s
  have hat' : ∀ w ∈ vx_at0 own ic cls names, w.before args s' = true := fun w hw => vx_ot_at hW0 hvm.symm (hgood w (List.mem_cons_of_mem _ (List.mem_cons_of_mem _ hw))) (hat w hw)
  have hk' : (Cond.classLink own ik cls).before args s' = true := vx_ot_at hW0 hvm.symm (hgood _ List.mem_cons_self) hk
  have hini' : (Cond.initialized cls).before args s' = true := vx_ot_at hW0 hvm.symm (hgood _ (List.mem_cons_of_mem _ List.mem_cons_self)) hini
  have hU' : vx_Zq Bundle.tN "UNASSIGNED_STACK" Bundle.steD A s' s'.heap := by rw [hhp]; exact vx_Zq.moved hW0.alike (hU.kept hS.2.1)
  have hN' : vx_Zq Bundle.tN "SUPPRESSED_SENTINEL" Bundle.listD A s' s'.heap := by rw [hhp]; exact vx_Zq.moved hW0.alike (hN.kept hS.2.1)
  have h : ∀ w ∈ Bundle.ownAtoms0 own ic cls names, w.before args s' = true := vx_own hat' (vx_isRefq hU'.1) (vx_isRefq hN'.1) hU'.2.word hN'.2.word
  have hown' : s'.vm.findClass own = some m.cls := by rw [hvm]; exact hown
  have hins : (Cond.instantiable cls 6).before args s' = true := h _ (by simp [Bundle.ownAtoms0])
  obtain ⟨vm₁, cX, kX, hfX, hkX, -, -, X₁, st1⟩ := Y.newCold hexec (own := own) (C := cls) (index := ik) (n := 6) hown' hk' hins hini'
    (g := F0 m pc ls rest) rfl (by rw [hb]; exact d0) (Nat.le_refl _) (Nat.le_refl _)
  generalize hT1 : (T.setVm vm₁).pushCell { cls := cX, slots := kX.instanceTypes.map defaultValue, vm := .none } = T1 at X₁ st1
  have hcat : (Value.ref T.heap.size).category = 1 := rfl
  have hcellA : T1.heap[T.heap.size]? = some (freshCell cX kX) := by rw [← hT1]; exact State.heap_pushCell_size _ _
  have d3' : decode c.code (pc + 3) = .ok (.dup, 1) := by rw [hb]; exact d3
  obtain ⟨U, hsteps, hrun, hend, hW, hsame, ce, hce, hO⟩ := X₁.ctorThrow0 hexec htr (own := own) (cls := cls) (names := names) (ic := ic) hown' hcls hnames h (fun x hx => nomatch hx) hfX hkX hcellA (by rw [hhp, hT]; exact Nat.le_refl _)
    (g := { method := m, pc := pc + 4, locals := ls, stack := .ref T.heap.size :: .ref T.heap.size :: rest, locked := none }) rfl hsize rfl rfl (rest := rest) rfl
    (by rw [hb]; exact d4) (by rw [hb]; exact d7) hout hRframes (by simp only [List.map_cons, List.sum_cons, hcat]; omega) hlocks
  obtain ⟨f1, f2⟩ := vx_frame hsame
  rw [hhp] at f1 f2
  have hWs : s.WarmedH U.vm := State.WarmedH.trans hW0 hW
  have hcl : s.vm.findClass cls = some ce.cls := by
    have h9 := hO.cls
    rw [hvm] at h9
    exact h9
  have hall : s.sameButNew ({ U with vm := s.vm } : State) locs mc ms := by
    subst hA
    obtain ⟨e1, e2⟩ := hsame
    rw [State.setFrames_setFrames] at e1
    have h2 : (T.setVm s.vm).sameButNew ({ U with vm := s.vm } : State) [] (0 + 1) (0 + 6) := ⟨e1, e2⟩
    have h3 := X.same.trans h2
    rw [List.append_nil] at h3
    exact h3.mono hc hs
  refine ⟨U, ?_, .threw T.heap.size, hrun, hend, Or.inr ⟨T.heap.size, rfl, cls, ce, locs, hx U hWs.alike f1 (fun q hq => f2 q hq (fun z hz => nomatch hz)), hce, hO.vm, hcl, hWs, hall, hf⟩⟩
  refine st1 _ ?_
  show Steps p.tables e below (T1.setTop { method := m, pc := pc + 3, locals := ls, stack := .ref T.heap.size :: rest, locked := none }) _
  jvm_step X₁.here [X₁.here.top, hexec, d3', Value.category]
  exact hsteps
/-- 'throw new E("text")': new; dup; ldc; invokespecial; athrow -/
theorem vx_throwS {cc : ByteArray} {pc : Nat} (hexec : p.tables.exec = Jvm.exec) (hb : c.code = cc) (hl : l.stackTraces = false) {own cls text : String} {names : List String} {ik is ic mc ms sa : Nat} {A : Nat → Prop}
    (hown : s.vm.findClass own = some m.cls) (hcls : Bundle.fit cls = true) (hnames : ∀ n ∈ names, Bundle.fit n = true)
    (hk : (Cond.classLink own ik cls).before args s = true) (hini : (Cond.initialized cls).before args s = true) (hstr : vk_R own is text sa s) (hat : ∀ w ∈ vx_atS own ic cls names, w.before args s = true)
    (hgood : ∀ w ∈ Cond.classLink own ik cls :: Cond.initialized cls :: vx_atS own ic cls names, vx_ot w = true)
    (hU : vx_Zq Bundle.tN "UNASSIGNED_STACK" Bundle.steD A s s.heap) (hN : vx_Zq Bundle.tN "SUPPRESSED_SENTINEL" Bundle.listD A s s.heap) (hS : va_S A s.heap H locs) (hsize : ls.size = c.maxLocals)
    (d0 : decode cc pc = .ok (.new ik, 3)) (d3 : decode cc (pc + 3) = .ok (.dup, 1)) (d4 : decode cc (pc + 4) = .ok (.ldc is, 2)) (d6 : decode cc (pc + 6) = .ok (.invokespecial ic, 3)) (d9 : decode cc (pc + 9) = .ok (.athrow, 1))
    (hout : ∀ x ∈ c.exceptionTable.toList, covers x (pc + 9) = false)
    (hRframes : names.length + 3 < R.frames) (hRlocals : (rest.map fun v => v.category).sum + (13 * (names.length + 1) + 43) ≤ R.locals) (hRcells : cells + 1 ≤ R.cells) (hRslots : slots + 6 ≤ R.slots) (hlocks : meth.locks = false)
    (hx : ∀ t : State, s.vm.Alike t.vm → H.size ≤ t.heap.size → (∀ q : Nat, q < H.size → t.heap[q]? = H[q]?) → XC cls s t)
    (hf : ∀ z ∈ locs, free z.base) (hc : cells + 1 ≤ mc) (hs : slots + 6 ≤ ms) :
    W p l e R s m args below meth c H locs cells slots (vx_MQ below Qc XC args s mc ms free) (F0 m pc ls rest) := by
  intro T hT X
  have htr : e.platform.stackTraces = false := (show e.platform.stackTraces = l.stackTraces by rw [X.admits.platform]).trans hl
  have Y := vx_rebase X (R' := { frames := R.frames, locals := R.locals, cells := 1, slots := 6 }) (Nat.le_refl _) (Nat.le_refl _) hRcells hRslots
  obtain ⟨s', hA⟩ : ∃ z, z = (T.setVm s.vm).setFrames (.invoking m args :: below) := ⟨_, rfl⟩
  rw [← hA] at Y
  have hvm : s'.vm = s.vm := by rw [hA]; rfl
  have hhp : s'.heap = H := by rw [hA]; exact hT
  have hW0 : s.WarmedH s'.vm := by rw [hvm]; exact State.WarmedH.refl s
  have hat' : ∀ w ∈ vx_atS own ic cls names, w.before args s' = true := fun w hw => vx_ot_at hW0 hvm.symm (hgood w (List.mem_cons_of_mem _ (List.mem_cons_of_mem _ hw))) (hat w hw)
  have hk' : (Cond.classLink own ik cls).before args s' = true := vx_ot_at hW0 hvm.symm (hgood _ List.mem_cons_self) hk
  have hini' : (Cond.initialized cls).before args s' = true := vx_ot_at hW0 hvm.symm (hgood _ (List.mem_cons_of_mem _ List.mem_cons_self)) hini
  have hU' : vx_Zq Bundle.tN "UNASSIGNED_STACK" Bundle.steD A s' s'.heap := by rw [hhp]; exact vx_Zq.moved hW0.alike (hU.kept hS.2.1)
  have hN' : vx_Zq Bundle.tN "SUPPRESSED_SENTINEL" Bundle.listD A s' s'.heap := by rw [hhp]; exact vx_Zq.moved hW0.alike (hN.kept hS.2.1)
  have h : ∀ w ∈ Bundle.ownAtoms own ic cls names, w.before args s' = true := vx_own hat' (vx_isRefq hU'.1) (vx_isRefq hN'.1) hU'.2.word hN'.2.word
  have hown' : s'.vm.findClass own = some m.cls := by rw [hvm]; exact hown
  have hins : (Cond.instantiable cls 6).before args s' = true := h _ (by simp [Bundle.ownAtoms])
  obtain ⟨vm₁, cX, kX, hfX, hkX, -, -, X₁, st1⟩ := Y.newCold hexec (own := own) (C := cls) (index := ik) (n := 6) hown' hk' hins hini'
    (g := F0 m pc ls rest) rfl (by rw [hb]; exact d0) (Nat.le_refl _) (Nat.le_refl _)
  generalize hT1 : (T.setVm vm₁).pushCell { cls := cX, slots := kX.instanceTypes.map defaultValue, vm := .none } = T1 at X₁ st1
  have hcat : (Value.ref T.heap.size).category = 1 := rfl
  have hcellA : T1.heap[T.heap.size]? = some (freshCell cX kX) := by rw [← hT1]; exact State.heap_pushCell_size _ _
  have d3' : decode c.code (pc + 3) = .ok (.dup, 1) := by rw [hb]; exact d3
  have d4' : decode c.code (pc + 4) = .ok (.ldc is, 2) := by rw [hb]; exact d4
  have hstr' : vk_R own is text sa s' := vk_R.warm hW0 hstr
  obtain ⟨U, hsteps, hrun, hend, hW, hsame, ce, hce, hO⟩ := X₁.ctorThrowS hexec htr (own := own) (cls := cls) (names := names) (ic := ic) hown' hcls hnames h (fun x hx => nomatch hx) hfX hkX hcellA (by rw [hhp, hT]; exact Nat.le_refl _) (msg := .ref sa) rfl
    (g := { method := m, pc := pc + 6, locals := ls, stack := .ref sa :: .ref T.heap.size :: .ref T.heap.size :: rest, locked := none }) rfl hsize rfl rfl (rest := rest) rfl
    (by rw [hb]; exact d6) (by rw [hb]; exact d9) hout hRframes (by simp only [List.map_cons, List.sum_cons, hcat]; omega) hlocks
  obtain ⟨f1, f2⟩ := vx_frame hsame
  rw [hhp] at f1 f2
  have hWs : s.WarmedH U.vm := State.WarmedH.trans hW0 hW
  have hcl : s.vm.findClass cls = some ce.cls := by
    have h9 := hO.cls
    rw [hvm] at h9
    exact h9
  have hall : s.sameButNew ({ U with vm := s.vm } : State) locs mc ms := by
    subst hA
    obtain ⟨e1, e2⟩ := hsame
    rw [State.setFrames_setFrames] at e1
    have h2 : (T.setVm s.vm).sameButNew ({ U with vm := s.vm } : State) [] (0 + 1) (0 + 6) := ⟨e1, e2⟩
    have h3 := X.same.trans h2
    rw [List.append_nil] at h3
    exact h3.mono hc hs
  refine ⟨U, ?_, .threw T.heap.size, hrun, hend, Or.inr ⟨T.heap.size, rfl, cls, ce, locs, hx U hWs.alike f1 (fun q hq => f2 q hq (fun z hz => nomatch hz)), hce, hO.vm, hcl, hWs, hall, hf⟩⟩
  refine st1 _ ?_
  show Steps p.tables e below (T1.setTop { method := m, pc := pc + 3, locals := ls, stack := .ref T.heap.size :: rest, locked := none }) _
  jvm_step X₁.here [X₁.here.top, hexec, d3', Value.category]
  exact X₁.ldcString hexec (own := own) (text := text) (index := is) (a := sa) hown' hstr'.1 hstr'.2
    (g := { method := m, pc := pc + 4, locals := ls, stack := .ref T.heap.size :: .ref T.heap.size :: rest, locked := none }) rfl d4' _ hsteps
/-- 'throw new E("text")', the text by a wide index -/
theorem vx_throwSW {cc : ByteArray} {pc : Nat} (hexec : p.tables.exec = Jvm.exec) (hb : c.code = cc) (hl : l.stackTraces = false) {own cls text : String} {names : List String} {ik is ic mc ms sa : Nat} {A : Nat → Prop}
    (hown : s.vm.findClass own = some m.cls) (hcls : Bundle.fit cls = true) (hnames : ∀ n ∈ names, Bundle.fit n = true)
    (hk : (Cond.classLink own ik cls).before args s = true) (hini : (Cond.initialized cls).before args s = true) (hstr : vk_R own is text sa s) (hat : ∀ w ∈ vx_atS own ic cls names, w.before args s = true)
    (hgood : ∀ w ∈ Cond.classLink own ik cls :: Cond.initialized cls :: vx_atS own ic cls names, vx_ot w = true)
    (hU : vx_Zq Bundle.tN "UNASSIGNED_STACK" Bundle.steD A s s.heap) (hN : vx_Zq Bundle.tN "SUPPRESSED_SENTINEL" Bundle.listD A s s.heap) (hS : va_S A s.heap H locs) (hsize : ls.size = c.maxLocals)
    (d0 : decode cc pc = .ok (.new ik, 3)) (d3 : decode cc (pc + 3) = .ok (.dup, 1)) (d4 : decode cc (pc + 4) = .ok (.ldc_w is, 3)) (d7 : decode cc (pc + 7) = .ok (.invokespecial ic, 3)) (d10 : decode cc (pc + 10) = .ok (.athrow, 1))
    (hout : ∀ x ∈ c.exceptionTable.toList, covers x (pc + 10) = false)
    (hRframes : names.length + 3 < R.frames) (hRlocals : (rest.map fun v => v.category).sum + (13 * (names.length + 1) + 43) ≤ R.locals) (hRcells : cells + 1 ≤ R.cells) (hRslots : slots + 6 ≤ R.slots) (hlocks : meth.locks = false)
    (hx : ∀ t : State, s.vm.Alike t.vm → H.size ≤ t.heap.size → (∀ q : Nat, q < H.size → t.heap[q]? = H[q]?) → XC cls s t)
    (hf : ∀ z ∈ locs, free z.base) (hc : cells + 1 ≤ mc) (hs : slots + 6 ≤ ms) :
    W p l e R s m args below meth c H locs cells slots (vx_MQ below Qc XC args s mc ms free) (F0 m pc ls rest) := by
  intro T hT X
  have htr : e.platform.stackTraces = false := (show e.platform.stackTraces = l.stackTraces by rw [X.admits.platform]).trans hl
  have Y := vx_rebase X (R' := { frames := R.frames, locals := R.locals, cells := 1, slots := 6 }) (Nat.le_refl _) (Nat.le_refl _) hRcells hRslots
  obtain ⟨s', hA⟩ : ∃ z, z = (T.setVm s.vm).setFrames (.invoking m args :: below) := ⟨_, rfl⟩
  rw [← hA] at Y
  have hvm : s'.vm = s.vm := by rw [hA]; rfl
  have hhp : s'.heap = H := by rw [hA]; exact hT
  have hW0 : s.WarmedH s'.vm := by rw [hvm]; exact State.WarmedH.refl s
  have hat' : ∀ w ∈ vx_atS own ic cls names, w.before args s' = true := fun w hw => vx_ot_at hW0 hvm.symm (hgood w (List.mem_cons_of_mem _ (List.mem_cons_of_mem _ hw))) (hat w hw)
  have hk' : (Cond.classLink own ik cls).before args s' = true := vx_ot_at hW0 hvm.symm (hgood _ List.mem_cons_self) hk
  have hini' : (Cond.initialized cls).before args s' = true := vx_ot_at hW0 hvm.symm (hgood _ (List.mem_cons_of_mem _ List.mem_cons_self)) hini
  have hU' : vx_Zq Bundle.tN "UNASSIGNED_STACK" Bundle.steD A s' s'.heap := by rw [hhp]; exact vx_Zq.moved hW0.alike (hU.kept hS.2.1)
  have hN' : vx_Zq Bundle.tN "SUPPRESSED_SENTINEL" Bundle.listD A s' s'.heap := by rw [hhp]; exact vx_Zq.moved hW0.alike (hN.kept hS.2.1)
  have h : ∀ w ∈ Bundle.ownAtoms own ic cls names, w.before args s' = true := vx_own hat' (vx_isRefq hU'.1) (vx_isRefq hN'.1) hU'.2.word hN'.2.word
  have hown' : s'.vm.findClass own = some m.cls := by rw [hvm]; exact hown
  have hins : (Cond.instantiable cls 6).before args s' = true := h _ (by simp [Bundle.ownAtoms])
  obtain ⟨vm₁, cX, kX, hfX, hkX, -, -, X₁, st1⟩ := Y.newCold hexec (own := own) (C := cls) (index := ik) (n := 6) hown' hk' hins hini'
    (g := F0 m pc ls rest) rfl (by rw [hb]; exact d0) (Nat.le_refl _) (Nat.le_refl _)
  generalize hT1 : (T.setVm vm₁).pushCell { cls := cX, slots := kX.instanceTypes.map defaultValue, vm := .none } = T1 at X₁ st1
  have hcat : (Value.ref T.heap.size).category = 1 := rfl
  have hcellA : T1.heap[T.heap.size]? = some (freshCell cX kX) := by rw [← hT1]; exact State.heap_pushCell_size _ _
  have d3' : decode c.code (pc + 3) = .ok (.dup, 1) := by rw [hb]; exact d3
  have d4' : decode c.code (pc + 4) = .ok (.ldc_w is, 3) := by rw [hb]; exact d4
  have hstr' : vk_R own is text sa s' := vk_R.warm hW0 hstr
  obtain ⟨U, hsteps, hrun, hend, hW, hsame, ce, hce, hO⟩ := X₁.ctorThrowS hexec htr (own := own) (cls := cls) (names := names) (ic := ic) hown' hcls hnames h (fun x hx => nomatch hx) hfX hkX hcellA (by rw [hhp, hT]; exact Nat.le_refl _) (msg := .ref sa) rfl
    (g := { method := m, pc := pc + 7, locals := ls, stack := .ref sa :: .ref T.heap.size :: .ref T.heap.size :: rest, locked := none }) rfl hsize rfl rfl (rest := rest) rfl
    (by rw [hb]; exact d7) (by rw [hb]; exact d10) hout hRframes (by simp only [List.map_cons, List.sum_cons, hcat]; omega) hlocks
  obtain ⟨f1, f2⟩ := vx_frame hsame
  rw [hhp] at f1 f2
  have hWs : s.WarmedH U.vm := State.WarmedH.trans hW0 hW
  have hcl : s.vm.findClass cls = some ce.cls := by
    have h9 := hO.cls
    rw [hvm] at h9
    exact h9
  have hall : s.sameButNew ({ U with vm := s.vm } : State) locs mc ms := by
    subst hA
    obtain ⟨e1, e2⟩ := hsame
    rw [State.setFrames_setFrames] at e1
    have h2 : (T.setVm s.vm).sameButNew ({ U with vm := s.vm } : State) [] (0 + 1) (0 + 6) := ⟨e1, e2⟩
    have h3 := X.same.trans h2
    rw [List.append_nil] at h3
    exact h3.mono hc hs
  refine ⟨U, ?_, .threw T.heap.size, hrun, hend, Or.inr ⟨T.heap.size, rfl, cls, ce, locs, hx U hWs.alike f1 (fun q hq => f2 q hq (fun z hz => nomatch hz)), hce, hO.vm, hcl, hWs, hall, hf⟩⟩
  refine st1 _ ?_
  show Steps p.tables e below (T1.setTop { method := m, pc := pc + 3, locals := ls, stack := .ref T.heap.size :: rest, locked := none }) _
  jvm_step X₁.here [X₁.here.top, hexec, d3', Value.category]
  exact X₁.ldcStringW hexec (own := own) (text := text) (index := is) (a := sa) hown' hstr'.1 hstr'.2
    (g := { method := m, pc := pc + 4, locals := ls, stack := .ref T.heap.size :: .ref T.heap.size :: rest, locked := none }) rfl d4' _ hsteps
end Ends
section Bodies
variable {l : Launch}
theorem vx_ofW {y : MethodName} {ws ws' : List Cond} {rm : Room} {Pc : Array Value → State → Prop} {Qc : Array Value → State → Outcome → State → Prop} {XC : String → State → State → Prop} {mc ms : Nat} {free : Addr → Prop} {cc : ByteArray} {maxL : Nat} {ret : Option FieldType}
    (hy : plainName y.cls = true) (hw : ws = Cond.code y cc maxL ret :: ws')
    (body : ∀ p e s m args below meth c s₁, BodyLoose p l y (headSpec ws rm) cc maxL ret e s m args below meth c s₁ → c.maxLocals = maxL → (∀ x ∈ c.exceptionTable.toList, False) → Pc args s →
      W p l e (headSpec ws rm).room s m args below meth c s.heap [] 0 0 (vx_MQ below Qc XC args s mc ms free) (entryFrame m args maxL)) : vx_Met l y ws rm Pc Qc XC mc ms free := by
  refine MetFree.of_bodyS (code := cc) (maxLocals := maxL) (ret := ret) hy ?_ ?_
  · intro args s m h hn
    obtain ⟨meth, c, h1, h2, h3, h4, h5, h6, -, -⟩ := Cond.code_spec hn (atoms_spec (ws := ws) h _ (by rw [hw]; exact List.mem_cons_self))
    exact ⟨meth, c, h1, h2, h3, h4, h5, h6⟩
  · intro p e s m args below meth c s₁ B hml hP _
    have hh0 : s₁.heap = s.heap := by rw [B.state]; rfl
    have ht : ∀ x ∈ c.exceptionTable.toList, False := by
      obtain ⟨meth9, c9, h1, h2, -, -, -, -, h7, -⟩ := Cond.code_spec B.named (atoms_spec (ws := ws) B.pre _ (by rw [hw]; exact List.mem_cons_self))
      cases Option.some.inj (h1.symm.trans B.method)
      cases Option.some.inj (h2.symm.trans (Stand.of_body B).code)
      intro x hx
      rw [Array.isEmpty_iff.mp h7] at hx
      cases hx
    obtain ⟨t, a1, o, b1, b2, b3⟩ := body p e s m args below meth c s₁ B hml ht hP s₁ hh0 (Stand.of_body B)
    exact ⟨t, o, a1, b1, b2, b3⟩
/-- the table of a body with handlers -/
theorem vx_table {p : Program} {x y : MethodName} {S : Spec} {cc bytes : ByteArray} {maxL maxL' : Nat} {ret ret' : Option FieldType} {e : Env} {s s₁ : State} {m : MethodId} {args : Array Value} {below : List Frame} {meth : Method} {c : Code} {hh : List (Nat × Nat × Nat × Nat)}
    (B : BodyLoose p l y S cc maxL ret e s m args below meth c s₁) (h : (Cond.codeWith y bytes maxL' ret' hh).before args s = true) : c.exceptionTable.toList = tableOf hh := by
  obtain ⟨m9, meth9, c9, hn9, h1, h2, -, -, h6, -⟩ := Cond.codeWith_spec h
  cases Option.some.inj (hn9.symm.trans B.named)
  cases Option.some.inj (h1.symm.trans B.method)
  cases Option.some.inj (h2.symm.trans (Stand.of_body B).code)
  rw [← h6, table_eq]
end Bodies
end VXA
/-! ===== END ===== -/
/-! ===== BEGIN a static call of a method with an exception table ===== -/
section VXS
variable {p : Program} {l : Launch} {e : Env} {R : Room} {s : State} {m : MethodId} {args : Array Value} {below : List Frame} {meth : Method} {c : Code} {T : State} {H : Heap} {locs : List Loc} {cells slots : Nat}
abbrev vx_CSW (R : Room) (s : State) (args : Array Value) (own : String) (index : Nat) (y : MethodName) (bytes : ByteArray) (maxL : Nat) (ret : Option FieldType) (hh : List (Nat × Nat × Nat × Nat)) (ws : List Cond) (rm : Room) (mc ms n : Nat) : Prop :=
  (rm.cells = mc ∧ rm.slots = ms ∧ rm.frames + 1 ≤ R.frames ∧ 8 + (maxL + 11) + rm.locals ≤ R.locals ∧ (∀ w ∈ ws, ∀ (a' : Array Value) (U : State), s.WarmedH U.vm → w.before a' U = true) ∧ Cond.codeWith y bytes maxL ret hh ∈ ws) ∧
  (Cond.codeWith y bytes maxL ret hh).before args s = true ∧ (Cond.initialized y.cls).before args s = true ∧ (y.cls ≠ "java/lang/invoke/MethodHandle" ∧ y.cls ≠ "java/lang/invoke/VarHandle") ∧
  (∀ sig, parseMethodDescriptor y.desc = some sig → n = sig.parameters.length) ∧ (Cond.methodLink own index y).before args s = true ∧ (Cond.static y).before args s = true
theorem vx_cwSW {own : String} {index maxL mc ms : Nat} {y : MethodName} {bytes : ByteArray} {ret : Option FieldType} {hh : List (Nat × Nat × Nat × Nat)} {Ts ws ws' : List Cond} {rm : Room} (n : Nat) (ht : ∀ w ∈ Ts, w.before args s = true) (hT : GoodIn Ts (va_wsS own index y ws)) (hw : ws = Cond.codeWith y bytes maxL ret hh :: ws') (hrc : rm.cells = mc) (hrs : rm.slots = ms)
    (hd : y.cls ≠ "java/lang/invoke/MethodHandle" ∧ y.cls ≠ "java/lang/invoke/VarHandle" ∧ (parseMethodDescriptor y.desc).map (fun d => d.parameters.length) = some n) (hR : rm.frames + 1 ≤ R.frames ∧ 8 + (maxL + 11) + rm.locals ≤ R.locals) :
    vx_CSW R s args own index y bytes maxL ret hh ws rm mc ms n := by
  have ok : ∀ w ∈ va_wsS own index y ws, w.before args s = true := fun w h => ht w (hT w h).1
  have hG : GoodIn Ts ws := fun w h => hT w (by unfold va_wsS; exact List.mem_append_right _ h)
  have hc : Cond.codeWith y bytes maxL ret hh ∈ ws := by rw [hw]; exact List.mem_cons_self
  refine ⟨⟨hrc, hrs, hR.1, hR.2, pay_in ht hG, hc⟩, ht _ (hG _ hc).1, ok _ (by simp [va_wsS]), ⟨hd.1, hd.2.1⟩, fun sig h => ?_, ok _ (by simp [va_wsS]), ok _ (by simp [va_wsS])⟩
  have h2 := hd.2.2
  rw [h] at h2
  exact (Option.some.inj h2).symm
theorem vx_callSW (X : Stand p l e R s m args below meth c T locs cells slots) (hexec : p.tables.exec = Jvm.exec) {own : String} {index : Nat} {y : MethodName} {bytes : ByteArray} {maxL : Nat} {ret : Option FieldType} {hh : List (Nat × Nat × Nat × Nat)}
    (hown : s.vm.findClass own = some m.cls) (hlink : (Cond.methodLink own index y).before args s = true) (hstat : (Cond.static y).before args s = true) (hinit : (Cond.initialized y.cls).before args s = true)
    (hcode : (Cond.codeWith y bytes maxL ret hh).before args s = true) (hy : y.cls ≠ "java/lang/invoke/MethodHandle" ∧ y.cls ≠ "java/lang/invoke/VarHandle")
    {W9 : Nat} {Pre : Pt → Array Value → Prop} {Post : Pt → Array Value → Option Value → Pt → Prop} (hK : Back l R p e below s args y 3 W9 Pre Post)
    {g : JFrame} (hg : g.method = m) (hsize : g.locals.size = c.maxLocals) {argsL rest : List Value} (hlen : ∀ sig, parseMethodDescriptor y.desc = some sig → argsL.length = sig.parameters.length)
    (hstack : g.stack = argsL.reverse ++ rest) (hW : 2 * g.monitorRoom + (rest.map fun v => v.category).sum ≤ W9) (hdg : decode c.code g.pc = .ok (.invokestatic index, 3))
    (hpre : ∀ vm₁, s.WarmedH vm₁ → Pre ⟨T.setVm vm₁, locs, cells, slots⟩ argsL.toArray) :
    ∃ (v : Option Value) (vm₁ : Vm) (B : Pt), s.WarmedH vm₁ ∧ Stand p l e R s m args below meth c B.U B.locs B.cells B.slots ∧ Post ⟨T.setVm vm₁, locs, cells, slots⟩ argsL.toArray v B ∧
      ∀ target, Steps p.tables e below (B.U.setTop { g with pc := g.pc + 3, stack := v.toList ++ rest }) target → Steps p.tables e below (T.setTop g) target := by
  obtain ⟨mk, methM, cM, hnamed, hmethM, -, -, -, -, -, -, hsigM⟩ := Cond.codeWith_spec hcode
  have hstatic : methM.isStatic = true := Cond.static_spec hnamed hmethM hstat
  obtain ⟨kP, hkP, -⟩ := className_of_methodNamed hnamed
  have hinitP : kP.init = .initialized := Cond.initialized_spec (findClass_of_methodNamed hnamed) hkP hinit
  obtain ⟨vm₁, X₁, hstep₁⟩ := X.invokestatic hexec hown hlink hnamed hmethM hstatic hkP hinitP hy (g := g) hg (argsL := argsL) (rest := rest) (hlen _ hsigM) hstack hdg
  obtain ⟨v, B, X', hpost, hsteps⟩ := hK m meth c ⟨T.setVm vm₁, locs, cells, slots⟩ { g with stack := rest } (.invokestatic index) mk argsL.toArray X₁ hg hsize hdg hW (X₁.named hnamed) (hpre vm₁ X₁.warmed)
  exact ⟨v, vm₁, B, X₁.warmed, X', hpost, fun target h => hstep₁ _ fun acts => by rw [doInvoke_state]; exact hsteps.trans h⟩
theorem vx_runSW {y : MethodName} {bytes cc : ByteArray} {maxL nL mc ms n index : Nat} {ret : Option FieldType} {hh : List (Nat × Nat × Nat × Nat)} {ws : List Cond} {rm : Room} {Pc : Array Value → State → Prop} {Qc : Array Value → State → Outcome → State → Prop} {free : Addr → Prop} {Ts : List Cond} {own : String} {As rest : List Value} {g : JFrame}
    (S : CallFix p m c cc nL s args Ts own) (hM : Met l y ws rm Pc Qc mc ms free) (cw : vx_CSW R s args own index y bytes maxL ret hh ws rm mc ms n) (hp : PreS s H Pc As)
    (hg : g.method = m) (hn : As.length = n) (hsize : g.locals.size = nL) (hstack : g.stack = As.reverse ++ rest) (hW : 2 * g.monitorRoom + (rest.map fun v => v.category).sum ≤ 8) (hdg : decode cc g.pc = .ok (.invokestatic index, 3)) (hf : cells + mc ≤ R.cells ∧ slots + ms ≤ R.slots) :
    va_Run p l e R s m args below meth c H locs cells slots mc ms g rest (Qc As.toArray) (free) := by
  obtain ⟨⟨hrc, hrs, hfr, hlo, hws, hcw⟩, hcode, hini, hy, hlen, hl, hstt⟩ := cw
  have hK : Back l R p e below s args y 3 8 (PreOf R mc ms Pc) (PostOf Qc mc ms free) := va_backW (hh := hh) (bytes := bytes) (maxL := maxL) (ret := ret) hM hp.1 hrc hrs hfr hlo hws hcw (fun a' U hW => word_at hW (Or.inl (by first | rfl | simp [Cond.onTables, Cond.keeps, Cond.steady])) hini)
  obtain ⟨hx, hb, hml, ho, -⟩ := S
  intro T hT X
  obtain ⟨v, vm₁, ⟨U', l2, c2, s2⟩, hW₁, X', ⟨g', mk, t, L, e1, e2, hq, h1, hL, h2, h3⟩, st⟩ := vx_callSW X hx (hh := hh) (bytes := bytes) (maxL := maxL) (ret := ret) ho hl hstt hini hcode hy hK hg (hsize.trans hml.symm) (argsL := As) (rest := rest) (fun sig h => hn.trans (hlen sig h)) hstack hW (by rw [hb]; exact hdg)
    (fun vm₁ hW₁ => ⟨hf.1, hf.2, hp.2 (T.setVm vm₁) hT hW₁⟩)
  dsimp only [Pt.U, Pt.locs, Pt.cells, Pt.slots] at X' e1 e2 h1 h2 h3 st
  subst h1; subst h2; subst h3
  exact ⟨v, (T.setVm vm₁).calling g' mk As.toArray, t, U', L, hT, X', hL, e1, e2, hq, st⟩
/-- not caught here, past rows that name other classes: it goes on to the caller -/
theorem vx_outP {p : Program} {l : Launch} {e : Env} {R : Room} {s : State} {m : MethodId} {args : Array Value} {below : List Frame} {meth : Method} {c : Code} {H : Heap} {locs : List Loc} {cells slots : Nat} {free : Addr → Prop} {ls : Array Slot} {rest : List Value} {Qc : Array Value → State → Outcome → State → Prop} {XC : String → State → State → Prop}
    {pc : Nat} {own E : String} {ce : Cell} {q : Addr} {mc ms : Nat} (hown : s.vm.findClass own = some m.cls) (hlocks : meth.locks = false)
    (hpass : ∀ z ∈ c.exceptionTable.toList, covers z pc = false ∨ (z.catchType ≠ 0 ∧ ∃ nm : String, (Cond.classLink own z.catchType nm).before args s = true ∧ va_Nc E nm s)) (hcell : H[q]? = some ce) (hv : ce.vm = .none) (hcl : s.vm.findClass E = some ce.cls)
    (hx : ∀ t : State, t.heap = H → s.vm.Alike t.vm → XC E s t) (hf : ∀ z ∈ locs, free z.base) (hc : cells ≤ mc) (hs : slots ≤ ms) :
    vx_W p l e R s m args below meth c H locs cells slots (vx_MQ below Qc XC args s mc ms free) (F0 m pc ls rest) q := by
  intro T hT X
  have hpl : e.platform.magicAccessors = ({} : Platform).magicAccessors := by rw [X.admits.platform]
  obtain ⟨vm', hW', X', st⟩ := X.outThrough hlocks q (g := F0 m pc ls rest) rfl rfl rfl (cell := ce) (by rw [hT]; exact hcell) (by rw [hv]; rfl)
    (by obtain ⟨k9, h9, -⟩ := Vm.findClass_spec hcl; exact ⟨k9, h9⟩) (fun z hz => by
      rcases hpass z hz with h | ⟨hz0, nm, hl1, hn1⟩
      · exact Or.inl h
      · obtain ⟨c6, hc6, hcl6⟩ := Cond.classLink_spec hown hl1 e.platform hpl
        obtain ⟨a8, b8, h1, h2, h3⟩ := hn1
        cases Option.some.inj (h1.symm.trans hcl)
        cases Option.some.inj (h2.symm.trans hc6)
        exact Or.inr ⟨hz0, _, hcl6, h3⟩)
  obtain ⟨g₀, hfr⟩ := X'.frames_eq
  have hcell9 : ((T.setVm vm').setFrames (.throwing q :: below)).heap[q]? = some ce := by
    show T.heap[q]? = some ce
    rw [hT]; exact hcell
  have hend : Ended ((T.setVm vm').setFrames (.throwing q :: below)) below (.threw q) := State.frames_setFrames _ (State.cur_lt_of_frames hfr)
  refine ⟨(T.setVm vm').setFrames (.throwing q :: below), ?_, .threw q, X'.here.running, hend, Or.inr ⟨q, rfl, E, ce, locs, hx _ hT (X'.ends _).1.alike, hcell9, hv, hcl, (X'.ends _).1, (X'.ends _).2.mono hc hs, hf⟩⟩
  rw [X.pushThrowing_eq]
  exact st
/-- a thing of a world lies in the heap -/
theorem vx_lt {D : va_G} {cl : List vw_C} {ws : va_W} {H1 : Heap} (h : va_P D cl ws H1) {k : Nat} {q : Nat × va_E} (hk : ws[k]? = some q) : q.1 < H1.size := (h k q hk).lt
end VXS
/-! ===== END ===== -/
/-! ===== BEGIN methods with a table of their own: called by a name, returning or throwing ===== -/
section VXH
/-! vx_backW, vx_callVX, vx_callSX, vx_callVW, vx_runVW, vx_runVX, vx_runSX, vx_ofWH follow the same proofs as their sisters above (Free/Laws.lean, Shelf42/LK1.lean); vx_outP calls Shelf42/NT130.lean (outThrough). -/
section
variable {l : Launch} {R : Room} {p : Program} {e : Env} {below : List Frame} {s : State} {sargs : Array Value} {y : MethodName} {len W9 : Nat}
theorem vx_backW {ws : List Cond} {rm : Room} {Pc : Array Value → State → Prop} {Qc : Array Value → State → Outcome → State → Prop} {XC : String → State → State → Prop} {mc ms : Nat} {free : Addr → Prop} {bytes : ByteArray} {maxL : Nat} {ret : Option FieldType} {hh : List (Nat × Nat × Nat × Nat)}
    (hM : vx_Met l y ws rm Pc Qc XC mc ms free) (hblind : FrameBlind Pc) (hrc : rm.cells = mc) (hrs : rm.slots = ms)
    (hframes : rm.frames + 1 ≤ R.frames) (hlocals : W9 + (maxL + 11) + rm.locals ≤ R.locals)
    (hws : ∀ w ∈ ws, ∀ a' U, s.WarmedH U.vm → w.before a' U = true) (hcode : Cond.codeWith y bytes maxL ret hh ∈ ws) (hinit : ∀ a' U, s.WarmedH U.vm → (Cond.initialized y.cls).before a' U = true) :
    vx_Back l R p e below s sargs y len W9 (PreOf R mc ms Pc) (PostOf Qc mc ms free) (vx_Post XC mc ms free) := by
  intro m meth c A g ig mk a X hg hsize hdg hW hn hp
  have h1 : (headSpec ws rm).pre.before a A.U = true := atoms_intro fun w hw => hws w hw _ _ X.warmed
  have h2 : (Cond.codeWith y bytes maxL ret hh).before a A.U = true := hws _ hcode _ _ X.warmed
  have h3 : (Cond.initialized y.cls).before a A.U = true := hinit _ _ X.warmed
  have h4 : A.cells + (headSpec ws rm).room.cells ≤ R.cells := by rw [show (headSpec ws rm).room.cells = mc from hrc]; exact hp.1
  have h5 : A.slots + (headSpec ws rm).room.slots ≤ R.slots := by rw [show (headSpec ws rm).room.slots = ms from hrs]; exact hp.2.1
  have hPc : Pc a (A.U.calling g mk a) := hblind _ _ _ _ hp.2.2
  obtain ⟨U, Ls, c0, s0⟩ := A
  dsimp only [Pt.U, Pt.locs, Pt.cells, Pt.slots] at h1 h2 h3 h4 h5 X hn hPc ⊢
  obtain ⟨m9, methY, cY, hn9, hmY, hcY, -, hlY, -⟩ := Cond.codeWith_spec h2
  cases Option.some.inj (hn9.symm.trans hn)
  obtain ⟨kY, hkY, -⟩ := className_of_methodNamed hn
  have hinitY : kY.init = .initialized := Cond.initialized_spec (findClass_of_methodNamed hn) hkY h3
  have h : At U g.method c below := by rw [hg]; exact X.here
  have hlocals9 : W9 + (maxL + 11) + (headSpec ws rm).room.locals ≤ R.locals := hlocals
  have happ : (headSpec ws rm).appliesLoose y e.platform (U.calling g mk a) = true :=
    Spec.appliesLoose_calling (g := g) h hdg hn hkY hinitY
      (X.room_calling (g := g) (R' := (headSpec ws rm).room) hsize hmY hcY hframes (by rw [hlY]; omega) h4 h5) h1
  obtain ⟨mid, hmid⟩ := h.above
  have hfr : (U.setTop g).frames = (.java g :: mid) ++ below := by rw [State.frames_setTop' g h.top, hmid]; rfl
  obtain ⟨o, s₂, hsteps, -, hend, hq⟩ := Steps.callFree hM p X.admits X.cas X.clock (acts := []) hfr happ hPc trivial
  have hq' : vx_Q Qc XC mc ms free a (U.calling g mk a) o s₂ := hq
  rw [State.frames_setTop' g h.top] at hend
  obtain ⟨g₀, hg0⟩ := Option.isSome_iff_exists.mp h.top
  obtain ⟨r, hr⟩ := State.topJava?_eq_some.mp hg0
  have hr' : (({ U with heap := s₂.heap, slotsUsed := s₂.slotsUsed } : State).setVm s₂.vm).frames = .java g₀ :: r := hr
  rcases hq' with ⟨hqc, L, hfe, hL⟩ | ⟨q, rfl, E, ce, L, hx, hce, hcv, hcl, hW₂, hsm, hL⟩
  · obtain ⟨⟨v, rfl⟩, hW₂, e2, q2, q3, q4, q5, q6⟩ := id hfe
    have e3 : s₂ = ({ (U.calling g mk a).setFrames s₂.frames with heap := s₂.heap, slotsUsed := s₂.slotsUsed } : State).setVm s₂.vm := by
      have : s₂ = ({ s₂ with vm := (U.calling g mk a).vm } : State).setVm s₂.vm := rfl
      rw [e2] at this
      exact this
    obtain ⟨c₂, i₂, len₂, hc₂, hd₂, hf₂⟩ := hend
    have hW' : U.WarmedH s₂.vm := hW₂
    have hcc : c₂ = c := by
      have h1 : s₂.code? g.method = U.code? g.method := by
        rw [State.code?_eq, State.code?_eq, hW'.alike.method?]
      exact Option.some.inj (hc₂.symm.trans (h1.trans h.code))
    subst hcc
    have hlen : len₂ = len := by rw [hdg] at hd₂; cases hd₂; rfl
    subst hlen
    have hs₂ : s₂ = (({ U with heap := s₂.heap, slotsUsed := s₂.slotsUsed } : State).setVm s₂.vm).setTop { g with pc := g.pc + len₂, stack := v.toList ++ g.stack } := by
      refine e3.trans ?_
      rw [hf₂, State.calling_eq h.top, State.setFrames_setFrames, State.setTop_of_frames _ hr', hr]
      rfl
    have hsame : U.sameButNew ({ U with heap := s₂.heap, slotsUsed := s₂.slotsUsed } : State) L mc ms := by
      refine ⟨?_, q2, q3, q4, q5, q6⟩
      obtain ⟨t, ht, -⟩ := State.frames_cons hr
      show ({ U with heap := s₂.heap, slotsUsed := s₂.slotsUsed } : State) = { U.setFrames U.frames with heap := s₂.heap, slotsUsed := s₂.slotsUsed }
      rw [State.setFrames_self ht]
    subst hg
    refine Or.inl ⟨v, ⟨(({ U with heap := s₂.heap, slotsUsed := s₂.slotsUsed } : State).setVm s₂.vm), Ls ++ L, c0 + mc, s0 + ms⟩,
      ⟨X.admits, X.cas, X.clock, X.frames, X.room, X.hears, X.method, X.code, (X.here.setHeapUsed s₂.heap s₂.slotsUsed).setVm hW'.alike, X.tail, State.WarmedH.trans X.warmed hW', X.limits, X.bytes, X.same.trans (hsame.setVm s.vm)⟩,
      ⟨g, mk, s₂, L, rfl, rfl, hqc, rfl, hL, rfl, rfl⟩, ?_⟩
    show Steps p.tables e below _ ((({ U with heap := s₂.heap, slotsUsed := s₂.slotsUsed } : State).setVm s₂.vm).setTop { g with pc := g.pc + len₂, stack := v.toList ++ g.stack })
    rw [← hs₂]
    exact hsteps
  · obtain ⟨e2, q2, q3, q4, q5, q6⟩ := id hsm
    have e3 : s₂ = ({ (U.calling g mk a).setFrames s₂.frames with heap := s₂.heap, slotsUsed := s₂.slotsUsed } : State).setVm s₂.vm := by
      have : s₂ = ({ s₂ with vm := (U.calling g mk a).vm } : State).setVm s₂.vm := rfl
      rw [e2] at this
      exact this
    have hf₂ : s₂.frames = .throwing q :: .java g :: U.frames.tail := hend
    have hW' : U.WarmedH s₂.vm := hW₂
    have hs₂ : s₂ = ((({ U with heap := s₂.heap, slotsUsed := s₂.slotsUsed } : State).setVm s₂.vm).setTop g).pushFrame (.throwing q) := by
      refine e3.trans ?_
      rw [hf₂, State.calling_eq h.top, State.setFrames_setFrames, State.pushFrame, State.frames_setTop _ hr', State.setTop_of_frames _ hr', State.setFrames_setFrames, hr]
      rfl
    have hsame : U.sameButNew ({ U with heap := s₂.heap, slotsUsed := s₂.slotsUsed } : State) L mc ms := by
      refine ⟨?_, q2, q3, q4, q5, q6⟩
      obtain ⟨t, ht, -⟩ := State.frames_cons hr
      show ({ U with heap := s₂.heap, slotsUsed := s₂.slotsUsed } : State) = { U.setFrames U.frames with heap := s₂.heap, slotsUsed := s₂.slotsUsed }
      rw [State.setFrames_self ht]
    subst hg
    refine Or.inr ⟨q, ⟨(({ U with heap := s₂.heap, slotsUsed := s₂.slotsUsed } : State).setVm s₂.vm), Ls ++ L, c0 + mc, s0 + ms⟩,
      ⟨X.admits, X.cas, X.clock, X.frames, X.room, X.hears, X.method, X.code, (X.here.setHeapUsed s₂.heap s₂.slotsUsed).setVm hW'.alike, X.tail, State.WarmedH.trans X.warmed hW', X.limits, X.bytes, X.same.trans (hsame.setVm s.vm)⟩,
      ⟨g, mk, s₂, L, E, ce, rfl, rfl, hx, hce, hcv, hcl, rfl, hL, rfl, rfl⟩, ?_⟩
    show Steps p.tables e below _ (((({ U with heap := s₂.heap, slotsUsed := s₂.slotsUsed } : State).setVm s₂.vm).setTop g).pushFrame (.throwing q))
    rw [← hs₂]
    exact hsteps
end
variable {p : Program} {l : Launch} {e : Env} {R : Room} {s : State} {m : MethodId} {args : Array Value} {below : List Frame} {meth : Method} {c : Code} {T : State} {H : Heap} {locs : List Loc} {cells slots : Nat}
theorem vx_callVX (X : Stand p l e R s m args below meth c T locs cells slots) (hexec : p.tables.exec = Jvm.exec) {own C : String} {index : Nat} {y : MethodName} {bytes : ByteArray} {maxL : Nat} {ret : Option FieldType} {hh : List (Nat × Nat × Nat × Nat)}
    (hown : s.vm.findClass own = some m.cls) (hlink : (Cond.methodLink own index y).before args s = true) (hinst : (Cond.instanceMethod y).before args s = true) (hsel : (Cond.selects C y y).before args s = true)
    (hcode : (Cond.codeWith y bytes maxL ret hh).before args s = true) (hy : y.cls ≠ "java/lang/invoke/MethodHandle" ∧ y.cls ≠ "java/lang/invoke/VarHandle")
    {W9 : Nat} {Pre : Pt → Array Value → Prop} {Post : Pt → Array Value → Option Value → Pt → Prop} {PostX : Pt → Array Value → Addr → Pt → Prop} (hK : vx_Back l R p e below s args y 3 W9 Pre Post PostX)
    {b : Addr} {cellB : Cell} (hcell : T.heap[b]? = some cellB) (hobj : cellB.vm.isStatics = false) (hcls : s.vm.findClass C = some cellB.cls)
    {g : JFrame} (hg : g.method = m) (hsize : g.locals.size = c.maxLocals) {argsL rest : List Value} (hlen : ∀ sig, parseMethodDescriptor y.desc = some sig → argsL.length = sig.parameters.length)
    (hstack : g.stack = argsL.reverse ++ .ref b :: rest) (hW : 2 * g.monitorRoom + (rest.map fun v => v.category).sum ≤ W9) (hdg : decode c.code g.pc = .ok (.invokevirtual index, 3))
    (hpre : ∀ vm₁, s.WarmedH vm₁ → Pre ⟨T.setVm vm₁, locs, cells, slots⟩ (Value.ref b :: argsL).toArray) :
    (∃ (v : Option Value) (vm₁ : Vm) (B : Pt), s.WarmedH vm₁ ∧ Stand p l e R s m args below meth c B.U B.locs B.cells B.slots ∧ Post ⟨T.setVm vm₁, locs, cells, slots⟩ (Value.ref b :: argsL).toArray v B ∧
      ∀ target, Steps p.tables e below (B.U.setTop { g with pc := g.pc + 3, stack := v.toList ++ rest }) target → Steps p.tables e below (T.setTop g) target) ∨
    (∃ (q : Addr) (vm₁ : Vm) (B : Pt), s.WarmedH vm₁ ∧ Stand p l e R s m args below meth c B.U B.locs B.cells B.slots ∧ PostX ⟨T.setVm vm₁, locs, cells, slots⟩ (Value.ref b :: argsL).toArray q B ∧
      Steps p.tables e below (T.setTop g) ((B.U.setTop { g with stack := rest }).pushFrame (.throwing q))) := by
  obtain ⟨mk, methM, hnamed, hmethM, hstM, habM⟩ := Cond.instanceMethod_spec hinst
  obtain ⟨m8, methM', cM, hn8, hmethM', -, -, -, -, -, -, hsigM⟩ := Cond.codeWith_spec hcode
  cases Option.some.inj (hn8.symm.trans hnamed)
  cases hmethM.symm.trans hmethM'
  obtain ⟨c2, r2, m2, q1, q2, q3, q4, kP, hkP, hkPi⟩ := Cond.selects_spec hsel
  cases hcls.symm.trans q1
  cases (State.methodFound?_of_named hnamed hy).symm.trans q2
  cases hnamed.symm.trans q3
  have hselP : selectMethod e.platform s.vm cellB.cls mk = .method mk := by rw [Launch.admits_selectMethod X.admits]; exact q4
  obtain ⟨vm₁, X₁, hstep₁⟩ := X.invokevirtual hexec hown hlink hnamed hmethM hstM hkP hkPi hy (a := b) (cell := cellB) hcell
    (fun z h => by rw [h] at hobj; cases hobj) hselP hmethM habM hkP hkPi (g := g) hg (argsL := argsL) (rest := rest) (hlen _ hsigM) hstack hdg
  rcases hK m meth c ⟨T.setVm vm₁, locs, cells, slots⟩ { g with stack := rest } (.invokevirtual index) mk (Value.ref b :: argsL).toArray X₁ hg hsize hdg hW (X₁.named hnamed) (hpre vm₁ X₁.warmed) with ⟨v, B, X', hpost, hsteps⟩ | ⟨q, B, X', hpost, hsteps⟩
  · exact Or.inl ⟨v, vm₁, B, X₁.warmed, X', hpost, fun target h => hstep₁ _ fun acts => by rw [doInvoke_state]; exact hsteps.trans h⟩
  · exact Or.inr ⟨q, vm₁, B, X₁.warmed, X', hpost, hstep₁ _ fun acts => by rw [doInvoke_state]; exact hsteps⟩
theorem vx_callSX (X : Stand p l e R s m args below meth c T locs cells slots) (hexec : p.tables.exec = Jvm.exec) {own : String} {index : Nat} {y : MethodName} {bytes : ByteArray} {maxL : Nat} {ret : Option FieldType} {hh : List (Nat × Nat × Nat × Nat)}
    (hown : s.vm.findClass own = some m.cls) (hlink : (Cond.methodLink own index y).before args s = true) (hstat : (Cond.static y).before args s = true) (hinit : (Cond.initialized y.cls).before args s = true)
    (hcode : (Cond.codeWith y bytes maxL ret hh).before args s = true) (hy : y.cls ≠ "java/lang/invoke/MethodHandle" ∧ y.cls ≠ "java/lang/invoke/VarHandle")
    {W9 : Nat} {Pre : Pt → Array Value → Prop} {Post : Pt → Array Value → Option Value → Pt → Prop} {PostX : Pt → Array Value → Addr → Pt → Prop} (hK : vx_Back l R p e below s args y 3 W9 Pre Post PostX)
    {g : JFrame} (hg : g.method = m) (hsize : g.locals.size = c.maxLocals) {argsL rest : List Value} (hlen : ∀ sig, parseMethodDescriptor y.desc = some sig → argsL.length = sig.parameters.length)
    (hstack : g.stack = argsL.reverse ++ rest) (hW : 2 * g.monitorRoom + (rest.map fun v => v.category).sum ≤ W9) (hdg : decode c.code g.pc = .ok (.invokestatic index, 3))
    (hpre : ∀ vm₁, s.WarmedH vm₁ → Pre ⟨T.setVm vm₁, locs, cells, slots⟩ argsL.toArray) :
    (∃ (v : Option Value) (vm₁ : Vm) (B : Pt), s.WarmedH vm₁ ∧ Stand p l e R s m args below meth c B.U B.locs B.cells B.slots ∧ Post ⟨T.setVm vm₁, locs, cells, slots⟩ argsL.toArray v B ∧
      ∀ target, Steps p.tables e below (B.U.setTop { g with pc := g.pc + 3, stack := v.toList ++ rest }) target → Steps p.tables e below (T.setTop g) target) ∨
    (∃ (q : Addr) (vm₁ : Vm) (B : Pt), s.WarmedH vm₁ ∧ Stand p l e R s m args below meth c B.U B.locs B.cells B.slots ∧ PostX ⟨T.setVm vm₁, locs, cells, slots⟩ argsL.toArray q B ∧
      Steps p.tables e below (T.setTop g) ((B.U.setTop { g with stack := rest }).pushFrame (.throwing q))) := by
  obtain ⟨mk, methM, cM, hnamed, hmethM, -, -, -, -, -, -, hsigM⟩ := Cond.codeWith_spec hcode
  have hstatic : methM.isStatic = true := Cond.static_spec hnamed hmethM hstat
  obtain ⟨kP, hkP, -⟩ := className_of_methodNamed hnamed
  have hinitP : kP.init = .initialized := Cond.initialized_spec (findClass_of_methodNamed hnamed) hkP hinit
  obtain ⟨vm₁, X₁, hstep₁⟩ := X.invokestatic hexec hown hlink hnamed hmethM hstatic hkP hinitP hy (g := g) hg (argsL := argsL) (rest := rest) (hlen _ hsigM) hstack hdg
  rcases hK m meth c ⟨T.setVm vm₁, locs, cells, slots⟩ { g with stack := rest } (.invokestatic index) mk argsL.toArray X₁ hg hsize hdg hW (X₁.named hnamed) (hpre vm₁ X₁.warmed) with ⟨v, B, X', hpost, hsteps⟩ | ⟨q, B, X', hpost, hsteps⟩
  · exact Or.inl ⟨v, vm₁, B, X₁.warmed, X', hpost, fun target h => hstep₁ _ fun acts => by rw [doInvoke_state]; exact hsteps.trans h⟩
  · exact Or.inr ⟨q, vm₁, B, X₁.warmed, X', hpost, hstep₁ _ fun acts => by rw [doInvoke_state]; exact hsteps⟩
theorem vx_callVW (X : Stand p l e R s m args below meth c T locs cells slots) (hexec : p.tables.exec = Jvm.exec) {own C : String} {index : Nat} {y : MethodName} {bytes : ByteArray} {maxL : Nat} {ret : Option FieldType} {hh : List (Nat × Nat × Nat × Nat)}
    (hown : s.vm.findClass own = some m.cls) (hlink : (Cond.methodLink own index y).before args s = true) (hinst : (Cond.instanceMethod y).before args s = true) (hsel : (Cond.selects C y y).before args s = true)
    (hcode : (Cond.codeWith y bytes maxL ret hh).before args s = true) (hy : y.cls ≠ "java/lang/invoke/MethodHandle" ∧ y.cls ≠ "java/lang/invoke/VarHandle")
    {W9 : Nat} {Pre : Pt → Array Value → Prop} {Post : Pt → Array Value → Option Value → Pt → Prop} (hK : Back l R p e below s args y 3 W9 Pre Post)
    {b : Addr} {cellB : Cell} (hcell : T.heap[b]? = some cellB) (hobj : cellB.vm.isStatics = false) (hcls : s.vm.findClass C = some cellB.cls)
    {g : JFrame} (hg : g.method = m) (hsize : g.locals.size = c.maxLocals) {argsL rest : List Value} (hlen : ∀ sig, parseMethodDescriptor y.desc = some sig → argsL.length = sig.parameters.length)
    (hstack : g.stack = argsL.reverse ++ .ref b :: rest) (hW : 2 * g.monitorRoom + (rest.map fun v => v.category).sum ≤ W9) (hdg : decode c.code g.pc = .ok (.invokevirtual index, 3))
    (hpre : ∀ vm₁, s.WarmedH vm₁ → Pre ⟨T.setVm vm₁, locs, cells, slots⟩ (Value.ref b :: argsL).toArray) :
    ∃ (v : Option Value) (vm₁ : Vm) (B : Pt), s.WarmedH vm₁ ∧ Stand p l e R s m args below meth c B.U B.locs B.cells B.slots ∧ Post ⟨T.setVm vm₁, locs, cells, slots⟩ (Value.ref b :: argsL).toArray v B ∧
      ∀ target, Steps p.tables e below (B.U.setTop { g with pc := g.pc + 3, stack := v.toList ++ rest }) target → Steps p.tables e below (T.setTop g) target := by
  obtain ⟨mk, methM, hnamed, hmethM, hstM, habM⟩ := Cond.instanceMethod_spec hinst
  obtain ⟨m8, methM', cM, hn8, hmethM', -, -, -, -, -, -, hsigM⟩ := Cond.codeWith_spec hcode
  cases Option.some.inj (hn8.symm.trans hnamed)
  cases hmethM.symm.trans hmethM'
  obtain ⟨c2, r2, m2, q1, q2, q3, q4, kP, hkP, hkPi⟩ := Cond.selects_spec hsel
  cases hcls.symm.trans q1
  cases (State.methodFound?_of_named hnamed hy).symm.trans q2
  cases hnamed.symm.trans q3
  have hselP : selectMethod e.platform s.vm cellB.cls mk = .method mk := by rw [Launch.admits_selectMethod X.admits]; exact q4
  obtain ⟨vm₁, X₁, hstep₁⟩ := X.invokevirtual hexec hown hlink hnamed hmethM hstM hkP hkPi hy (a := b) (cell := cellB) hcell
    (fun z h => by rw [h] at hobj; cases hobj) hselP hmethM habM hkP hkPi (g := g) hg (argsL := argsL) (rest := rest) (hlen _ hsigM) hstack hdg
  obtain ⟨v, B, X', hpost, hsteps⟩ := hK m meth c ⟨T.setVm vm₁, locs, cells, slots⟩ { g with stack := rest } (.invokevirtual index) mk (Value.ref b :: argsL).toArray X₁ hg hsize hdg hW (X₁.named hnamed) (hpre vm₁ X₁.warmed)
  exact ⟨v, vm₁, B, X₁.warmed, X', hpost, fun target h => hstep₁ _ fun acts => by rw [doInvoke_state]; exact hsteps.trans h⟩
abbrev vx_CVW (R : Room) (s : State) (args : Array Value) (own C : String) (index : Nat) (y : MethodName) (bytes : ByteArray) (maxL : Nat) (ret : Option FieldType) (hh : List (Nat × Nat × Nat × Nat)) (ws : List Cond) (rm : Room) (mc ms n : Nat) : Prop :=
  (rm.cells = mc ∧ rm.slots = ms ∧ rm.frames + 1 ≤ R.frames ∧ 8 + (maxL + 11) + rm.locals ≤ R.locals ∧ (∀ w ∈ ws, ∀ (a' : Array Value) (U : State), s.WarmedH U.vm → w.before a' U = true) ∧ Cond.codeWith y bytes maxL ret hh ∈ ws) ∧
  (Cond.codeWith y bytes maxL ret hh).before args s = true ∧ (Cond.initialized y.cls).before args s = true ∧ (y.cls ≠ "java/lang/invoke/MethodHandle" ∧ y.cls ≠ "java/lang/invoke/VarHandle") ∧
  (∀ sig, parseMethodDescriptor y.desc = some sig → n = sig.parameters.length) ∧ (Cond.methodLink own index y).before args s = true ∧ (Cond.instanceMethod y).before args s = true ∧ (Cond.selects C y y).before args s = true
theorem vx_cwVW {own C : String} {index maxL mc ms : Nat} {y : MethodName} {bytes : ByteArray} {ret : Option FieldType} {hh : List (Nat × Nat × Nat × Nat)} {Ts ws ws' : List Cond} {rm : Room} (n : Nat) (ht : ∀ w ∈ Ts, w.before args s = true) (hT : GoodIn Ts (wsV own index C y ws)) (hw : ws = Cond.codeWith y bytes maxL ret hh :: ws') (hrc : rm.cells = mc) (hrs : rm.slots = ms)
    (hd : y.cls = C ∧ y.cls ≠ "java/lang/invoke/MethodHandle" ∧ y.cls ≠ "java/lang/invoke/VarHandle" ∧ (parseMethodDescriptor y.desc).map (fun d => d.parameters.length) = some n) (hR : rm.frames + 1 ≤ R.frames ∧ 8 + (maxL + 11) + rm.locals ≤ R.locals) :
    vx_CVW R s args own C index y bytes maxL ret hh ws rm mc ms n := by
  obtain ⟨hC, hd⟩ := hd
  subst hC
  have ok : ∀ w ∈ wsV own index y.cls y ws, w.before args s = true := fun w h => ht w (hT w h).1
  have hG : GoodIn Ts ws := fun w h => hT w (by unfold wsV; exact List.mem_append_right _ h)
  have hc : Cond.codeWith y bytes maxL ret hh ∈ ws := by rw [hw]; exact List.mem_cons_self
  refine ⟨⟨hrc, hrs, hR.1, hR.2, pay_in ht hG, hc⟩, ht _ (hG _ hc).1, ok _ (by simp [wsV]), ⟨hd.1, hd.2.1⟩, fun sig h => ?_, ok _ (by simp [wsV]), ok _ (by simp [wsV]), ok _ (by simp [wsV])⟩
  have h2 := hd.2.2
  rw [h] at h2
  exact (Option.some.inj h2).symm
theorem vx_runVW {y : MethodName} {bytes cc : ByteArray} {maxL nL mc ms n index : Nat} {ret : Option FieldType} {hh : List (Nat × Nat × Nat × Nat)} {ws : List Cond} {rm : Room} {Pc : Array Value → State → Prop} {Qc : Array Value → State → Outcome → State → Prop} {free : Addr → Prop} {Ts : List Cond} {own C : String} {b : Addr} {As rest : List Value} {g : JFrame}
    (S : CallFix p m c cc nL s args Ts own) (hM : Met l y ws rm Pc Qc mc ms free) (cw : vx_CVW R s args own C index y bytes maxL ret hh ws rm mc ms n) (hp : PreV s H C b Pc As)
    (hg : g.method = m) (hn : As.length = n) (hsize : g.locals.size = nL) (hstack : g.stack = As.reverse ++ .ref b :: rest) (hW : 2 * g.monitorRoom + (rest.map fun v => v.category).sum ≤ 8) (hdg : decode cc g.pc = .ok (.invokevirtual index, 3)) (hf : cells + mc ≤ R.cells ∧ slots + ms ≤ R.slots) :
    va_Run p l e R s m args below meth c H locs cells slots mc ms g rest (Qc (Value.ref b :: As).toArray) free := by
  obtain ⟨⟨hrc, hrs, hfr, hlo, hws, hcw⟩, hcode, hini, hy, hlen, hl, hin, hse⟩ := cw
  have hK : Back l R p e below s args y 3 8 (PreOf R mc ms Pc) (PostOf Qc mc ms free) := va_backW (hh := hh) (bytes := bytes) (maxL := maxL) (ret := ret) hM hp.1 hrc hrs hfr hlo hws hcw (fun a' U hW => word_at hW (Or.inl (by first | rfl | simp [Cond.onTables, Cond.keeps, Cond.steady])) hini)
  obtain ⟨hx, hb, hml, ho, -⟩ := S
  obtain ⟨-, ⟨cellB, hcB, hoB, hclB⟩, hPc⟩ := hp
  intro T hT X
  obtain ⟨v, vm₁, ⟨U', l2, c2, s2⟩, hW₁, X', ⟨g', mk, t, L, e1, e2, hq, h1, hL, h2, h3⟩, st⟩ := vx_callVW X hx (C := C) (hh := hh) (bytes := bytes) (maxL := maxL) (ret := ret) ho hl hin hse hcode hy hK (by rw [hT]; exact hcB) hoB hclB hg (hsize.trans hml.symm) (argsL := As) (rest := rest) (fun sig h => hn.trans (hlen sig h)) hstack hW (by rw [hb]; exact hdg)
    (fun vm₁ hW₁ => ⟨hf.1, hf.2, hPc (T.setVm vm₁) hT hW₁⟩)
  dsimp only [Pt.U, Pt.locs, Pt.cells, Pt.slots] at X' e1 e2 h1 h2 h3 st
  subst h1; subst h2; subst h3
  exact ⟨v, (T.setVm vm₁).calling g' mk (Value.ref b :: As).toArray, t, U', L, hT, X', hL, e1, e2, hq, st⟩
section
variable {y : MethodName} {bytes cc : ByteArray} {maxL nL mc ms n index : Nat} {ret : Option FieldType} {ws : List Cond} {rm : Room} {Pc : Array Value → State → Prop} {Qc : Array Value → State → Outcome → State → Prop} {XC : String → State → State → Prop} {free : Addr → Prop} {Ts : List Cond} {own C : String} {b : Addr} {As rest : List Value} {g : JFrame}
theorem vx_runVX {hh : List (Nat × Nat × Nat × Nat)} (S : CallFix p m c cc nL s args Ts own) (hM : vx_Met l y ws rm Pc Qc XC mc ms free) (cw : vx_CVW R s args own C index y bytes maxL ret hh ws rm mc ms n) (hp : PreV s H C b Pc As)
    (hg : g.method = m) (hn : As.length = n) (hsize : g.locals.size = nL) (hstack : g.stack = As.reverse ++ .ref b :: rest) (hW : 2 * g.monitorRoom + (rest.map fun v => v.category).sum ≤ 8) (hdg : decode cc g.pc = .ok (.invokevirtual index, 3)) (hf : cells + mc ≤ R.cells ∧ slots + ms ≤ R.slots) :
    vx_Run p l e R s m args below meth c H locs cells slots mc ms g rest (Qc (Value.ref b :: As).toArray) XC free := by
  obtain ⟨⟨hrc, hrs, hfr, hlo, hws, hcw⟩, hcode, hini, hy, hlen, hl, hin, hse⟩ := cw
  have hK : vx_Back l R p e below s args y 3 8 (PreOf R mc ms Pc) (PostOf Qc mc ms free) (vx_Post XC mc ms free) := vx_backW (hh := hh) (bytes := bytes) (maxL := maxL) (ret := ret) hM hp.1 hrc hrs hfr hlo hws hcw (fun a' U hW => word_at hW (Or.inl (by first | rfl | simp [Cond.onTables, Cond.keeps, Cond.steady])) hini)
  obtain ⟨hx, hb, hml, ho, -⟩ := S
  obtain ⟨-, ⟨cellB, hcB, hoB, hclB⟩, hPc⟩ := hp
  intro T hT X
  rcases vx_callVX X hx (C := C) (hh := hh) (bytes := bytes) (maxL := maxL) (ret := ret) ho hl hin hse hcode hy hK (by rw [hT]; exact hcB) hoB hclB hg (hsize.trans hml.symm) (argsL := As) (rest := rest) (fun sig h => hn.trans (hlen sig h)) hstack hW (by rw [hb]; exact hdg)
    (fun vm₁ hW₁ => ⟨hf.1, hf.2, hPc (T.setVm vm₁) hT hW₁⟩) with ⟨v, vm₁, ⟨U', l2, c2, s2⟩, hW₁, X', ⟨g', mk, t, L, e1, e2, hq, h1, hL, h2, h3⟩, st⟩ | ⟨q, vm₁, ⟨U', l2, c2, s2⟩, hW₁, X', ⟨g', mk, t, L, E, ce, e1, e2, hq, hce, hcv, hcl, h1, hL, h2, h3⟩, st⟩
  · dsimp only [Pt.U, Pt.locs, Pt.cells, Pt.slots] at X' e1 e2 h1 h2 h3 st
    subst h1; subst h2; subst h3
    exact Or.inl ⟨v, (T.setVm vm₁).calling g' mk (Value.ref b :: As).toArray, t, U', L, hT, X', hL, e1, e2, hq, st⟩
  · dsimp only [Pt.U, Pt.locs, Pt.cells, Pt.slots] at X' e1 e2 h1 h2 h3 st hcl
    subst h1; subst h2; subst h3
    exact Or.inr ⟨q, (T.setVm vm₁).calling g' mk (Value.ref b :: As).toArray, t, U', L, E, ce, hT, X', hL, e1, e2, hq, hce, hcv, vx_cls hW₁ hcl, st⟩
theorem vx_runSX {hh : List (Nat × Nat × Nat × Nat)} (S : CallFix p m c cc nL s args Ts own) (hM : vx_Met l y ws rm Pc Qc XC mc ms free) (cw : vx_CSW R s args own index y bytes maxL ret hh ws rm mc ms n) (hp : PreS s H Pc As)
    (hg : g.method = m) (hn : As.length = n) (hsize : g.locals.size = nL) (hstack : g.stack = As.reverse ++ rest) (hW : 2 * g.monitorRoom + (rest.map fun v => v.category).sum ≤ 8) (hdg : decode cc g.pc = .ok (.invokestatic index, 3)) (hf : cells + mc ≤ R.cells ∧ slots + ms ≤ R.slots) :
    vx_Run p l e R s m args below meth c H locs cells slots mc ms g rest (Qc As.toArray) XC free := by
  obtain ⟨⟨hrc, hrs, hfr, hlo, hws, hcw⟩, hcode, hini, hy, hlen, hl, hstt⟩ := cw
  have hK : vx_Back l R p e below s args y 3 8 (PreOf R mc ms Pc) (PostOf Qc mc ms free) (vx_Post XC mc ms free) := vx_backW (hh := hh) (bytes := bytes) (maxL := maxL) (ret := ret) hM hp.1 hrc hrs hfr hlo hws hcw (fun a' U hW => word_at hW (Or.inl (by first | rfl | simp [Cond.onTables, Cond.keeps, Cond.steady])) hini)
  obtain ⟨hx, hb, hml, ho, -⟩ := S
  intro T hT X
  rcases vx_callSX X hx (hh := hh) (bytes := bytes) (maxL := maxL) (ret := ret) ho hl hstt hini hcode hy hK hg (hsize.trans hml.symm) (argsL := As) (rest := rest) (fun sig h => hn.trans (hlen sig h)) hstack hW (by rw [hb]; exact hdg)
    (fun vm₁ hW₁ => ⟨hf.1, hf.2, hp.2 (T.setVm vm₁) hT hW₁⟩) with ⟨v, vm₁, ⟨U', l2, c2, s2⟩, hW₁, X', ⟨g', mk, t, L, e1, e2, hq, h1, hL, h2, h3⟩, st⟩ | ⟨q, vm₁, ⟨U', l2, c2, s2⟩, hW₁, X', ⟨g', mk, t, L, E, ce, e1, e2, hq, hce, hcv, hcl, h1, hL, h2, h3⟩, st⟩
  · dsimp only [Pt.U, Pt.locs, Pt.cells, Pt.slots] at X' e1 e2 h1 h2 h3 st
    subst h1; subst h2; subst h3
    exact Or.inl ⟨v, (T.setVm vm₁).calling g' mk As.toArray, t, U', L, hT, X', hL, e1, e2, hq, st⟩
  · dsimp only [Pt.U, Pt.locs, Pt.cells, Pt.slots] at X' e1 e2 h1 h2 h3 st hcl
    subst h1; subst h2; subst h3
    exact Or.inr ⟨q, (T.setVm vm₁).calling g' mk As.toArray, t, U', L, E, ce, hT, X', hL, e1, e2, hq, hce, hcv, vx_cls hW₁ hcl, st⟩
end
end VXH
theorem vx_ofWH {l : Launch} {y : MethodName} {ws ws' : List Cond} {rm : Room} {Pc : Array Value → State → Prop} {Qc : Array Value → State → Outcome → State → Prop} {XC : String → State → State → Prop} {mc ms : Nat} {free : Addr → Prop} {cc : ByteArray} {maxL : Nat} {ret : Option FieldType} {hh : List (Nat × Nat × Nat × Nat)}
    (hy : plainName y.cls = true) (hw : ws = Cond.codeWith y cc maxL ret hh :: ws')
    (body : ∀ p e s m args below meth c s₁, BodyLoose p l y (headSpec ws rm) cc maxL ret e s m args below meth c s₁ → c.maxLocals = maxL → Pc args s →
      W p l e (headSpec ws rm).room s m args below meth c s.heap [] 0 0 (vx_MQ below Qc XC args s mc ms free) (entryFrame m args maxL)) : vx_Met l y ws rm Pc Qc XC mc ms free := by
  refine MetFree.of_bodyS (code := cc) (maxLocals := maxL) (ret := ret) hy ?_ ?_
  · intro args s m h hn
    obtain ⟨m9, meth, c, hn9, h1, h2, h3, h4, -, h5, h6, -⟩ := Cond.codeWith_spec (atoms_spec (ws := ws) h _ (by rw [hw]; exact List.mem_cons_self))
    cases hn.symm.trans hn9
    exact ⟨meth, c, h1, h2, h3, h4, h5, h6⟩
  · intro p e s m args below meth c s₁ B hml hP _
    have hh0 : s₁.heap = s.heap := by rw [B.state]; rfl
    obtain ⟨t, a1, o, b1, b2, b3⟩ := body p e s m args below meth c s₁ B hml hP s₁ hh0 (Stand.of_body B)
    exact ⟨t, o, a1, b1, b2, b3⟩
/-! ===== END ===== -/
end
section
def RX0 : String := "ReceivablesBook$Customer"
def TX0 : u_T := fun k => match k with
  | 0 => ("ReceivablesBook$Customer", "convention", "I", true)
  | 1 => ("ReceivablesBook$Customer", "rule", "I", false)
  | 2 => ("ReceivablesBook$Customer", "rate", "I", false)
  | _ => ("ReceivablesBook$Customer", "pauseEnd", "I", false)
def tyX0 : Nat → FieldType := fun k => match k with
  | 0 => .int
  | 1 => .int
  | 2 => .int
  | _ => .int
abbrev wsX00 : List Cond := u_ws RX0 TX0 4
theorem nmX0 : ∀ a, a < 4 → ∀ b, b < 4 → a ≠ b → (TX0 a).2.1 ≠ (TX0 b).2.1 := by decide +kernel
theorem tyX0_ok : ∀ k, k < 4 → parseFieldDescriptor (TX0 k).2.2.1 = some (tyX0 k) := by decide +kernel
abbrev cX0_init : ByteArray := prog_2_method_1_code
def yX0_init : MethodName := ⟨RX0, "<init>", "(III)V"⟩
abbrev cX0_sumOfOneCent : ByteArray := prog_2_method_2_code
def yX0_sumOfOneCent : MethodName := ⟨RX0, "sumOfOneCent", "()J"⟩
def RX1 : String := "ReceivablesBook$DayCount"
def TX1 : u_T := fun k => match k with
  | _ => ("", "", "", false)
def tyX1 : Nat → FieldType := fun k => match k with
  | _ => .int
abbrev wsX10 : List Cond := u_ws RX1 TX1 0
theorem nmX1 : ∀ a, a < 0 → ∀ b, b < 0 → a ≠ b → (TX1 a).2.1 ≠ (TX1 b).2.1 := by decide +kernel
theorem tyX1_ok : ∀ k, k < 0 → parseFieldDescriptor (TX1 k).2.2.1 = some (tyX1 k) := by decide +kernel
abbrev cX1_daysOfYear : ByteArray := prog_3_method_2_code
def yX1_daysOfYear : MethodName := ⟨RX1, "daysOfYear", "(I)I"⟩
abbrev cX1_daysBetween : ByteArray := prog_3_method_3_code
def yX1_daysBetween : MethodName := ⟨RX1, "daysBetween", "(III)I"⟩
abbrev cX1_thirtyDayNumber : ByteArray := prog_3_method_4_code
def yX1_thirtyDayNumber : MethodName := ⟨RX1, "thirtyDayNumber", "(I)I"⟩
abbrev cX1_monthLength : ByteArray := prog_3_method_5_code
def yX1_monthLength : MethodName := ⟨RX1, "monthLength", "(II)I"⟩
def RX2 : String := "ReceivablesBook$Invoice"
def TX2 : u_T := fun k => match k with
  | 0 => ("ReceivablesBook$Invoice", "owner", "LReceivablesBook$Customer;", true)
  | 1 => ("ReceivablesBook$Invoice", "amount", "I", true)
  | 2 => ("ReceivablesBook$Invoice", "dueDay", "I", true)
  | 3 => ("ReceivablesBook$Invoice", "interest", "Z", true)
  | 4 => ("ReceivablesBook$Invoice", "disputed", "I", false)
  | 5 => ("ReceivablesBook$Invoice", "level", "I", false)
  | 6 => ("ReceivablesBook$Invoice", "paid", "I", false)
  | 7 => ("ReceivablesBook$Invoice", "credited", "I", false)
  | 8 => ("ReceivablesBook$Invoice", "waited", "I", false)
  | _ => ("ReceivablesBook$Invoice", "accruedSum", "J", false)
def tyX2 : Nat → FieldType := fun k => match k with
  | 0 => .object "ReceivablesBook$Customer"
  | 1 => .int
  | 2 => .int
  | 3 => .boolean
  | 4 => .int
  | 5 => .int
  | 6 => .int
  | 7 => .int
  | 8 => .int
  | _ => .long
abbrev wsX20 : List Cond := u_ws RX2 TX2 10
theorem nmX2 : ∀ a, a < 10 → ∀ b, b < 10 → a ≠ b → (TX2 a).2.1 ≠ (TX2 b).2.1 := by decide +kernel
theorem tyX2_ok : ∀ k, k < 10 → parseFieldDescriptor (TX2 k).2.2.1 = some (tyX2 k) := by decide +kernel
abbrev cX2_init : ByteArray := prog_4_method_1_code
def yX2_init : MethodName := ⟨RX2, "<init>", "(LReceivablesBook$Customer;IIZ)V"⟩
abbrev cX2_openAmount : ByteArray := prog_4_method_2_code
def yX2_openAmount : MethodName := ⟨RX2, "openAmount", "()I"⟩
abbrev cX2_clearAmount : ByteArray := prog_4_method_3_code
def yX2_clearAmount : MethodName := ⟨RX2, "clearAmount", "()I"⟩
abbrev cX2_pay : ByteArray := prog_4_method_4_code
def yX2_pay : MethodName := ⟨RX2, "pay", "(I)V"⟩
abbrev cX2_unpay : ByteArray := prog_4_method_5_code
def yX2_unpay : MethodName := ⟨RX2, "unpay", "(I)V"⟩
abbrev cX2_settleWith : ByteArray := prog_4_method_6_code
def yX2_settleWith : MethodName := ⟨RX2, "settleWith", "(I)V"⟩
abbrev cX2_forgetRemindersIfPaid : ByteArray := prog_4_method_7_code
def yX2_forgetRemindersIfPaid : MethodName := ⟨RX2, "forgetRemindersIfPaid", "()V"⟩
abbrev cX2_accrueOn : ByteArray := prog_4_method_8_code
def yX2_accrueOn : MethodName := ⟨RX2, "accrueOn", "(I)V"⟩
abbrev cX2_accruedCents : ByteArray := prog_4_method_9_code
def yX2_accruedCents : MethodName := ⟨RX2, "accruedCents", "()I"⟩
abbrev cX2_dropAccruedCents : ByteArray := prog_4_method_10_code
def yX2_dropAccruedCents : MethodName := ⟨RX2, "dropAccruedCents", "()V"⟩
abbrev cX2_waitOn : ByteArray := prog_4_method_11_code
def yX2_waitOn : MethodName := ⟨RX2, "waitOn", "(I)V"⟩
abbrev cX2_daysToNextLevel : ByteArray := prog_4_method_12_code
def yX2_daysToNextLevel : MethodName := ⟨RX2, "daysToNextLevel", "(I)I"⟩
abbrev cX2_canBeReminded : ByteArray := prog_4_method_13_code
def yX2_canBeReminded : MethodName := ⟨RX2, "canBeReminded", "()Z"⟩
abbrev cX2_waitOfLevel : ByteArray := prog_4_method_14_code
def yX2_waitOfLevel : MethodName := ⟨RX2, "waitOfLevel", "()I"⟩
abbrev cX2_bucketOn : ByteArray := prog_4_method_15_code
def yX2_bucketOn : MethodName := ⟨RX2, "bucketOn", "(I)I"⟩
def RX3 : String := "ReceivablesBook$Ledger"
def TX3 : u_T := fun k => match k with
  | 0 => ("ReceivablesBook$Ledger", "count", "I", false)
  | 1 => ("ReceivablesBook$Ledger", "invoiceNumbers", "[I", false)
  | _ => ("ReceivablesBook$Ledger", "amounts", "[I", false)
def tyX3 : Nat → FieldType := fun k => match k with
  | 0 => .int
  | 1 => .array .int
  | _ => .array .int
abbrev wsX30 : List Cond := u_ws RX3 TX3 3
theorem nmX3 : ∀ a, a < 3 → ∀ b, b < 3 → a ≠ b → (TX3 a).2.1 ≠ (TX3 b).2.1 := by decide +kernel
theorem tyX3_ok : ∀ k, k < 3 → parseFieldDescriptor (TX3 k).2.2.1 = some (tyX3 k) := by decide +kernel
abbrev cX3_init : ByteArray := prog_5_method_1_code
def yX3_init : MethodName := ⟨RX3, "<init>", "()V"⟩
abbrev cX3_write : ByteArray := prog_5_method_2_code
def yX3_write : MethodName := ⟨RX3, "write", "(II)V"⟩
abbrev cX3_doubleRoom : ByteArray := prog_5_method_3_code
def yX3_doubleRoom : MethodName := ⟨RX3, "doubleRoom", "()V"⟩
abbrev cX3_sumOf : ByteArray := prog_5_method_4_code
def yX3_sumOf : MethodName := ⟨RX3, "sumOf", "(I)I"⟩
abbrev cX3_invoiceIn : ByteArray := prog_5_method_5_code
def yX3_invoiceIn : MethodName := ⟨RX3, "invoiceIn", "(I)I"⟩
abbrev cX3_amountIn : ByteArray := prog_5_method_6_code
def yX3_amountIn : MethodName := ⟨RX3, "amountIn", "(I)I"⟩
def RX4 : String := "ReceivablesBook$Payment"
def TX4 : u_T := fun k => match k with
  | 0 => ("ReceivablesBook$Payment", "owner", "LReceivablesBook$Customer;", true)
  | 1 => ("ReceivablesBook$Payment", "reversed", "Z", false)
  | 2 => ("ReceivablesBook$Payment", "amount", "I", true)
  | 3 => ("ReceivablesBook$Payment", "spentByInvoice", "[I", true)
  | _ => ("ReceivablesBook$Payment", "spent", "I", false)
def tyX4 : Nat → FieldType := fun k => match k with
  | 0 => .object "ReceivablesBook$Customer"
  | 1 => .boolean
  | 2 => .int
  | 3 => .array .int
  | _ => .int
abbrev wsX40 : List Cond := u_ws RX4 TX4 5
theorem nmX4 : ∀ a, a < 5 → ∀ b, b < 5 → a ≠ b → (TX4 a).2.1 ≠ (TX4 b).2.1 := by decide +kernel
theorem tyX4_ok : ∀ k, k < 5 → parseFieldDescriptor (TX4 k).2.2.1 = some (tyX4 k) := by decide +kernel
abbrev cX4_init : ByteArray := prog_6_method_1_code
def yX4_init : MethodName := ⟨RX4, "<init>", "(LReceivablesBook$Customer;I)V"⟩
abbrev cX4_unspent : ByteArray := prog_6_method_2_code
def yX4_unspent : MethodName := ⟨RX4, "unspent", "()I"⟩
abbrev cX4_spentOn : ByteArray := prog_6_method_3_code
def yX4_spentOn : MethodName := ⟨RX4, "spentOn", "(I)I"⟩
abbrev cX4_spend : ByteArray := prog_6_method_4_code
def yX4_spend : MethodName := ⟨RX4, "spend", "(II)V"⟩
def RX5 : String := "ReceivablesBook$Shares"
def TX5 : u_T := fun k => match k with
  | 0 => ("ReceivablesBook$Shares", "weights", "[I", true)
  | 1 => ("ReceivablesBook$Shares", "parts", "[I", true)
  | _ => ("ReceivablesBook$Shares", "remainders", "[J", true)
def tyX5 : Nat → FieldType := fun k => match k with
  | 0 => .array .int
  | 1 => .array .int
  | _ => .array .long
abbrev wsX50 : List Cond := u_ws RX5 TX5 3
theorem nmX5 : ∀ a, a < 3 → ∀ b, b < 3 → a ≠ b → (TX5 a).2.1 ≠ (TX5 b).2.1 := by decide +kernel
theorem tyX5_ok : ∀ k, k < 3 → parseFieldDescriptor (TX5 k).2.2.1 = some (tyX5 k) := by decide +kernel
abbrev cX5_init : ByteArray := prog_7_method_1_code
def yX5_init : MethodName := ⟨RX5, "<init>", "()V"⟩
abbrev cX5_reset : ByteArray := prog_7_method_2_code
def yX5_reset : MethodName := ⟨RX5, "reset", "()V"⟩
abbrev cX5_setWeight : ByteArray := prog_7_method_3_code
def yX5_setWeight : MethodName := ⟨RX5, "setWeight", "(II)V"⟩
abbrev cX5_partOf : ByteArray := prog_7_method_4_code
def yX5_partOf : MethodName := ⟨RX5, "partOf", "(I)I"⟩
abbrev cX5_wantsPart : ByteArray := prog_7_method_5_code
def yX5_wantsPart : MethodName := ⟨RX5, "wantsPart", "(I)Z"⟩
abbrev cX5_fill : ByteArray := prog_7_method_6_code
def yX5_fill : MethodName := ⟨RX5, "fill", "(II)I"⟩
abbrev cX5_sumOfWeights : ByteArray := prog_7_method_7_code
def yX5_sumOfWeights : MethodName := ⟨RX5, "sumOfWeights", "()J"⟩
abbrev cX5_splitUpToWeights : ByteArray := prog_7_method_8_code
def yX5_splitUpToWeights : MethodName := ⟨RX5, "splitUpToWeights", "(I)V"⟩
abbrev cX5_splitInProportion : ByteArray := prog_7_method_9_code
def yX5_splitInProportion : MethodName := ⟨RX5, "splitInProportion", "(I)V"⟩
abbrev cX5_giveCentToGreatestRemainder : ByteArray := prog_7_method_10_code
def yX5_giveCentToGreatestRemainder : MethodName := ⟨RX5, "giveCentToGreatestRemainder", "()V"⟩
def RX6 : String := "ReceivablesBook"
def TX6 : u_T := fun k => match k with
  | 0 => ("ReceivablesBook", "customerList", "Ljava/util/ArrayList;", true)
  | 1 => ("ReceivablesBook", "invoiceList", "Ljava/util/ArrayList;", true)
  | 2 => ("ReceivablesBook", "paymentList", "Ljava/util/ArrayList;", true)
  | 3 => ("ReceivablesBook", "ledger", "LReceivablesBook$Ledger;", true)
  | 4 => ("ReceivablesBook", "shares", "LReceivablesBook$Shares;", true)
  | _ => ("ReceivablesBook", "currentDay", "I", false)
def tyX6 : Nat → FieldType := fun k => match k with
  | 0 => .object "java/util/ArrayList"
  | 1 => .object "java/util/ArrayList"
  | 2 => .object "java/util/ArrayList"
  | 3 => .object "ReceivablesBook$Ledger"
  | 4 => .object "ReceivablesBook$Shares"
  | _ => .int
abbrev wsX60 : List Cond := u_ws RX6 TX6 6
theorem nmX6 : ∀ a, a < 6 → ∀ b, b < 6 → a ≠ b → (TX6 a).2.1 ≠ (TX6 b).2.1 := by decide +kernel
theorem tyX6_ok : ∀ k, k < 6 → parseFieldDescriptor (TX6 k).2.2.1 = some (tyX6 k) := by decide +kernel
abbrev cX6_init : ByteArray := prog_1_method_1_code
def yX6_init : MethodName := ⟨RX6, "<init>", "()V"⟩
abbrev cX6_addCustomer : ByteArray := prog_1_method_2_code
def yX6_addCustomer : MethodName := ⟨RX6, "addCustomer", "(III)I"⟩
abbrev cX6_setRule : ByteArray := prog_1_method_3_code
def yX6_setRule : MethodName := ⟨RX6, "setRule", "(II)I"⟩
abbrev cX6_setRate : ByteArray := prog_1_method_4_code
def yX6_setRate : MethodName := ⟨RX6, "setRate", "(II)I"⟩
abbrev cX6_pauseReminders : ByteArray := prog_1_method_5_code
def yX6_pauseReminders : MethodName := ⟨RX6, "pauseReminders", "(II)I"⟩
abbrev cX6_today : ByteArray := prog_1_method_6_code
def yX6_today : MethodName := ⟨RX6, "today", "()I"⟩
abbrev cX6_passDays : ByteArray := prog_1_method_7_code
def yX6_passDays : MethodName := ⟨RX6, "passDays", "(I)I"⟩
abbrev cX6_countDays : ByteArray := prog_1_method_8_code
def yX6_countDays : MethodName := ⟨RX6, "countDays", "(III)I"⟩
abbrev cX6_passOneDay : ByteArray := prog_1_method_9_code
def yX6_passOneDay : MethodName := ⟨RX6, "passOneDay", "()V"⟩
abbrev cX6_postInvoice : ByteArray := prog_1_method_10_code
def yX6_postInvoice : MethodName := ⟨RX6, "postInvoice", "(III)I"⟩
abbrev cX6_postPayment : ByteArray := prog_1_method_11_code
def yX6_postPayment : MethodName := ⟨RX6, "postPayment", "(II)I"⟩
abbrev cX6_allocate : ByteArray := prog_1_method_12_code
def yX6_allocate : MethodName := ⟨RX6, "allocate", "(III)I"⟩
abbrev cX6_allocateRest : ByteArray := prog_1_method_13_code
def yX6_allocateRest : MethodName := ⟨RX6, "allocateRest", "(I)I"⟩
abbrev cX6_release : ByteArray := prog_1_method_14_code
def yX6_release : MethodName := ⟨RX6, "release", "(II)I"⟩
abbrev cX6_reverse : ByteArray := prog_1_method_15_code
def yX6_reverse : MethodName := ⟨RX6, "reverse", "(I)I"⟩
abbrev cX6_enterInvoice : ByteArray := prog_1_method_16_code
def yX6_enterInvoice : MethodName := ⟨RX6, "enterInvoice", "(LReceivablesBook$Invoice;)I"⟩
abbrev cX6_allocateByRule : ByteArray := prog_1_method_17_code
def yX6_allocateByRule : MethodName := ⟨RX6, "allocateByRule", "(LReceivablesBook$Payment;)I"⟩
abbrev cX6_weighClearAmounts : ByteArray := prog_1_method_18_code
def yX6_weighClearAmounts : MethodName := ⟨RX6, "weighClearAmounts", "(LReceivablesBook$Customer;)V"⟩
abbrev cX6_shareOldestFirst : ByteArray := prog_1_method_19_code
def yX6_shareOldestFirst : MethodName := ⟨RX6, "shareOldestFirst", "(I)V"⟩
abbrev cX6_oldestWithoutPart : ByteArray := prog_1_method_20_code
def yX6_oldestWithoutPart : MethodName := ⟨RX6, "oldestWithoutPart", "()I"⟩
abbrev cX6_moveToInvoice : ByteArray := prog_1_method_21_code
def yX6_moveToInvoice : MethodName := ⟨RX6, "moveToInvoice", "(LReceivablesBook$Payment;II)V"⟩
abbrev cX6_takeBack : ByteArray := prog_1_method_22_code
def yX6_takeBack : MethodName := ⟨RX6, "takeBack", "(LReceivablesBook$Payment;I)I"⟩
abbrev cX6_dispute : ByteArray := prog_1_method_23_code
def yX6_dispute : MethodName := ⟨RX6, "dispute", "(II)I"⟩
abbrev cX6_disputeAll : ByteArray := prog_1_method_24_code
def yX6_disputeAll : MethodName := ⟨RX6, "disputeAll", "(II)I"⟩
abbrev cX6_settle : ByteArray := prog_1_method_25_code
def yX6_settle : MethodName := ⟨RX6, "settle", "(II)I"⟩
abbrev cX6_chargeInterest : ByteArray := prog_1_method_26_code
def yX6_chargeInterest : MethodName := ⟨RX6, "chargeInterest", "(II)I"⟩
abbrev cX6_accrued : ByteArray := prog_1_method_27_code
def yX6_accrued : MethodName := ⟨RX6, "accrued", "(I)I"⟩
abbrev cX6_isInterest : ByteArray := prog_1_method_28_code
def yX6_isInterest : MethodName := ⟨RX6, "isInterest", "(I)Z"⟩
abbrev cX6_accruedOfAll : ByteArray := prog_1_method_29_code
def yX6_accruedOfAll : MethodName := ⟨RX6, "accruedOfAll", "(LReceivablesBook$Customer;)I"⟩
abbrev cX6_customers : ByteArray := prog_1_method_30_code
def yX6_customers : MethodName := ⟨RX6, "customers", "()I"⟩
abbrev cX6_invoices : ByteArray := prog_1_method_31_code
def yX6_invoices : MethodName := ⟨RX6, "invoices", "()I"⟩
abbrev cX6_payments : ByteArray := prog_1_method_32_code
def yX6_payments : MethodName := ⟨RX6, "payments", "()I"⟩
abbrev cX6_amountOf : ByteArray := prog_1_method_33_code
def yX6_amountOf : MethodName := ⟨RX6, "amountOf", "(I)I"⟩
abbrev cX6_dueDay : ByteArray := prog_1_method_34_code
def yX6_dueDay : MethodName := ⟨RX6, "dueDay", "(I)I"⟩
abbrev cX6_openOf : ByteArray := prog_1_method_35_code
def yX6_openOf : MethodName := ⟨RX6, "openOf", "(I)I"⟩
abbrev cX6_openByLedger : ByteArray := prog_1_method_36_code
def yX6_openByLedger : MethodName := ⟨RX6, "openByLedger", "(I)I"⟩
abbrev cX6_disputedOf : ByteArray := prog_1_method_37_code
def yX6_disputedOf : MethodName := ⟨RX6, "disputedOf", "(I)I"⟩
abbrev cX6_allocated : ByteArray := prog_1_method_38_code
def yX6_allocated : MethodName := ⟨RX6, "allocated", "(II)I"⟩
abbrev cX6_unallocated : ByteArray := prog_1_method_39_code
def yX6_unallocated : MethodName := ⟨RX6, "unallocated", "(I)I"⟩
abbrev cX6_balance : ByteArray := prog_1_method_40_code
def yX6_balance : MethodName := ⟨RX6, "balance", "(I)I"⟩
abbrev cX6_bucketOf : ByteArray := prog_1_method_41_code
def yX6_bucketOf : MethodName := ⟨RX6, "bucketOf", "(I)I"⟩
abbrev cX6_ageing : ByteArray := prog_1_method_42_code
def yX6_ageing : MethodName := ⟨RX6, "ageing", "(II)I"⟩
abbrev cX6_oldest : ByteArray := prog_1_method_43_code
def yX6_oldest : MethodName := ⟨RX6, "oldest", "(I)I"⟩
abbrev cX6_levelOf : ByteArray := prog_1_method_44_code
def yX6_levelOf : MethodName := ⟨RX6, "levelOf", "(I)I"⟩
abbrev cX6_daysToReminder : ByteArray := prog_1_method_45_code
def yX6_daysToReminder : MethodName := ⟨RX6, "daysToReminder", "(I)I"⟩
abbrev cX6_invoicesAt : ByteArray := prog_1_method_46_code
def yX6_invoicesAt : MethodName := ⟨RX6, "invoicesAt", "(I)I"⟩
abbrev cX6_ledgerLines : ByteArray := prog_1_method_47_code
def yX6_ledgerLines : MethodName := ⟨RX6, "ledgerLines", "()I"⟩
abbrev cX6_lineInvoice : ByteArray := prog_1_method_48_code
def yX6_lineInvoice : MethodName := ⟨RX6, "lineInvoice", "(I)I"⟩
abbrev cX6_lineAmount : ByteArray := prog_1_method_49_code
def yX6_lineAmount : MethodName := ⟨RX6, "lineAmount", "(I)I"⟩
abbrev cX6_customerAt : ByteArray := prog_1_method_50_code
def yX6_customerAt : MethodName := ⟨RX6, "customerAt", "(I)LReceivablesBook$Customer;"⟩
abbrev cX6_invoiceAt : ByteArray := prog_1_method_51_code
def yX6_invoiceAt : MethodName := ⟨RX6, "invoiceAt", "(I)LReceivablesBook$Invoice;"⟩
abbrev cX6_paymentAt : ByteArray := prog_1_method_52_code
def yX6_paymentAt : MethodName := ⟨RX6, "paymentAt", "(I)LReceivablesBook$Payment;"⟩
abbrev cX6_requireIndex : ByteArray := prog_1_method_53_code
def yX6_requireIndex : MethodName := ⟨RX6, "requireIndex", "(II)V"⟩
abbrev cX6_requireRange : ByteArray := prog_1_method_54_code
def yX6_requireRange : MethodName := ⟨RX6, "requireRange", "(III)V"⟩
abbrev cX6_requireCent : ByteArray := prog_1_method_55_code
def yX6_requireCent : MethodName := ⟨RX6, "requireCent", "(I)V"⟩
abbrev cX6_requireRoom : ByteArray := prog_1_method_56_code
def yX6_requireRoom : MethodName := ⟨RX6, "requireRoom", "(II)V"⟩
abbrev cX6_requireState : ByteArray := prog_1_method_57_code
def yX6_requireState : MethodName := ⟨RX6, "requireState", "(Z)V"⟩
def RX7 : String := "ReceivablesBookModel"
def TX7 : u_T := fun k => match k with
  | 0 => ("ReceivablesBookModel", "refusal", "I", false)
  | 1 => ("ReceivablesBookModel", "today", "I", false)
  | 2 => ("ReceivablesBookModel", "customers", "I", false)
  | 3 => ("ReceivablesBookModel", "invoices", "I", false)
  | 4 => ("ReceivablesBookModel", "payments", "I", false)
  | 5 => ("ReceivablesBookModel", "lines", "I", false)
  | 6 => ("ReceivablesBookModel", "rules", "[I", true)
  | 7 => ("ReceivablesBookModel", "conventions", "[I", true)
  | 8 => ("ReceivablesBookModel", "rates", "[I", true)
  | 9 => ("ReceivablesBookModel", "pausedTo", "[I", true)
  | 10 => ("ReceivablesBookModel", "owners", "[I", true)
  | 11 => ("ReceivablesBookModel", "amounts", "[I", true)
  | 12 => ("ReceivablesBookModel", "dues", "[I", true)
  | 13 => ("ReceivablesBookModel", "opens", "[I", true)
  | 14 => ("ReceivablesBookModel", "disputes", "[I", true)
  | 15 => ("ReceivablesBookModel", "accruals", "[J", true)
  | 16 => ("ReceivablesBookModel", "areInterest", "[Z", true)
  | 17 => ("ReceivablesBookModel", "levels", "[I", true)
  | 18 => ("ReceivablesBookModel", "waits", "[I", true)
  | 19 => ("ReceivablesBookModel", "payers", "[I", true)
  | 20 => ("ReceivablesBookModel", "rests", "[I", true)
  | 21 => ("ReceivablesBookModel", "areReversed", "[Z", true)
  | 22 => ("ReceivablesBookModel", "allocations", "[I", true)
  | 23 => ("ReceivablesBookModel", "lineInvoices", "[I", true)
  | 24 => ("ReceivablesBookModel", "lineAmounts", "[I", true)
  | 25 => ("ReceivablesBookModel", "shares", "[I", true)
  | _ => ("ReceivablesBookModel", "remainders", "[J", true)
def tyX7 : Nat → FieldType := fun k => match k with
  | 0 => .int
  | 1 => .int
  | 2 => .int
  | 3 => .int
  | 4 => .int
  | 5 => .int
  | 6 => .array .int
  | 7 => .array .int
  | 8 => .array .int
  | 9 => .array .int
  | 10 => .array .int
  | 11 => .array .int
  | 12 => .array .int
  | 13 => .array .int
  | 14 => .array .int
  | 15 => .array .long
  | 16 => .array .boolean
  | 17 => .array .int
  | 18 => .array .int
  | 19 => .array .int
  | 20 => .array .int
  | 21 => .array .boolean
  | 22 => .array .int
  | 23 => .array .int
  | 24 => .array .int
  | 25 => .array .int
  | _ => .array .long
abbrev wsX70 : List Cond := u_ws RX7 TX7 27
theorem nmX7 : ∀ a, a < 27 → ∀ b, b < 27 → a ≠ b → (TX7 a).2.1 ≠ (TX7 b).2.1 := by decide +kernel
theorem tyX7_ok : ∀ k, k < 27 → parseFieldDescriptor (TX7 k).2.2.1 = some (tyX7 k) := by decide +kernel
abbrev cX7_init : ByteArray := prog_9_method_1_code
def yX7_init : MethodName := ⟨RX7, "<init>", "()V"⟩
abbrev cX7_thrown : ByteArray := prog_9_method_2_code
def yX7_thrown : MethodName := ⟨RX7, "thrown", "()I"⟩
abbrev cX7_refused : ByteArray := prog_9_method_3_code
def yX7_refused : MethodName := ⟨RX7, "refused", "(I)Z"⟩
abbrev cX7_told : ByteArray := prog_9_method_4_code
def yX7_told : MethodName := ⟨RX7, "told", "(I)I"⟩
abbrev cX7_within : ByteArray := prog_9_method_5_code
def yX7_within : MethodName := ⟨RX7, "within", "(III)Z"⟩
abbrev cX7_isCustomer : ByteArray := prog_9_method_6_code
def yX7_isCustomer : MethodName := ⟨RX7, "isCustomer", "(I)Z"⟩
abbrev cX7_isInvoice : ByteArray := prog_9_method_7_code
def yX7_isInvoice : MethodName := ⟨RX7, "isInvoice", "(I)Z"⟩
abbrev cX7_isPayment : ByteArray := prog_9_method_8_code
def yX7_isPayment : MethodName := ⟨RX7, "isPayment", "(I)Z"⟩
abbrev cX7_noCustomer : ByteArray := prog_9_method_9_code
def yX7_noCustomer : MethodName := ⟨RX7, "noCustomer", "(I)Z"⟩
abbrev cX7_noInvoice : ByteArray := prog_9_method_10_code
def yX7_noInvoice : MethodName := ⟨RX7, "noInvoice", "(I)Z"⟩
abbrev cX7_clear : ByteArray := prog_9_method_11_code
def yX7_clear : MethodName := ⟨RX7, "clear", "(I)I"⟩
abbrev cX7_thirties : ByteArray := prog_9_method_12_code
def yX7_thirties : MethodName := ⟨RX7, "thirties", "(I)I"⟩
abbrev cX7_length : ByteArray := prog_9_method_13_code
def yX7_length : MethodName := ⟨RX7, "length", "(II)I"⟩
abbrev cX7_between : ByteArray := prog_9_method_14_code
def yX7_between : MethodName := ⟨RX7, "between", "(III)I"⟩
abbrev cX7_unit : ByteArray := prog_9_method_15_code
def yX7_unit : MethodName := ⟨RX7, "unit", "(I)J"⟩
abbrev cX7_patience : ByteArray := prog_9_method_16_code
def yX7_patience : MethodName := ⟨RX7, "patience", "(I)I"⟩
abbrev cX7_isReminded : ByteArray := prog_9_method_17_code
def yX7_isReminded : MethodName := ⟨RX7, "isReminded", "(I)Z"⟩
abbrev cX7_passDay : ByteArray := prog_9_method_18_code
def yX7_passDay : MethodName := ⟨RX7, "passDay", "()V"⟩
abbrev cX7_addCustomer : ByteArray := prog_9_method_19_code
def yX7_addCustomer : MethodName := ⟨RX7, "addCustomer", "(III)I"⟩
abbrev cX7_setRule : ByteArray := prog_9_method_20_code
def yX7_setRule : MethodName := ⟨RX7, "setRule", "(II)I"⟩
abbrev cX7_setRate : ByteArray := prog_9_method_21_code
def yX7_setRate : MethodName := ⟨RX7, "setRate", "(II)I"⟩
abbrev cX7_pauseReminders : ByteArray := prog_9_method_22_code
def yX7_pauseReminders : MethodName := ⟨RX7, "pauseReminders", "(II)I"⟩
abbrev cX7_today : ByteArray := prog_9_method_23_code
def yX7_today : MethodName := ⟨RX7, "today", "()I"⟩
abbrev cX7_passDays : ByteArray := prog_9_method_24_code
def yX7_passDays : MethodName := ⟨RX7, "passDays", "(I)I"⟩
abbrev cX7_countDays : ByteArray := prog_9_method_25_code
def yX7_countDays : MethodName := ⟨RX7, "countDays", "(III)I"⟩
abbrev cX7_write : ByteArray := prog_9_method_26_code
def yX7_write : MethodName := ⟨RX7, "write", "(II)V"⟩
abbrev cX7_post : ByteArray := prog_9_method_27_code
def yX7_post : MethodName := ⟨RX7, "post", "(IIIZ)I"⟩
abbrev cX7_postInvoice : ByteArray := prog_9_method_28_code
def yX7_postInvoice : MethodName := ⟨RX7, "postInvoice", "(III)I"⟩
abbrev cX7_put : ByteArray := prog_9_method_29_code
def yX7_put : MethodName := ⟨RX7, "put", "(III)V"⟩
abbrev cX7_clearOf : ByteArray := prog_9_method_30_code
def yX7_clearOf : MethodName := ⟨RX7, "clearOf", "(I)J"⟩
abbrev cX7_split : ByteArray := prog_9_method_31_code
def yX7_split : MethodName := ⟨RX7, "split", "(II)V"⟩
abbrev cX7_oldestOf : ByteArray := prog_9_method_32_code
def yX7_oldestOf : MethodName := ⟨RX7, "oldestOf", "(I)I"⟩
abbrev cX7_share : ByteArray := prog_9_method_33_code
def yX7_share : MethodName := ⟨RX7, "share", "(II)V"⟩
abbrev cX7_fromOldest : ByteArray := prog_9_method_34_code
def yX7_fromOldest : MethodName := ⟨RX7, "fromOldest", "(III)I"⟩
abbrev cX7_allocateByRule : ByteArray := prog_9_method_35_code
def yX7_allocateByRule : MethodName := ⟨RX7, "allocateByRule", "(I)I"⟩
abbrev cX7_postPayment : ByteArray := prog_9_method_36_code
def yX7_postPayment : MethodName := ⟨RX7, "postPayment", "(II)I"⟩
abbrev cX7_allocate : ByteArray := prog_9_method_37_code
def yX7_allocate : MethodName := ⟨RX7, "allocate", "(III)I"⟩
abbrev cX7_allocateRest : ByteArray := prog_9_method_38_code
def yX7_allocateRest : MethodName := ⟨RX7, "allocateRest", "(I)I"⟩
abbrev cX7_takeBack : ByteArray := prog_9_method_39_code
def yX7_takeBack : MethodName := ⟨RX7, "takeBack", "(II)I"⟩
abbrev cX7_release : ByteArray := prog_9_method_40_code
def yX7_release : MethodName := ⟨RX7, "release", "(II)I"⟩
abbrev cX7_reverse : ByteArray := prog_9_method_41_code
def yX7_reverse : MethodName := ⟨RX7, "reverse", "(I)I"⟩
abbrev cX7_dispute : ByteArray := prog_9_method_42_code
def yX7_dispute : MethodName := ⟨RX7, "dispute", "(II)I"⟩
abbrev cX7_disputeAll : ByteArray := prog_9_method_43_code
def yX7_disputeAll : MethodName := ⟨RX7, "disputeAll", "(II)I"⟩
abbrev cX7_settle : ByteArray := prog_9_method_44_code
def yX7_settle : MethodName := ⟨RX7, "settle", "(II)I"⟩
abbrev cX7_accruedOf : ByteArray := prog_9_method_45_code
def yX7_accruedOf : MethodName := ⟨RX7, "accruedOf", "(I)I"⟩
abbrev cX7_chargeInterest : ByteArray := prog_9_method_46_code
def yX7_chargeInterest : MethodName := ⟨RX7, "chargeInterest", "(II)I"⟩
abbrev cX7_accrued : ByteArray := prog_9_method_47_code
def yX7_accrued : MethodName := ⟨RX7, "accrued", "(I)I"⟩
abbrev cX7_isInterest : ByteArray := prog_9_method_48_code
def yX7_isInterest : MethodName := ⟨RX7, "isInterest", "(I)Z"⟩
abbrev cX7_customers : ByteArray := prog_9_method_49_code
def yX7_customers : MethodName := ⟨RX7, "customers", "()I"⟩
abbrev cX7_invoices : ByteArray := prog_9_method_50_code
def yX7_invoices : MethodName := ⟨RX7, "invoices", "()I"⟩
abbrev cX7_payments : ByteArray := prog_9_method_51_code
def yX7_payments : MethodName := ⟨RX7, "payments", "()I"⟩
abbrev cX7_amountOf : ByteArray := prog_9_method_52_code
def yX7_amountOf : MethodName := ⟨RX7, "amountOf", "(I)I"⟩
abbrev cX7_dueDay : ByteArray := prog_9_method_53_code
def yX7_dueDay : MethodName := ⟨RX7, "dueDay", "(I)I"⟩
abbrev cX7_openOf : ByteArray := prog_9_method_54_code
def yX7_openOf : MethodName := ⟨RX7, "openOf", "(I)I"⟩
abbrev cX7_openByLedger : ByteArray := prog_9_method_55_code
def yX7_openByLedger : MethodName := ⟨RX7, "openByLedger", "(I)I"⟩
abbrev cX7_disputedOf : ByteArray := prog_9_method_56_code
def yX7_disputedOf : MethodName := ⟨RX7, "disputedOf", "(I)I"⟩
abbrev cX7_allocated : ByteArray := prog_9_method_57_code
def yX7_allocated : MethodName := ⟨RX7, "allocated", "(II)I"⟩
abbrev cX7_unallocated : ByteArray := prog_9_method_58_code
def yX7_unallocated : MethodName := ⟨RX7, "unallocated", "(I)I"⟩
abbrev cX7_balance : ByteArray := prog_9_method_59_code
def yX7_balance : MethodName := ⟨RX7, "balance", "(I)I"⟩
abbrev cX7_bucket : ByteArray := prog_9_method_60_code
def yX7_bucket : MethodName := ⟨RX7, "bucket", "(I)I"⟩
abbrev cX7_bucketOf : ByteArray := prog_9_method_61_code
def yX7_bucketOf : MethodName := ⟨RX7, "bucketOf", "(I)I"⟩
abbrev cX7_ageing : ByteArray := prog_9_method_62_code
def yX7_ageing : MethodName := ⟨RX7, "ageing", "(II)I"⟩
abbrev cX7_oldest : ByteArray := prog_9_method_63_code
def yX7_oldest : MethodName := ⟨RX7, "oldest", "(I)I"⟩
abbrev cX7_levelOf : ByteArray := prog_9_method_64_code
def yX7_levelOf : MethodName := ⟨RX7, "levelOf", "(I)I"⟩
abbrev cX7_daysToReminder : ByteArray := prog_9_method_65_code
def yX7_daysToReminder : MethodName := ⟨RX7, "daysToReminder", "(I)I"⟩
abbrev cX7_invoicesAt : ByteArray := prog_9_method_66_code
def yX7_invoicesAt : MethodName := ⟨RX7, "invoicesAt", "(I)I"⟩
abbrev cX7_ledgerLines : ByteArray := prog_9_method_67_code
def yX7_ledgerLines : MethodName := ⟨RX7, "ledgerLines", "()I"⟩
abbrev cX7_noLine : ByteArray := prog_9_method_68_code
def yX7_noLine : MethodName := ⟨RX7, "noLine", "(I)Z"⟩
abbrev cX7_lineInvoice : ByteArray := prog_9_method_69_code
def yX7_lineInvoice : MethodName := ⟨RX7, "lineInvoice", "(I)I"⟩
abbrev cX7_lineAmount : ByteArray := prog_9_method_70_code
def yX7_lineAmount : MethodName := ⟨RX7, "lineAmount", "(I)I"⟩
def RJx145de : String := "java/io/Serializable"
def TJx145de : u_T := fun k => match k with
  | _ => ("", "", "", false)
def tyJx145de : Nat → FieldType := fun k => match k with
  | _ => .int
abbrev wsJx145de0 : List Cond := u_ws RJx145de TJx145de 0
theorem nmJx145de : ∀ a, a < 0 → ∀ b, b < 0 → a ≠ b → (TJx145de a).2.1 ≠ (TJx145de b).2.1 := by decide +kernel
theorem tyJx145de_ok : ∀ k, k < 0 → parseFieldDescriptor (TJx145de k).2.2.1 = some (tyJx145de k) := by decide +kernel
def RJx8e188 : String := "java/lang/Cloneable"
def TJx8e188 : u_T := fun k => match k with
  | _ => ("", "", "", false)
def tyJx8e188 : Nat → FieldType := fun k => match k with
  | _ => .int
abbrev wsJx8e1880 : List Cond := u_ws RJx8e188 TJx8e188 0
theorem nmJx8e188 : ∀ a, a < 0 → ∀ b, b < 0 → a ≠ b → (TJx8e188 a).2.1 ≠ (TJx8e188 b).2.1 := by decide +kernel
theorem tyJx8e188_ok : ∀ k, k < 0 → parseFieldDescriptor (TJx8e188 k).2.2.1 = some (tyJx8e188 k) := by decide +kernel
def RJxab1ab : String := "java/lang/Iterable"
def TJxab1ab : u_T := fun k => match k with
  | _ => ("", "", "", false)
def tyJxab1ab : Nat → FieldType := fun k => match k with
  | _ => .int
abbrev wsJxab1ab0 : List Cond := u_ws RJxab1ab TJxab1ab 0
theorem nmJxab1ab : ∀ a, a < 0 → ∀ b, b < 0 → a ≠ b → (TJxab1ab a).2.1 ≠ (TJxab1ab b).2.1 := by decide +kernel
theorem tyJxab1ab_ok : ∀ k, k < 0 → parseFieldDescriptor (TJxab1ab k).2.2.1 = some (tyJxab1ab k) := by decide +kernel
def RJ9 : String := "java/lang/Math"
def TJ9 : u_T := fun k => match k with
  | _ => ("", "", "", false)
def tyJ9 : Nat → FieldType := fun k => match k with
  | _ => .int
abbrev wsJ90 : List Cond := u_ws RJ9 TJ9 0
theorem nmJ9 : ∀ a, a < 0 → ∀ b, b < 0 → a ≠ b → (TJ9 a).2.1 ≠ (TJ9 b).2.1 := by decide +kernel
theorem tyJ9_ok : ∀ k, k < 0 → parseFieldDescriptor (TJ9 k).2.2.1 = some (tyJ9 k) := by decide +kernel
abbrev cJ9_max_7cf53 : ByteArray := prog_17_method_65_code
def yJ9_max_7cf53 : MethodName := ⟨RJ9, "max", "(II)I"⟩
abbrev cJ9_min_7cf53 : ByteArray := prog_17_method_69_code
def yJ9_min_7cf53 : MethodName := ⟨RJ9, "min", "(II)I"⟩
abbrev cJ9_min_f86c9 : ByteArray := prog_17_method_70_code
def yJ9_min_f86c9 : MethodName := ⟨RJ9, "min", "(JJ)J"⟩
def RJ0 : String := "java/lang/String"
def TJ0 : u_T := fun k => match k with
  | _ => ("", "", "", false)
def tyJ0 : Nat → FieldType := fun k => match k with
  | _ => .int
abbrev wsJ00 : List Cond := u_ws RJ0 TJ0 0
theorem nmJ0 : ∀ a, a < 0 → ∀ b, b < 0 → a ≠ b → (TJ0 a).2.1 ≠ (TJ0 b).2.1 := by decide +kernel
theorem tyJ0_ok : ∀ k, k < 0 → parseFieldDescriptor (TJ0 k).2.2.1 = some (tyJ0 k) := by decide +kernel
def RJ10 : String := "java/lang/System"
def TJ10 : u_T := fun k => match k with
  | _ => ("", "", "", false)
def tyJ10 : Nat → FieldType := fun k => match k with
  | _ => .int
abbrev wsJ100 : List Cond := u_ws RJ10 TJ10 0
theorem nmJ10 : ∀ a, a < 0 → ∀ b, b < 0 → a ≠ b → (TJ10 a).2.1 ≠ (TJ10 b).2.1 := by decide +kernel
theorem tyJ10_ok : ∀ k, k < 0 → parseFieldDescriptor (TJ10 k).2.2.1 = some (tyJ10 k) := by decide +kernel
def RJxa1e45 : String := "java/util/AbstractCollection"
def TJxa1e45 : u_T := fun k => match k with
  | _ => ("", "", "", false)
def tyJxa1e45 : Nat → FieldType := fun k => match k with
  | _ => .int
abbrev wsJxa1e450 : List Cond := u_ws RJxa1e45 TJxa1e45 0
theorem nmJxa1e45 : ∀ a, a < 0 → ∀ b, b < 0 → a ≠ b → (TJxa1e45 a).2.1 ≠ (TJxa1e45 b).2.1 := by decide +kernel
theorem tyJxa1e45_ok : ∀ k, k < 0 → parseFieldDescriptor (TJxa1e45 k).2.2.1 = some (tyJxa1e45 k) := by decide +kernel
abbrev cJxa1e45_init_da8c8 : ByteArray := prog_22_method_1_code
def yJxa1e45_init_da8c8 : MethodName := ⟨RJxa1e45, "<init>", "()V"⟩
def RJxc12de : String := "java/util/AbstractList"
def TJxc12de : u_T := fun k => match k with
  | _ => ("", "", "", false)
def tyJxc12de : Nat → FieldType := fun k => match k with
  | _ => .int
abbrev wsJxc12de0 : List Cond := u_ws RJxc12de TJxc12de 0
theorem nmJxc12de : ∀ a, a < 0 → ∀ b, b < 0 → a ≠ b → (TJxc12de a).2.1 ≠ (TJxc12de b).2.1 := by decide +kernel
theorem tyJxc12de_ok : ∀ k, k < 0 → parseFieldDescriptor (TJxc12de k).2.2.1 = some (tyJxc12de k) := by decide +kernel
abbrev cJxc12de_init_da8c8 : ByteArray := prog_23_method_1_code
def yJxc12de_init_da8c8 : MethodName := ⟨RJxc12de, "<init>", "()V"⟩
def RJx4a65c : String := "java/util/ArrayList"
def TJx4a65c : u_T := fun k => match k with
  | 0 => ("java/util/AbstractList", "modCount", "I", false)
  | 1 => ("java/util/ArrayList", "elementData", "[Ljava/lang/Object;", false)
  | _ => ("java/util/ArrayList", "size", "I", false)
def tyJx4a65c : Nat → FieldType := fun k => match k with
  | 0 => .int
  | 1 => .array (.object "java/lang/Object")
  | _ => .int
abbrev wsJx4a65c0 : List Cond := u_ws RJx4a65c TJx4a65c 3
theorem nmJx4a65c : ∀ a, a < 3 → ∀ b, b < 3 → a ≠ b → (TJx4a65c a).2.1 ≠ (TJx4a65c b).2.1 := by decide +kernel
theorem tyJx4a65c_ok : ∀ k, k < 3 → parseFieldDescriptor (TJx4a65c k).2.2.1 = some (tyJx4a65c k) := by decide +kernel
abbrev cJx4a65c_init_da8c8 : ByteArray := prog_24_method_2_code
def yJx4a65c_init_da8c8 : MethodName := ⟨RJx4a65c, "<init>", "()V"⟩
abbrev cJx4a65c_grow_92f84 : ByteArray := prog_24_method_6_code
def yJx4a65c_grow_92f84 : MethodName := ⟨RJx4a65c, "grow", "(I)[Ljava/lang/Object;"⟩
abbrev cJx4a65c_grow_d5877 : ByteArray := prog_24_method_7_code
def yJx4a65c_grow_d5877 : MethodName := ⟨RJx4a65c, "grow", "()[Ljava/lang/Object;"⟩
abbrev cJx4a65c_size_8abf5 : ByteArray := prog_24_method_8_code
def yJx4a65c_size_8abf5 : MethodName := ⟨RJx4a65c, "size", "()I"⟩
abbrev cJx4a65c_elementData_915e3 : ByteArray := prog_24_method_18_code
def yJx4a65c_elementData_915e3 : MethodName := ⟨RJx4a65c, "elementData", "(I)Ljava/lang/Object;"⟩
abbrev cJx4a65c_get_915e3 : ByteArray := prog_24_method_20_code
def yJx4a65c_get_915e3 : MethodName := ⟨RJx4a65c, "get", "(I)Ljava/lang/Object;"⟩
abbrev cJx4a65c_add_72be8 : ByteArray := prog_24_method_24_code
def yJx4a65c_add_72be8 : MethodName := ⟨RJx4a65c, "add", "(Ljava/lang/Object;[Ljava/lang/Object;I)V"⟩
abbrev cJx4a65c_add_9ea2d : ByteArray := prog_24_method_25_code
def yJx4a65c_add_9ea2d : MethodName := ⟨RJx4a65c, "add", "(Ljava/lang/Object;)Z"⟩
def RJ7 : String := "java/util/Arrays"
def TJ7 : u_T := fun k => match k with
  | _ => ("", "", "", false)
def tyJ7 : Nat → FieldType := fun k => match k with
  | _ => .int
abbrev wsJ70 : List Cond := u_ws RJ7 TJ7 0
theorem nmJ7 : ∀ a, a < 0 → ∀ b, b < 0 → a ≠ b → (TJ7 a).2.1 ≠ (TJ7 b).2.1 := by decide +kernel
theorem tyJ7_ok : ∀ k, k < 0 → parseFieldDescriptor (TJ7 k).2.2.1 = some (tyJ7 k) := by decide +kernel
abbrev cJ7_fill_53178 : ByteArray := prog_25_method_103_code
def yJ7_fill_53178 : MethodName := ⟨RJ7, "fill", "([II)V"⟩
abbrev cJ7_copyOf_1904c : ByteArray := prog_25_method_119_code
def yJ7_copyOf_1904c : MethodName := ⟨RJ7, "copyOf", "([Ljava/lang/Object;I)[Ljava/lang/Object;"⟩
abbrev cJ7_copyOf_6403c : ByteArray := prog_25_method_120_code
def yJ7_copyOf_6403c : MethodName := ⟨RJ7, "copyOf", "([Ljava/lang/Object;ILjava/lang/Class;)[Ljava/lang/Object;"⟩
abbrev cJ7_copyOf_59c91 : ByteArray := prog_25_method_123_code
def yJ7_copyOf_59c91 : MethodName := ⟨RJ7, "copyOf", "([II)[I"⟩
def RJx5ef63 : String := "java/util/Collection"
def TJx5ef63 : u_T := fun k => match k with
  | _ => ("", "", "", false)
def tyJx5ef63 : Nat → FieldType := fun k => match k with
  | _ => .int
abbrev wsJx5ef630 : List Cond := u_ws RJx5ef63 TJx5ef63 0
theorem nmJx5ef63 : ∀ a, a < 0 → ∀ b, b < 0 → a ≠ b → (TJx5ef63 a).2.1 ≠ (TJx5ef63 b).2.1 := by decide +kernel
theorem tyJx5ef63_ok : ∀ k, k < 0 → parseFieldDescriptor (TJx5ef63 k).2.2.1 = some (tyJx5ef63 k) := by decide +kernel
def RJxbd725 : String := "java/util/List"
def TJxbd725 : u_T := fun k => match k with
  | _ => ("", "", "", false)
def tyJxbd725 : Nat → FieldType := fun k => match k with
  | _ => .int
abbrev wsJxbd7250 : List Cond := u_ws RJxbd725 TJxbd725 0
theorem nmJxbd725 : ∀ a, a < 0 → ∀ b, b < 0 → a ≠ b → (TJxbd725 a).2.1 ≠ (TJxbd725 b).2.1 := by decide +kernel
theorem tyJxbd725_ok : ∀ k, k < 0 → parseFieldDescriptor (TJxbd725 k).2.2.1 = some (tyJxbd725 k) := by decide +kernel
def RJ15 : String := "java/util/Objects"
def TJ15 : u_T := fun k => match k with
  | _ => ("", "", "", false)
def tyJ15 : Nat → FieldType := fun k => match k with
  | _ => .int
abbrev wsJ150 : List Cond := u_ws RJ15 TJ15 0
theorem nmJ15 : ∀ a, a < 0 → ∀ b, b < 0 → a ≠ b → (TJ15 a).2.1 ≠ (TJ15 b).2.1 := by decide +kernel
theorem tyJ15_ok : ∀ k, k < 0 → parseFieldDescriptor (TJ15 k).2.2.1 = some (tyJ15 k) := by decide +kernel
abbrev cJ15_checkIndex_7cf53 : ByteArray := prog_28_method_17_code
def yJ15_checkIndex_7cf53 : MethodName := ⟨RJ15, "checkIndex", "(II)I"⟩
def RJxf0a74 : String := "java/util/RandomAccess"
def TJxf0a74 : u_T := fun k => match k with
  | _ => ("", "", "", false)
def tyJxf0a74 : Nat → FieldType := fun k => match k with
  | _ => .int
abbrev wsJxf0a740 : List Cond := u_ws RJxf0a74 TJxf0a74 0
theorem nmJxf0a74 : ∀ a, a < 0 → ∀ b, b < 0 → a ≠ b → (TJxf0a74 a).2.1 ≠ (TJxf0a74 b).2.1 := by decide +kernel
theorem tyJxf0a74_ok : ∀ k, k < 0 → parseFieldDescriptor (TJxf0a74 k).2.2.1 = some (tyJxf0a74 k) := by decide +kernel
def RJxa66e6 : String := "java/util/SequencedCollection"
def TJxa66e6 : u_T := fun k => match k with
  | _ => ("", "", "", false)
def tyJxa66e6 : Nat → FieldType := fun k => match k with
  | _ => .int
abbrev wsJxa66e60 : List Cond := u_ws RJxa66e6 TJxa66e6 0
theorem nmJxa66e6 : ∀ a, a < 0 → ∀ b, b < 0 → a ≠ b → (TJxa66e6 a).2.1 ≠ (TJxa66e6 b).2.1 := by decide +kernel
theorem tyJxa66e6_ok : ∀ k, k < 0 → parseFieldDescriptor (TJxa66e6 k).2.2.1 = some (tyJxa66e6 k) := by decide +kernel
def RJ8 : String := "jdk/internal/util/ArraysSupport"
def TJ8 : u_T := fun k => match k with
  | _ => ("", "", "", false)
def tyJ8 : Nat → FieldType := fun k => match k with
  | _ => .int
abbrev wsJ80 : List Cond := u_ws RJ8 TJ8 0
theorem nmJ8 : ∀ a, a < 0 → ∀ b, b < 0 → a ≠ b → (TJ8 a).2.1 ≠ (TJ8 b).2.1 := by decide +kernel
theorem tyJ8_ok : ∀ k, k < 0 → parseFieldDescriptor (TJ8 k).2.2.1 = some (tyJ8 k) := by decide +kernel
abbrev cJ8_newLength_cabcc : ByteArray := prog_31_method_27_code
def yJ8_newLength_cabcc : MethodName := ⟨RJ8, "newLength", "(III)I"⟩
abbrev cJ8_hugeLength_7cf53 : ByteArray := prog_31_method_28_code
def yJ8_hugeLength_7cf53 : MethodName := ⟨RJ8, "hugeLength", "(II)I"⟩
def RJ3 : String := "jdk/internal/util/Preconditions"
def TJ3 : u_T := fun k => match k with
  | _ => ("", "", "", false)
def tyJ3 : Nat → FieldType := fun k => match k with
  | _ => .int
abbrev wsJ30 : List Cond := u_ws RJ3 TJ3 0
theorem nmJ3 : ∀ a, a < 0 → ∀ b, b < 0 → a ≠ b → (TJ3 a).2.1 ≠ (TJ3 b).2.1 := by decide +kernel
theorem tyJ3_ok : ∀ k, k < 0 → parseFieldDescriptor (TJ3 k).2.2.1 = some (tyJ3 k) := by decide +kernel
abbrev cJ3_checkIndex_8e157 : ByteArray := prog_32_method_11_code
def yJ3_checkIndex_8e157 : MethodName := ⟨RJ3, "checkIndex", "(IILjava/util/function/BiFunction;)I"⟩
def RL : String := "ReceivablesBookLaw"
abbrev cL_addCustomer : ByteArray := method_3_code
def yL_addCustomer : MethodName := ⟨RL, "addCustomer", "(LReceivablesBook;III[J)I"⟩
abbrev cL_setRule : ByteArray := method_4_code
def yL_setRule : MethodName := ⟨RL, "setRule", "(LReceivablesBook;II[J)I"⟩
abbrev cL_setRate : ByteArray := method_5_code
def yL_setRate : MethodName := ⟨RL, "setRate", "(LReceivablesBook;II[J)I"⟩
abbrev cL_pauseReminders : ByteArray := method_6_code
def yL_pauseReminders : MethodName := ⟨RL, "pauseReminders", "(LReceivablesBook;II[J)I"⟩
abbrev cL_passDays : ByteArray := method_7_code
def yL_passDays : MethodName := ⟨RL, "passDays", "(LReceivablesBook;I[J)I"⟩
abbrev cL_countDays : ByteArray := method_8_code
def yL_countDays : MethodName := ⟨RL, "countDays", "(LReceivablesBook;III[J)I"⟩
abbrev cL_postInvoice : ByteArray := method_9_code
def yL_postInvoice : MethodName := ⟨RL, "postInvoice", "(LReceivablesBook;III[J)I"⟩
abbrev cL_postPayment : ByteArray := method_10_code
def yL_postPayment : MethodName := ⟨RL, "postPayment", "(LReceivablesBook;II[J)I"⟩
abbrev cL_allocate : ByteArray := method_11_code
def yL_allocate : MethodName := ⟨RL, "allocate", "(LReceivablesBook;III[J)I"⟩
abbrev cL_allocateRest : ByteArray := method_12_code
def yL_allocateRest : MethodName := ⟨RL, "allocateRest", "(LReceivablesBook;I[J)I"⟩
abbrev cL_release : ByteArray := method_13_code
def yL_release : MethodName := ⟨RL, "release", "(LReceivablesBook;II[J)I"⟩
abbrev cL_reverse : ByteArray := method_14_code
def yL_reverse : MethodName := ⟨RL, "reverse", "(LReceivablesBook;I[J)I"⟩
abbrev cL_dispute : ByteArray := method_15_code
def yL_dispute : MethodName := ⟨RL, "dispute", "(LReceivablesBook;II[J)I"⟩
abbrev cL_disputeAll : ByteArray := method_16_code
def yL_disputeAll : MethodName := ⟨RL, "disputeAll", "(LReceivablesBook;II[J)I"⟩
abbrev cL_settle : ByteArray := method_17_code
def yL_settle : MethodName := ⟨RL, "settle", "(LReceivablesBook;II[J)I"⟩
abbrev cL_chargeInterest : ByteArray := method_18_code
def yL_chargeInterest : MethodName := ⟨RL, "chargeInterest", "(LReceivablesBook;II[J)I"⟩
abbrev cL_accrued : ByteArray := method_19_code
def yL_accrued : MethodName := ⟨RL, "accrued", "(LReceivablesBook;I[J)I"⟩
abbrev cL_isInterest : ByteArray := method_20_code
def yL_isInterest : MethodName := ⟨RL, "isInterest", "(LReceivablesBook;I[J)I"⟩
abbrev cL_amountOf : ByteArray := method_21_code
def yL_amountOf : MethodName := ⟨RL, "amountOf", "(LReceivablesBook;I[J)I"⟩
abbrev cL_dueDay : ByteArray := method_22_code
def yL_dueDay : MethodName := ⟨RL, "dueDay", "(LReceivablesBook;I[J)I"⟩
abbrev cL_openOf : ByteArray := method_23_code
def yL_openOf : MethodName := ⟨RL, "openOf", "(LReceivablesBook;I[J)I"⟩
abbrev cL_openByLedger : ByteArray := method_24_code
def yL_openByLedger : MethodName := ⟨RL, "openByLedger", "(LReceivablesBook;I[J)I"⟩
abbrev cL_disputedOf : ByteArray := method_25_code
def yL_disputedOf : MethodName := ⟨RL, "disputedOf", "(LReceivablesBook;I[J)I"⟩
abbrev cL_allocated : ByteArray := method_26_code
def yL_allocated : MethodName := ⟨RL, "allocated", "(LReceivablesBook;II[J)I"⟩
abbrev cL_unallocated : ByteArray := method_27_code
def yL_unallocated : MethodName := ⟨RL, "unallocated", "(LReceivablesBook;I[J)I"⟩
abbrev cL_balance : ByteArray := method_28_code
def yL_balance : MethodName := ⟨RL, "balance", "(LReceivablesBook;I[J)I"⟩
abbrev cL_bucketOf : ByteArray := method_29_code
def yL_bucketOf : MethodName := ⟨RL, "bucketOf", "(LReceivablesBook;I[J)I"⟩
abbrev cL_ageing : ByteArray := method_30_code
def yL_ageing : MethodName := ⟨RL, "ageing", "(LReceivablesBook;II[J)I"⟩
abbrev cL_oldest : ByteArray := method_31_code
def yL_oldest : MethodName := ⟨RL, "oldest", "(LReceivablesBook;I[J)I"⟩
abbrev cL_levelOf : ByteArray := method_32_code
def yL_levelOf : MethodName := ⟨RL, "levelOf", "(LReceivablesBook;I[J)I"⟩
abbrev cL_daysToReminder : ByteArray := method_33_code
def yL_daysToReminder : MethodName := ⟨RL, "daysToReminder", "(LReceivablesBook;I[J)I"⟩
abbrev cL_invoicesAt : ByteArray := method_34_code
def yL_invoicesAt : MethodName := ⟨RL, "invoicesAt", "(LReceivablesBook;I[J)I"⟩
abbrev cL_lineInvoice : ByteArray := method_35_code
def yL_lineInvoice : MethodName := ⟨RL, "lineInvoice", "(LReceivablesBook;I[J)I"⟩
abbrev cL_lineAmount : ByteArray := method_36_code
def yL_lineAmount : MethodName := ⟨RL, "lineAmount", "(LReceivablesBook;I[J)I"⟩
abbrev cL_law : ByteArray := code
def yL_law : MethodName := ⟨RL, "law", "([I)Z"⟩
abbrev vwCl : List vw_C := [(RJx4a65c, TJx4a65c, 3), (RX0, TX0, 4), (RX2, TX2, 10), (RX3, TX3, 3), (RX4, TX4, 5), (RX5, TX5, 3), (RX6, TX6, 6), (RX7, TX7, 27)]
end
section
/-- the words of the law's table that hold in every warmer state: every method's contract asks for these, all of them -/
def xTB : List Cond := lw_tbl.filter goodWord
theorem xtb_of {N : Nat} {w : Cond} (h : lw_tbl[N]? = some w) (hg : goodWord w = true) : w ∈ xTB := List.mem_filter.mpr ⟨List.mem_of_getElem? h, hg⟩
theorem xtb_good {w : Cond} (h : w ∈ xTB) : goodWord w = true := (List.mem_filter.mp h).2
theorem xtb_tbl {w : Cond} (h : w ∈ xTB) : w ∈ lw_tbl := (List.mem_filter.mp h).1
theorem xtb_in {ws : List Cond} (h : ∀ w ∈ ws, w ∈ xTB) : GoodIn xTB ws := fun w hw => ⟨h w hw, good_of_word (xtb_good (h w hw))⟩
/-- the words that hold in every warmer state, by another way -/
def xnw (w : Cond) : Bool := match w with
  | .castable .. => true
  | .methodLinkNest .. => true
  | .declares .. => true
  | _ => false
def xTN : List Cond := lw_tbl.filter xnw
theorem xtn_of {N : Nat} {w : Cond} (h : lw_tbl[N]? = some w) (hg : xnw w = true) : w ∈ xTN := List.mem_filter.mpr ⟨List.mem_of_getElem? h, hg⟩
theorem xtn_warm {w : Cond} {s U : State} (hg : xnw w = true) (hW : s.WarmedH U.vm) (h : va_Nw w s) : va_Nw w U := by
  cases w <;> first | exact va_Nw.warmC hW h | exact va_Nw.warmM hW h | exact va_Nw.warmD hW h | cases hg
theorem xtn_ot {w : Cond} (hg : xnw w = true) : w.onTables = true := by
  cases w <;> first | rfl | cases hg
end
section
theorem tb0 : (Jvm.Cond.selects "java/lang/Throwable" ({ cls := "java/lang/Throwable", name := "fillInStackTrace", desc := "(I)Ljava/lang/Throwable;" } : Jvm.MethodName) ({ cls := "java/lang/Throwable", name := "fillInStackTrace", desc := "(I)Ljava/lang/Throwable;" } : Jvm.MethodName)) ∈ xTB := xtb_of (N := 0) (by decide +kernel) (by decide +kernel)
theorem tb1 : (Jvm.Cond.selects "java/util/ArrayList" ({ cls := "java/util/ArrayList", name := "add", desc := "(Ljava/lang/Object;[Ljava/lang/Object;I)V" } : Jvm.MethodName) ({ cls := "java/util/ArrayList", name := "add", desc := "(Ljava/lang/Object;[Ljava/lang/Object;I)V" } : Jvm.MethodName)) ∈ xTB := xtb_of (N := 1) (by decide +kernel) (by decide +kernel)
theorem tb2 : (Jvm.Cond.selects "java/util/ArrayList" ({ cls := "java/util/ArrayList", name := "grow", desc := "()[Ljava/lang/Object;" } : Jvm.MethodName) ({ cls := "java/util/ArrayList", name := "grow", desc := "()[Ljava/lang/Object;" } : Jvm.MethodName)) ∈ xTB := xtb_of (N := 2) (by decide +kernel) (by decide +kernel)
theorem tb3 : (Jvm.Cond.selects "java/util/ArrayList" ({ cls := "java/util/ArrayList", name := "grow", desc := "(I)[Ljava/lang/Object;" } : Jvm.MethodName) ({ cls := "java/util/ArrayList", name := "grow", desc := "(I)[Ljava/lang/Object;" } : Jvm.MethodName)) ∈ xTB := xtb_of (N := 3) (by decide +kernel) (by decide +kernel)
theorem tb4 : (Jvm.Cond.selects "ReceivablesBook" ({ cls := "ReceivablesBook", name := "customerAt", desc := "(I)LReceivablesBook$Customer;" } : Jvm.MethodName) ({ cls := "ReceivablesBook", name := "customerAt", desc := "(I)LReceivablesBook$Customer;" } : Jvm.MethodName)) ∈ xTB := xtb_of (N := 4) (by decide +kernel) (by decide +kernel)
theorem tb5 : (Jvm.Cond.selects "ReceivablesBook" ({ cls := "ReceivablesBook", name := "passOneDay", desc := "()V" } : Jvm.MethodName) ({ cls := "ReceivablesBook", name := "passOneDay", desc := "()V" } : Jvm.MethodName)) ∈ xTB := xtb_of (N := 5) (by decide +kernel) (by decide +kernel)
theorem tb6 : (Jvm.Cond.selects "ReceivablesBook$Invoice" ({ cls := "ReceivablesBook$Invoice", name := "canBeReminded", desc := "()Z" } : Jvm.MethodName) ({ cls := "ReceivablesBook$Invoice", name := "canBeReminded", desc := "()Z" } : Jvm.MethodName)) ∈ xTB := xtb_of (N := 6) (by decide +kernel) (by decide +kernel)
theorem tb7 : (Jvm.Cond.selects "ReceivablesBook$Invoice" ({ cls := "ReceivablesBook$Invoice", name := "waitOfLevel", desc := "()I" } : Jvm.MethodName) ({ cls := "ReceivablesBook$Invoice", name := "waitOfLevel", desc := "()I" } : Jvm.MethodName)) ∈ xTB := xtb_of (N := 7) (by decide +kernel) (by decide +kernel)
theorem tb8 : (Jvm.Cond.selects "ReceivablesBook" ({ cls := "ReceivablesBook", name := "enterInvoice", desc := "(LReceivablesBook$Invoice;)I" } : Jvm.MethodName) ({ cls := "ReceivablesBook", name := "enterInvoice", desc := "(LReceivablesBook$Invoice;)I" } : Jvm.MethodName)) ∈ xTB := xtb_of (N := 8) (by decide +kernel) (by decide +kernel)
theorem tb9 : (Jvm.Cond.selects "ReceivablesBook$Ledger" ({ cls := "ReceivablesBook$Ledger", name := "doubleRoom", desc := "()V" } : Jvm.MethodName) ({ cls := "ReceivablesBook$Ledger", name := "doubleRoom", desc := "()V" } : Jvm.MethodName)) ∈ xTB := xtb_of (N := 9) (by decide +kernel) (by decide +kernel)
theorem tb10 : (Jvm.Cond.selects "ReceivablesBook" ({ cls := "ReceivablesBook", name := "allocateByRule", desc := "(LReceivablesBook$Payment;)I" } : Jvm.MethodName) ({ cls := "ReceivablesBook", name := "allocateByRule", desc := "(LReceivablesBook$Payment;)I" } : Jvm.MethodName)) ∈ xTB := xtb_of (N := 10) (by decide +kernel) (by decide +kernel)
theorem tb11 : (Jvm.Cond.selects "ReceivablesBook" ({ cls := "ReceivablesBook", name := "weighClearAmounts", desc := "(LReceivablesBook$Customer;)V" } : Jvm.MethodName) ({ cls := "ReceivablesBook", name := "weighClearAmounts", desc := "(LReceivablesBook$Customer;)V" } : Jvm.MethodName)) ∈ xTB := xtb_of (N := 11) (by decide +kernel) (by decide +kernel)
theorem tb12 : (Jvm.Cond.selects "ReceivablesBook" ({ cls := "ReceivablesBook", name := "shareOldestFirst", desc := "(I)V" } : Jvm.MethodName) ({ cls := "ReceivablesBook", name := "shareOldestFirst", desc := "(I)V" } : Jvm.MethodName)) ∈ xTB := xtb_of (N := 12) (by decide +kernel) (by decide +kernel)
theorem tb13 : (Jvm.Cond.selects "ReceivablesBook" ({ cls := "ReceivablesBook", name := "oldestWithoutPart", desc := "()I" } : Jvm.MethodName) ({ cls := "ReceivablesBook", name := "oldestWithoutPart", desc := "()I" } : Jvm.MethodName)) ∈ xTB := xtb_of (N := 13) (by decide +kernel) (by decide +kernel)
theorem tb14 : (Jvm.Cond.selects "ReceivablesBook$Shares" ({ cls := "ReceivablesBook$Shares", name := "giveCentToGreatestRemainder", desc := "()V" } : Jvm.MethodName) ({ cls := "ReceivablesBook$Shares", name := "giveCentToGreatestRemainder", desc := "()V" } : Jvm.MethodName)) ∈ xTB := xtb_of (N := 14) (by decide +kernel) (by decide +kernel)
theorem tb15 : (Jvm.Cond.selects "ReceivablesBook" ({ cls := "ReceivablesBook", name := "moveToInvoice", desc := "(LReceivablesBook$Payment;II)V" } : Jvm.MethodName) ({ cls := "ReceivablesBook", name := "moveToInvoice", desc := "(LReceivablesBook$Payment;II)V" } : Jvm.MethodName)) ∈ xTB := xtb_of (N := 15) (by decide +kernel) (by decide +kernel)
theorem tb16 : (Jvm.Cond.selects "ReceivablesBook$Invoice" ({ cls := "ReceivablesBook$Invoice", name := "forgetRemindersIfPaid", desc := "()V" } : Jvm.MethodName) ({ cls := "ReceivablesBook$Invoice", name := "forgetRemindersIfPaid", desc := "()V" } : Jvm.MethodName)) ∈ xTB := xtb_of (N := 16) (by decide +kernel) (by decide +kernel)
theorem tb17 : (Jvm.Cond.selects "ReceivablesBook" ({ cls := "ReceivablesBook", name := "paymentAt", desc := "(I)LReceivablesBook$Payment;" } : Jvm.MethodName) ({ cls := "ReceivablesBook", name := "paymentAt", desc := "(I)LReceivablesBook$Payment;" } : Jvm.MethodName)) ∈ xTB := xtb_of (N := 17) (by decide +kernel) (by decide +kernel)
theorem tb18 : (Jvm.Cond.selects "ReceivablesBook" ({ cls := "ReceivablesBook", name := "invoiceAt", desc := "(I)LReceivablesBook$Invoice;" } : Jvm.MethodName) ({ cls := "ReceivablesBook", name := "invoiceAt", desc := "(I)LReceivablesBook$Invoice;" } : Jvm.MethodName)) ∈ xTB := xtb_of (N := 18) (by decide +kernel) (by decide +kernel)
theorem tb19 : (Jvm.Cond.selects "ReceivablesBook" ({ cls := "ReceivablesBook", name := "takeBack", desc := "(LReceivablesBook$Payment;I)I" } : Jvm.MethodName) ({ cls := "ReceivablesBook", name := "takeBack", desc := "(LReceivablesBook$Payment;I)I" } : Jvm.MethodName)) ∈ xTB := xtb_of (N := 19) (by decide +kernel) (by decide +kernel)
theorem tb20 : (Jvm.Cond.selects "ReceivablesBook" ({ cls := "ReceivablesBook", name := "accruedOfAll", desc := "(LReceivablesBook$Customer;)I" } : Jvm.MethodName) ({ cls := "ReceivablesBook", name := "accruedOfAll", desc := "(LReceivablesBook$Customer;)I" } : Jvm.MethodName)) ∈ xTB := xtb_of (N := 20) (by decide +kernel) (by decide +kernel)
theorem tb21 : (Jvm.Cond.selects "ReceivablesBookModel" ({ cls := "ReceivablesBookModel", name := "refused", desc := "(I)Z" } : Jvm.MethodName) ({ cls := "ReceivablesBookModel", name := "refused", desc := "(I)Z" } : Jvm.MethodName)) ∈ xTB := xtb_of (N := 21) (by decide +kernel) (by decide +kernel)
theorem tb22 : (Jvm.Cond.selects "ReceivablesBookModel" ({ cls := "ReceivablesBookModel", name := "isCustomer", desc := "(I)Z" } : Jvm.MethodName) ({ cls := "ReceivablesBookModel", name := "isCustomer", desc := "(I)Z" } : Jvm.MethodName)) ∈ xTB := xtb_of (N := 22) (by decide +kernel) (by decide +kernel)
theorem tb23 : (Jvm.Cond.selects "ReceivablesBookModel" ({ cls := "ReceivablesBookModel", name := "told", desc := "(I)I" } : Jvm.MethodName) ({ cls := "ReceivablesBookModel", name := "told", desc := "(I)I" } : Jvm.MethodName)) ∈ xTB := xtb_of (N := 23) (by decide +kernel) (by decide +kernel)
theorem tb24 : (Jvm.Cond.selects "ReceivablesBookModel" ({ cls := "ReceivablesBookModel", name := "passDay", desc := "()V" } : Jvm.MethodName) ({ cls := "ReceivablesBookModel", name := "passDay", desc := "()V" } : Jvm.MethodName)) ∈ xTB := xtb_of (N := 24) (by decide +kernel) (by decide +kernel)
theorem tb25 : (Jvm.Cond.selects "ReceivablesBookModel" ({ cls := "ReceivablesBookModel", name := "clear", desc := "(I)I" } : Jvm.MethodName) ({ cls := "ReceivablesBookModel", name := "clear", desc := "(I)I" } : Jvm.MethodName)) ∈ xTB := xtb_of (N := 25) (by decide +kernel) (by decide +kernel)
theorem tb26 : (Jvm.Cond.selects "ReceivablesBookModel" ({ cls := "ReceivablesBookModel", name := "isReminded", desc := "(I)Z" } : Jvm.MethodName) ({ cls := "ReceivablesBookModel", name := "isReminded", desc := "(I)Z" } : Jvm.MethodName)) ∈ xTB := xtb_of (N := 26) (by decide +kernel) (by decide +kernel)
theorem tb27 : (Jvm.Cond.selects "ReceivablesBookModel" ({ cls := "ReceivablesBookModel", name := "post", desc := "(IIIZ)I" } : Jvm.MethodName) ({ cls := "ReceivablesBookModel", name := "post", desc := "(IIIZ)I" } : Jvm.MethodName)) ∈ xTB := xtb_of (N := 27) (by decide +kernel) (by decide +kernel)
theorem tb28 : (Jvm.Cond.selects "ReceivablesBookModel" ({ cls := "ReceivablesBookModel", name := "write", desc := "(II)V" } : Jvm.MethodName) ({ cls := "ReceivablesBookModel", name := "write", desc := "(II)V" } : Jvm.MethodName)) ∈ xTB := xtb_of (N := 28) (by decide +kernel) (by decide +kernel)
theorem tb29 : (Jvm.Cond.selects "ReceivablesBookModel" ({ cls := "ReceivablesBookModel", name := "allocateByRule", desc := "(I)I" } : Jvm.MethodName) ({ cls := "ReceivablesBookModel", name := "allocateByRule", desc := "(I)I" } : Jvm.MethodName)) ∈ xTB := xtb_of (N := 29) (by decide +kernel) (by decide +kernel)
theorem tb30 : (Jvm.Cond.selects "ReceivablesBookModel" ({ cls := "ReceivablesBookModel", name := "share", desc := "(II)V" } : Jvm.MethodName) ({ cls := "ReceivablesBookModel", name := "share", desc := "(II)V" } : Jvm.MethodName)) ∈ xTB := xtb_of (N := 30) (by decide +kernel) (by decide +kernel)
theorem tb31 : (Jvm.Cond.selects "ReceivablesBookModel" ({ cls := "ReceivablesBookModel", name := "clearOf", desc := "(I)J" } : Jvm.MethodName) ({ cls := "ReceivablesBookModel", name := "clearOf", desc := "(I)J" } : Jvm.MethodName)) ∈ xTB := xtb_of (N := 31) (by decide +kernel) (by decide +kernel)
theorem tb32 : (Jvm.Cond.selects "ReceivablesBookModel" ({ cls := "ReceivablesBookModel", name := "split", desc := "(II)V" } : Jvm.MethodName) ({ cls := "ReceivablesBookModel", name := "split", desc := "(II)V" } : Jvm.MethodName)) ∈ xTB := xtb_of (N := 32) (by decide +kernel) (by decide +kernel)
theorem tb33 : (Jvm.Cond.selects "ReceivablesBookModel" ({ cls := "ReceivablesBookModel", name := "fromOldest", desc := "(III)I" } : Jvm.MethodName) ({ cls := "ReceivablesBookModel", name := "fromOldest", desc := "(III)I" } : Jvm.MethodName)) ∈ xTB := xtb_of (N := 33) (by decide +kernel) (by decide +kernel)
theorem tb34 : (Jvm.Cond.selects "ReceivablesBookModel" ({ cls := "ReceivablesBookModel", name := "put", desc := "(III)V" } : Jvm.MethodName) ({ cls := "ReceivablesBookModel", name := "put", desc := "(III)V" } : Jvm.MethodName)) ∈ xTB := xtb_of (N := 34) (by decide +kernel) (by decide +kernel)
theorem tb35 : (Jvm.Cond.selects "ReceivablesBookModel" ({ cls := "ReceivablesBookModel", name := "isPayment", desc := "(I)Z" } : Jvm.MethodName) ({ cls := "ReceivablesBookModel", name := "isPayment", desc := "(I)Z" } : Jvm.MethodName)) ∈ xTB := xtb_of (N := 35) (by decide +kernel) (by decide +kernel)
theorem tb36 : (Jvm.Cond.selects "ReceivablesBookModel" ({ cls := "ReceivablesBookModel", name := "isInvoice", desc := "(I)Z" } : Jvm.MethodName) ({ cls := "ReceivablesBookModel", name := "isInvoice", desc := "(I)Z" } : Jvm.MethodName)) ∈ xTB := xtb_of (N := 36) (by decide +kernel) (by decide +kernel)
theorem tb37 : (Jvm.Cond.selects "ReceivablesBookModel" ({ cls := "ReceivablesBookModel", name := "noCustomer", desc := "(I)Z" } : Jvm.MethodName) ({ cls := "ReceivablesBookModel", name := "noCustomer", desc := "(I)Z" } : Jvm.MethodName)) ∈ xTB := xtb_of (N := 37) (by decide +kernel) (by decide +kernel)
theorem tb38 : (Jvm.Cond.selects "ReceivablesBookModel" ({ cls := "ReceivablesBookModel", name := "takeBack", desc := "(II)I" } : Jvm.MethodName) ({ cls := "ReceivablesBookModel", name := "takeBack", desc := "(II)I" } : Jvm.MethodName)) ∈ xTB := xtb_of (N := 38) (by decide +kernel) (by decide +kernel)
theorem tb39 : (Jvm.Cond.selects "ReceivablesBookModel" ({ cls := "ReceivablesBookModel", name := "accruedOf", desc := "(I)I" } : Jvm.MethodName) ({ cls := "ReceivablesBookModel", name := "accruedOf", desc := "(I)I" } : Jvm.MethodName)) ∈ xTB := xtb_of (N := 39) (by decide +kernel) (by decide +kernel)
theorem tb40 : (Jvm.Cond.selects "ReceivablesBookModel" ({ cls := "ReceivablesBookModel", name := "noInvoice", desc := "(I)Z" } : Jvm.MethodName) ({ cls := "ReceivablesBookModel", name := "noInvoice", desc := "(I)Z" } : Jvm.MethodName)) ∈ xTB := xtb_of (N := 40) (by decide +kernel) (by decide +kernel)
theorem tb41 : (Jvm.Cond.selects "ReceivablesBookModel" ({ cls := "ReceivablesBookModel", name := "bucket", desc := "(I)I" } : Jvm.MethodName) ({ cls := "ReceivablesBookModel", name := "bucket", desc := "(I)I" } : Jvm.MethodName)) ∈ xTB := xtb_of (N := 41) (by decide +kernel) (by decide +kernel)
theorem tb42 : (Jvm.Cond.selects "ReceivablesBookModel" ({ cls := "ReceivablesBookModel", name := "oldestOf", desc := "(I)I" } : Jvm.MethodName) ({ cls := "ReceivablesBookModel", name := "oldestOf", desc := "(I)I" } : Jvm.MethodName)) ∈ xTB := xtb_of (N := 42) (by decide +kernel) (by decide +kernel)
theorem tb43 : (Jvm.Cond.selects "ReceivablesBookModel" ({ cls := "ReceivablesBookModel", name := "noLine", desc := "(I)Z" } : Jvm.MethodName) ({ cls := "ReceivablesBookModel", name := "noLine", desc := "(I)Z" } : Jvm.MethodName)) ∈ xTB := xtb_of (N := 43) (by decide +kernel) (by decide +kernel)
theorem tb44 : (Jvm.Cond.initialized "ReceivablesBookLaw") ∈ xTB := xtb_of (N := 44) (by decide +kernel) (by decide +kernel)
theorem tb45 : (Jvm.Cond.initialized "ReceivablesBook") ∈ xTB := xtb_of (N := 45) (by decide +kernel) (by decide +kernel)
theorem tb46 : (Jvm.Cond.initialized "java/util/AbstractCollection") ∈ xTB := xtb_of (N := 46) (by decide +kernel) (by decide +kernel)
theorem tb47 : (Jvm.Cond.initialized "java/util/AbstractList") ∈ xTB := xtb_of (N := 47) (by decide +kernel) (by decide +kernel)
theorem tb48 : (Jvm.Cond.initialized "java/util/ArrayList") ∈ xTB := xtb_of (N := 48) (by decide +kernel) (by decide +kernel)
theorem tb49 : (Jvm.Cond.initialized "ReceivablesBook$Ledger") ∈ xTB := xtb_of (N := 49) (by decide +kernel) (by decide +kernel)
theorem tb50 : (Jvm.Cond.initialized "ReceivablesBook$Shares") ∈ xTB := xtb_of (N := 50) (by decide +kernel) (by decide +kernel)
theorem tb51 : (Jvm.Cond.initialized "ReceivablesBookModel") ∈ xTB := xtb_of (N := 51) (by decide +kernel) (by decide +kernel)
theorem tb52 : (Jvm.Cond.initialized "java/lang/Throwable") ∈ xTB := xtb_of (N := 52) (by decide +kernel) (by decide +kernel)
theorem tb53 : (Jvm.Cond.initialized "java/lang/Exception") ∈ xTB := xtb_of (N := 53) (by decide +kernel) (by decide +kernel)
theorem tb54 : (Jvm.Cond.initialized "java/lang/RuntimeException") ∈ xTB := xtb_of (N := 54) (by decide +kernel) (by decide +kernel)
theorem tb55 : (Jvm.Cond.initialized "java/lang/IllegalArgumentException") ∈ xTB := xtb_of (N := 55) (by decide +kernel) (by decide +kernel)
theorem tb56 : (Jvm.Cond.initialized "java/lang/IllegalStateException") ∈ xTB := xtb_of (N := 56) (by decide +kernel) (by decide +kernel)
theorem tb57 : (Jvm.Cond.initialized "ReceivablesBook$Customer") ∈ xTB := xtb_of (N := 57) (by decide +kernel) (by decide +kernel)
theorem tb58 : (Jvm.Cond.initialized "jdk/internal/util/ArraysSupport") ∈ xTB := xtb_of (N := 58) (by decide +kernel) (by decide +kernel)
theorem tb59 : (Jvm.Cond.initialized "java/lang/Math") ∈ xTB := xtb_of (N := 59) (by decide +kernel) (by decide +kernel)
theorem tb60 : (Jvm.Cond.initialized "java/util/Arrays") ∈ xTB := xtb_of (N := 60) (by decide +kernel) (by decide +kernel)
theorem tb61 : (Jvm.Cond.initialized "java/lang/System") ∈ xTB := xtb_of (N := 61) (by decide +kernel) (by decide +kernel)
theorem tb62 : (Jvm.Cond.initialized "java/lang/IndexOutOfBoundsException") ∈ xTB := xtb_of (N := 62) (by decide +kernel) (by decide +kernel)
theorem tb63 : (Jvm.Cond.initialized "java/util/Objects") ∈ xTB := xtb_of (N := 63) (by decide +kernel) (by decide +kernel)
theorem tb64 : (Jvm.Cond.initialized "jdk/internal/util/Preconditions") ∈ xTB := xtb_of (N := 64) (by decide +kernel) (by decide +kernel)
theorem tb65 : (Jvm.Cond.initialized "ReceivablesBook$DayCount") ∈ xTB := xtb_of (N := 65) (by decide +kernel) (by decide +kernel)
theorem tb66 : (Jvm.Cond.initialized "ReceivablesBook$Invoice") ∈ xTB := xtb_of (N := 66) (by decide +kernel) (by decide +kernel)
theorem tb67 : (Jvm.Cond.initialized "ReceivablesBook$Payment") ∈ xTB := xtb_of (N := 67) (by decide +kernel) (by decide +kernel)
theorem tb68 : (Jvm.Cond.classLink "ReceivablesBookLaw" (8 : Nat) "ReceivablesBook") ∈ xTB := xtb_of (N := 68) (by decide +kernel) (by decide +kernel)
theorem tb69 : (Jvm.Cond.instantiable "ReceivablesBook" (6 : Nat)) ∈ xTB := xtb_of (N := 69) (by decide +kernel) (by decide +kernel)
theorem tb70 : (Jvm.Cond.methodLink "ReceivablesBookLaw" (121 : Nat) ({ cls := "ReceivablesBook", name := "<init>", desc := "()V" } : Jvm.MethodName)) ∈ xTB := xtb_of (N := 70) (by decide +kernel) (by decide +kernel)
theorem tb71 : (Jvm.Cond.instanceMethod ({ cls := "ReceivablesBook", name := "<init>", desc := "()V" } : Jvm.MethodName)) ∈ xTB := xtb_of (N := 71) (by decide +kernel) (by decide +kernel)
theorem tb72 : (Jvm.Cond.code ({ cls := "ReceivablesBook", name := "<init>", desc := "()V" } : Jvm.MethodName) prog_1_method_1_code (1 : Nat) (Option.none : Option Jvm.ClassFile.FieldType)) ∈ xTB := xtb_of (N := 72) (by decide +kernel) (by decide +kernel)
theorem tb73 : (Jvm.Cond.methodLink "ReceivablesBook" (1 : Nat) ({ cls := "java/lang/Object", name := "<init>", desc := "()V" } : Jvm.MethodName)) ∈ xTB := xtb_of (N := 73) (by decide +kernel) (by decide +kernel)
theorem tb74 : (Jvm.Cond.instanceMethod ({ cls := "java/lang/Object", name := "<init>", desc := "()V" } : Jvm.MethodName)) ∈ xTB := xtb_of (N := 74) (by decide +kernel) (by decide +kernel)
theorem tb75 : (Jvm.Cond.code ({ cls := "java/lang/Object", name := "<init>", desc := "()V" } : Jvm.MethodName) object_method_1_code (1 : Nat) (Option.none : Option Jvm.ClassFile.FieldType)) ∈ xTB := xtb_of (N := 75) (by decide +kernel) (by decide +kernel)
theorem tb76 : (Jvm.Cond.classLink "ReceivablesBook" (7 : Nat) "java/util/ArrayList") ∈ xTB := xtb_of (N := 76) (by decide +kernel) (by decide +kernel)
theorem tb77 : (Jvm.Cond.instantiable "java/util/ArrayList" (3 : Nat)) ∈ xTB := xtb_of (N := 77) (by decide +kernel) (by decide +kernel)
theorem tb78 : (Jvm.Cond.methodLink "ReceivablesBook" (9 : Nat) ({ cls := "java/util/ArrayList", name := "<init>", desc := "()V" } : Jvm.MethodName)) ∈ xTB := xtb_of (N := 78) (by decide +kernel) (by decide +kernel)
theorem tb79 : (Jvm.Cond.instanceMethod ({ cls := "java/util/ArrayList", name := "<init>", desc := "()V" } : Jvm.MethodName)) ∈ xTB := xtb_of (N := 79) (by decide +kernel) (by decide +kernel)
theorem tb80 : (Jvm.Cond.code ({ cls := "java/util/ArrayList", name := "<init>", desc := "()V" } : Jvm.MethodName) prog_24_method_2_code (1 : Nat) (Option.none : Option Jvm.ClassFile.FieldType)) ∈ xTB := xtb_of (N := 80) (by decide +kernel) (by decide +kernel)
theorem tb81 : (Jvm.Cond.methodLink "java/util/ArrayList" (1 : Nat) ({ cls := "java/util/AbstractList", name := "<init>", desc := "()V" } : Jvm.MethodName)) ∈ xTB := xtb_of (N := 81) (by decide +kernel) (by decide +kernel)
theorem tb82 : (Jvm.Cond.instanceMethod ({ cls := "java/util/AbstractList", name := "<init>", desc := "()V" } : Jvm.MethodName)) ∈ xTB := xtb_of (N := 82) (by decide +kernel) (by decide +kernel)
theorem tb83 : (Jvm.Cond.code ({ cls := "java/util/AbstractList", name := "<init>", desc := "()V" } : Jvm.MethodName) prog_23_method_1_code (1 : Nat) (Option.none : Option Jvm.ClassFile.FieldType)) ∈ xTB := xtb_of (N := 83) (by decide +kernel) (by decide +kernel)
theorem tb84 : (Jvm.Cond.methodLink "java/util/AbstractList" (1 : Nat) ({ cls := "java/util/AbstractCollection", name := "<init>", desc := "()V" } : Jvm.MethodName)) ∈ xTB := xtb_of (N := 84) (by decide +kernel) (by decide +kernel)
theorem tb85 : (Jvm.Cond.instanceMethod ({ cls := "java/util/AbstractCollection", name := "<init>", desc := "()V" } : Jvm.MethodName)) ∈ xTB := xtb_of (N := 85) (by decide +kernel) (by decide +kernel)
theorem tb86 : (Jvm.Cond.code ({ cls := "java/util/AbstractCollection", name := "<init>", desc := "()V" } : Jvm.MethodName) prog_22_method_1_code (1 : Nat) (Option.none : Option Jvm.ClassFile.FieldType)) ∈ xTB := xtb_of (N := 86) (by decide +kernel) (by decide +kernel)
theorem tb87 : (Jvm.Cond.methodLink "java/util/AbstractCollection" (1 : Nat) ({ cls := "java/lang/Object", name := "<init>", desc := "()V" } : Jvm.MethodName)) ∈ xTB := xtb_of (N := 87) (by decide +kernel) (by decide +kernel)
theorem tb88 : (Jvm.Cond.fieldLink "java/util/ArrayList" (39 : Nat) "java/util/ArrayList" "DEFAULTCAPACITY_EMPTY_ELEMENTDATA" "[Ljava/lang/Object;") ∈ xTB := xtb_of (N := 88) (by decide +kernel) (by decide +kernel)
theorem tb90 : (Jvm.Cond.fieldLink "java/util/ArrayList" (9 : Nat) "java/util/ArrayList" "elementData" "[Ljava/lang/Object;") ∈ xTB := xtb_of (N := 90) (by decide +kernel) (by decide +kernel)
theorem tb91 : (Jvm.Cond.fieldLink "java/util/ArrayList" (48 : Nat) "java/util/ArrayList" "size" "I") ∈ xTB := xtb_of (N := 91) (by decide +kernel) (by decide +kernel)
theorem tb92 : (Jvm.Cond.fieldLink "java/util/AbstractList" (7 : Nat) "java/util/AbstractList" "modCount" "I") ∈ xTB := xtb_of (N := 92) (by decide +kernel) (by decide +kernel)
theorem tb93 : (Jvm.Cond.fieldLink "java/util/ArrayList" (63 : Nat) "java/util/ArrayList" "modCount" "I") ∈ xTB := xtb_of (N := 93) (by decide +kernel) (by decide +kernel)
theorem tb94 : (Jvm.Cond.sameField "java/util/ArrayList" "java/util/AbstractList" "modCount" "I") ∈ xTB := xtb_of (N := 94) (by decide +kernel) (by decide +kernel)
theorem tb102 : (Jvm.Cond.classLink "ReceivablesBook" (22 : Nat) "ReceivablesBook$Ledger") ∈ xTB := xtb_of (N := 102) (by decide +kernel) (by decide +kernel)
theorem tb103 : (Jvm.Cond.instantiable "ReceivablesBook$Ledger" (3 : Nat)) ∈ xTB := xtb_of (N := 103) (by decide +kernel) (by decide +kernel)
theorem tb104 : (Jvm.Cond.methodLinkNest "ReceivablesBook" (24 : Nat) ({ cls := "ReceivablesBook$Ledger", name := "<init>", desc := "()V" } : Jvm.MethodName) "ReceivablesBook") ∈ xTN := xtn_of (N := 104) (by decide +kernel) (by decide +kernel)
theorem tb105 : (Jvm.Cond.instanceMethod ({ cls := "ReceivablesBook$Ledger", name := "<init>", desc := "()V" } : Jvm.MethodName)) ∈ xTB := xtb_of (N := 105) (by decide +kernel) (by decide +kernel)
theorem tb106 : (Jvm.Cond.code ({ cls := "ReceivablesBook$Ledger", name := "<init>", desc := "()V" } : Jvm.MethodName) prog_5_method_1_code (1 : Nat) (Option.none : Option Jvm.ClassFile.FieldType)) ∈ xTB := xtb_of (N := 106) (by decide +kernel) (by decide +kernel)
theorem tb107 : (Jvm.Cond.methodLink "ReceivablesBook$Ledger" (1 : Nat) ({ cls := "java/lang/Object", name := "<init>", desc := "()V" } : Jvm.MethodName)) ∈ xTB := xtb_of (N := 107) (by decide +kernel) (by decide +kernel)
theorem tb108 : (Jvm.Cond.fieldLink "ReceivablesBook$Ledger" (16 : Nat) "ReceivablesBook$Ledger" "count" "I") ∈ xTB := xtb_of (N := 108) (by decide +kernel) (by decide +kernel)
theorem tb109 : (Jvm.Cond.fieldLink "ReceivablesBook" (246 : Nat) "ReceivablesBook$Ledger" "count" "I") ∈ xTB := xtb_of (N := 109) (by decide +kernel) (by decide +kernel)
theorem tb110 : (Jvm.Cond.fieldLink "ReceivablesBook$Ledger" (9 : Nat) "ReceivablesBook$Ledger" "invoiceNumbers" "[I") ∈ xTB := xtb_of (N := 110) (by decide +kernel) (by decide +kernel)
theorem tb111 : (Jvm.Cond.fieldLink "ReceivablesBook$Ledger" (13 : Nat) "ReceivablesBook$Ledger" "amounts" "[I") ∈ xTB := xtb_of (N := 111) (by decide +kernel) (by decide +kernel)
theorem tb119 : (Jvm.Cond.arrayClass Jvm.ClassFile.FieldType.int) ∈ xTB := xtb_of (N := 119) (by decide +kernel) (by decide +kernel)
theorem tb120 : (Jvm.Cond.classLink "ReceivablesBook" (29 : Nat) "ReceivablesBook$Shares") ∈ xTB := xtb_of (N := 120) (by decide +kernel) (by decide +kernel)
theorem tb121 : (Jvm.Cond.instantiable "ReceivablesBook$Shares" (3 : Nat)) ∈ xTB := xtb_of (N := 121) (by decide +kernel) (by decide +kernel)
theorem tb122 : (Jvm.Cond.methodLinkNest "ReceivablesBook" (31 : Nat) ({ cls := "ReceivablesBook$Shares", name := "<init>", desc := "()V" } : Jvm.MethodName) "ReceivablesBook") ∈ xTN := xtn_of (N := 122) (by decide +kernel) (by decide +kernel)
theorem tb123 : (Jvm.Cond.instanceMethod ({ cls := "ReceivablesBook$Shares", name := "<init>", desc := "()V" } : Jvm.MethodName)) ∈ xTB := xtb_of (N := 123) (by decide +kernel) (by decide +kernel)
theorem tb124 : (Jvm.Cond.code ({ cls := "ReceivablesBook$Shares", name := "<init>", desc := "()V" } : Jvm.MethodName) prog_7_method_1_code (1 : Nat) (Option.none : Option Jvm.ClassFile.FieldType)) ∈ xTB := xtb_of (N := 124) (by decide +kernel) (by decide +kernel)
theorem tb125 : (Jvm.Cond.methodLink "ReceivablesBook$Shares" (3 : Nat) ({ cls := "java/lang/Object", name := "<init>", desc := "()V" } : Jvm.MethodName)) ∈ xTB := xtb_of (N := 125) (by decide +kernel) (by decide +kernel)
theorem tb126 : (Jvm.Cond.fieldLink "ReceivablesBook$Shares" (9 : Nat) "ReceivablesBook$Shares" "weights" "[I") ∈ xTB := xtb_of (N := 126) (by decide +kernel) (by decide +kernel)
theorem tb127 : (Jvm.Cond.fieldLink "ReceivablesBook$Shares" (15 : Nat) "ReceivablesBook$Shares" "parts" "[I") ∈ xTB := xtb_of (N := 127) (by decide +kernel) (by decide +kernel)
theorem tb128 : (Jvm.Cond.fieldLink "ReceivablesBook$Shares" (18 : Nat) "ReceivablesBook$Shares" "remainders" "[J") ∈ xTB := xtb_of (N := 128) (by decide +kernel) (by decide +kernel)
theorem tb136 : (Jvm.Cond.arrayClass Jvm.ClassFile.FieldType.long) ∈ xTB := xtb_of (N := 136) (by decide +kernel) (by decide +kernel)
theorem tb137 : (Jvm.Cond.fieldLink "ReceivablesBook" (10 : Nat) "ReceivablesBook" "customerList" "Ljava/util/ArrayList;") ∈ xTB := xtb_of (N := 137) (by decide +kernel) (by decide +kernel)
theorem tb138 : (Jvm.Cond.fieldLink "ReceivablesBook" (16 : Nat) "ReceivablesBook" "invoiceList" "Ljava/util/ArrayList;") ∈ xTB := xtb_of (N := 138) (by decide +kernel) (by decide +kernel)
theorem tb139 : (Jvm.Cond.fieldLink "ReceivablesBook" (19 : Nat) "ReceivablesBook" "paymentList" "Ljava/util/ArrayList;") ∈ xTB := xtb_of (N := 139) (by decide +kernel) (by decide +kernel)
theorem tb140 : (Jvm.Cond.fieldLink "ReceivablesBook" (25 : Nat) "ReceivablesBook" "ledger" "LReceivablesBook$Ledger;") ∈ xTB := xtb_of (N := 140) (by decide +kernel) (by decide +kernel)
theorem tb141 : (Jvm.Cond.fieldLink "ReceivablesBook" (32 : Nat) "ReceivablesBook" "shares" "LReceivablesBook$Shares;") ∈ xTB := xtb_of (N := 141) (by decide +kernel) (by decide +kernel)
theorem tb142 : (Jvm.Cond.fieldLink "ReceivablesBook" (36 : Nat) "ReceivablesBook" "currentDay" "I") ∈ xTB := xtb_of (N := 142) (by decide +kernel) (by decide +kernel)
theorem tb156 : (Jvm.Cond.methodLink "ReceivablesBookLaw" (145 : Nat) ({ cls := "ReceivablesBook", name := "today", desc := "()I" } : Jvm.MethodName)) ∈ xTB := xtb_of (N := 156) (by decide +kernel) (by decide +kernel)
theorem tb157 : (Jvm.Cond.instanceMethod ({ cls := "ReceivablesBook", name := "today", desc := "()I" } : Jvm.MethodName)) ∈ xTB := xtb_of (N := 157) (by decide +kernel) (by decide +kernel)
theorem tb158 : (Jvm.Cond.selects "ReceivablesBook" ({ cls := "ReceivablesBook", name := "today", desc := "()I" } : Jvm.MethodName) ({ cls := "ReceivablesBook", name := "today", desc := "()I" } : Jvm.MethodName)) ∈ xTB := xtb_of (N := 158) (by decide +kernel) (by decide +kernel)
theorem tb159 : (Jvm.Cond.code ({ cls := "ReceivablesBook", name := "today", desc := "()I" } : Jvm.MethodName) prog_1_method_6_code (1 : Nat) (Option.some Jvm.ClassFile.FieldType.int)) ∈ xTB := xtb_of (N := 159) (by decide +kernel) (by decide +kernel)
theorem tb160 : (Jvm.Cond.methodLink "ReceivablesBookLaw" (192 : Nat) ({ cls := "ReceivablesBook", name := "customers", desc := "()I" } : Jvm.MethodName)) ∈ xTB := xtb_of (N := 160) (by decide +kernel) (by decide +kernel)
theorem tb161 : (Jvm.Cond.instanceMethod ({ cls := "ReceivablesBook", name := "customers", desc := "()I" } : Jvm.MethodName)) ∈ xTB := xtb_of (N := 161) (by decide +kernel) (by decide +kernel)
theorem tb162 : (Jvm.Cond.selects "ReceivablesBook" ({ cls := "ReceivablesBook", name := "customers", desc := "()I" } : Jvm.MethodName) ({ cls := "ReceivablesBook", name := "customers", desc := "()I" } : Jvm.MethodName)) ∈ xTB := xtb_of (N := 162) (by decide +kernel) (by decide +kernel)
theorem tb163 : (Jvm.Cond.code ({ cls := "ReceivablesBook", name := "customers", desc := "()I" } : Jvm.MethodName) prog_1_method_30_code (1 : Nat) (Option.some Jvm.ClassFile.FieldType.int)) ∈ xTB := xtb_of (N := 163) (by decide +kernel) (by decide +kernel)
theorem tb164 : (Jvm.Cond.methodLink "ReceivablesBook" (44 : Nat) ({ cls := "java/util/ArrayList", name := "size", desc := "()I" } : Jvm.MethodName)) ∈ xTB := xtb_of (N := 164) (by decide +kernel) (by decide +kernel)
theorem tb165 : (Jvm.Cond.instanceMethod ({ cls := "java/util/ArrayList", name := "size", desc := "()I" } : Jvm.MethodName)) ∈ xTB := xtb_of (N := 165) (by decide +kernel) (by decide +kernel)
theorem tb166 : (Jvm.Cond.selects "java/util/ArrayList" ({ cls := "java/util/ArrayList", name := "size", desc := "()I" } : Jvm.MethodName) ({ cls := "java/util/ArrayList", name := "size", desc := "()I" } : Jvm.MethodName)) ∈ xTB := xtb_of (N := 166) (by decide +kernel) (by decide +kernel)
theorem tb167 : (Jvm.Cond.code ({ cls := "java/util/ArrayList", name := "size", desc := "()I" } : Jvm.MethodName) prog_24_method_8_code (1 : Nat) (Option.some Jvm.ClassFile.FieldType.int)) ∈ xTB := xtb_of (N := 167) (by decide +kernel) (by decide +kernel)
theorem tb168 : (Jvm.Cond.methodLink "ReceivablesBookLaw" (196 : Nat) ({ cls := "ReceivablesBook", name := "invoices", desc := "()I" } : Jvm.MethodName)) ∈ xTB := xtb_of (N := 168) (by decide +kernel) (by decide +kernel)
theorem tb169 : (Jvm.Cond.instanceMethod ({ cls := "ReceivablesBook", name := "invoices", desc := "()I" } : Jvm.MethodName)) ∈ xTB := xtb_of (N := 169) (by decide +kernel) (by decide +kernel)
theorem tb170 : (Jvm.Cond.selects "ReceivablesBook" ({ cls := "ReceivablesBook", name := "invoices", desc := "()I" } : Jvm.MethodName) ({ cls := "ReceivablesBook", name := "invoices", desc := "()I" } : Jvm.MethodName)) ∈ xTB := xtb_of (N := 170) (by decide +kernel) (by decide +kernel)
theorem tb171 : (Jvm.Cond.code ({ cls := "ReceivablesBook", name := "invoices", desc := "()I" } : Jvm.MethodName) prog_1_method_31_code (1 : Nat) (Option.some Jvm.ClassFile.FieldType.int)) ∈ xTB := xtb_of (N := 171) (by decide +kernel) (by decide +kernel)
theorem tb172 : (Jvm.Cond.methodLink "ReceivablesBookLaw" (200 : Nat) ({ cls := "ReceivablesBook", name := "payments", desc := "()I" } : Jvm.MethodName)) ∈ xTB := xtb_of (N := 172) (by decide +kernel) (by decide +kernel)
theorem tb173 : (Jvm.Cond.instanceMethod ({ cls := "ReceivablesBook", name := "payments", desc := "()I" } : Jvm.MethodName)) ∈ xTB := xtb_of (N := 173) (by decide +kernel) (by decide +kernel)
theorem tb174 : (Jvm.Cond.selects "ReceivablesBook" ({ cls := "ReceivablesBook", name := "payments", desc := "()I" } : Jvm.MethodName) ({ cls := "ReceivablesBook", name := "payments", desc := "()I" } : Jvm.MethodName)) ∈ xTB := xtb_of (N := 174) (by decide +kernel) (by decide +kernel)
theorem tb175 : (Jvm.Cond.code ({ cls := "ReceivablesBook", name := "payments", desc := "()I" } : Jvm.MethodName) prog_1_method_32_code (1 : Nat) (Option.some Jvm.ClassFile.FieldType.int)) ∈ xTB := xtb_of (N := 175) (by decide +kernel) (by decide +kernel)
theorem tb176 : (Jvm.Cond.methodLink "ReceivablesBookLaw" (246 : Nat) ({ cls := "ReceivablesBook", name := "ledgerLines", desc := "()I" } : Jvm.MethodName)) ∈ xTB := xtb_of (N := 176) (by decide +kernel) (by decide +kernel)
theorem tb177 : (Jvm.Cond.instanceMethod ({ cls := "ReceivablesBook", name := "ledgerLines", desc := "()I" } : Jvm.MethodName)) ∈ xTB := xtb_of (N := 177) (by decide +kernel) (by decide +kernel)
theorem tb178 : (Jvm.Cond.selects "ReceivablesBook" ({ cls := "ReceivablesBook", name := "ledgerLines", desc := "()I" } : Jvm.MethodName) ({ cls := "ReceivablesBook", name := "ledgerLines", desc := "()I" } : Jvm.MethodName)) ∈ xTB := xtb_of (N := 178) (by decide +kernel) (by decide +kernel)
theorem tb179 : (Jvm.Cond.code ({ cls := "ReceivablesBook", name := "ledgerLines", desc := "()I" } : Jvm.MethodName) prog_1_method_47_code (1 : Nat) (Option.some Jvm.ClassFile.FieldType.int)) ∈ xTB := xtb_of (N := 179) (by decide +kernel) (by decide +kernel)
theorem tb180 : (Jvm.Cond.methodLink "ReceivablesBookLaw" (125 : Nat) ({ cls := "ReceivablesBookLaw", name := "addCustomer", desc := "(LReceivablesBook;III[J)I" } : Jvm.MethodName)) ∈ xTB := xtb_of (N := 180) (by decide +kernel) (by decide +kernel)
theorem tb181 : (Jvm.Cond.static ({ cls := "ReceivablesBookLaw", name := "addCustomer", desc := "(LReceivablesBook;III[J)I" } : Jvm.MethodName)) ∈ xTB := xtb_of (N := 181) (by decide +kernel) (by decide +kernel)
theorem tb182 : (Jvm.Cond.codeWith ({ cls := "ReceivablesBookLaw", name := "addCustomer", desc := "(LReceivablesBook;III[J)I" } : Jvm.MethodName) method_3_code (6 : Nat) (Option.some Jvm.ClassFile.FieldType.int) [((0 : Nat), (12 : Nat), (15 : Nat), (13 : Nat)), ((0 : Nat), (12 : Nat), (19 : Nat), (15 : Nat))]) ∈ xTB := xtb_of (N := 182) (by decide +kernel) (by decide +kernel)
theorem tb183 : (Jvm.Cond.classLink "ReceivablesBookLaw" (13 : Nat) "java/lang/IllegalArgumentException") ∈ xTB := xtb_of (N := 183) (by decide +kernel) (by decide +kernel)
theorem tb184 : (Jvm.Cond.classLink "ReceivablesBookLaw" (15 : Nat) "java/lang/IllegalStateException") ∈ xTB := xtb_of (N := 184) (by decide +kernel) (by decide +kernel)
theorem tb185 : (Jvm.Cond.methodLink "ReceivablesBookLaw" (7 : Nat) ({ cls := "ReceivablesBook", name := "addCustomer", desc := "(III)I" } : Jvm.MethodName)) ∈ xTB := xtb_of (N := 185) (by decide +kernel) (by decide +kernel)
theorem tb186 : (Jvm.Cond.instanceMethod ({ cls := "ReceivablesBook", name := "addCustomer", desc := "(III)I" } : Jvm.MethodName)) ∈ xTB := xtb_of (N := 186) (by decide +kernel) (by decide +kernel)
theorem tb187 : (Jvm.Cond.selects "ReceivablesBook" ({ cls := "ReceivablesBook", name := "addCustomer", desc := "(III)I" } : Jvm.MethodName) ({ cls := "ReceivablesBook", name := "addCustomer", desc := "(III)I" } : Jvm.MethodName)) ∈ xTB := xtb_of (N := 187) (by decide +kernel) (by decide +kernel)
theorem tb188 : (Jvm.Cond.code ({ cls := "ReceivablesBook", name := "addCustomer", desc := "(III)I" } : Jvm.MethodName) prog_1_method_2_code (4 : Nat) (Option.some Jvm.ClassFile.FieldType.int)) ∈ xTB := xtb_of (N := 188) (by decide +kernel) (by decide +kernel)
theorem tb189 : (Jvm.Cond.methodLink "ReceivablesBook" (40 : Nat) ({ cls := "ReceivablesBook", name := "requireRange", desc := "(III)V" } : Jvm.MethodName)) ∈ xTB := xtb_of (N := 189) (by decide +kernel) (by decide +kernel)
theorem tb190 : (Jvm.Cond.static ({ cls := "ReceivablesBook", name := "requireRange", desc := "(III)V" } : Jvm.MethodName)) ∈ xTB := xtb_of (N := 190) (by decide +kernel) (by decide +kernel)
theorem tb191 : (Jvm.Cond.code ({ cls := "ReceivablesBook", name := "requireRange", desc := "(III)V" } : Jvm.MethodName) prog_1_method_54_code (3 : Nat) (Option.none : Option Jvm.ClassFile.FieldType)) ∈ xTB := xtb_of (N := 191) (by decide +kernel) (by decide +kernel)
theorem tb192 : (Jvm.Cond.classLink "ReceivablesBook" (262 : Nat) "java/lang/IllegalArgumentException") ∈ xTB := xtb_of (N := 192) (by decide +kernel) (by decide +kernel)
theorem tb193 : (Jvm.Cond.instantiable "java/lang/IllegalArgumentException" (6 : Nat)) ∈ xTB := xtb_of (N := 193) (by decide +kernel) (by decide +kernel)
theorem tb194 : (Jvm.Cond.castable "java/lang/IllegalArgumentException" "java/lang/IllegalArgumentException") ∈ xTN := xtn_of (N := 194) (by decide +kernel) (by decide +kernel)
theorem tb195 : (Jvm.Cond.declares ({ cls := "java/lang/RuntimeException", name := "<init>", desc := "()V" } : Jvm.MethodName)) ∈ xTN := xtn_of (N := 195) (by decide +kernel) (by decide +kernel)
theorem tb196 : (Jvm.Cond.declares ({ cls := "java/lang/RuntimeException", name := "<init>", desc := "(Ljava/lang/String;)V" } : Jvm.MethodName)) ∈ xTN := xtn_of (N := 196) (by decide +kernel) (by decide +kernel)
theorem tb197 : (Jvm.Cond.declares ({ cls := "java/lang/Exception", name := "<init>", desc := "()V" } : Jvm.MethodName)) ∈ xTN := xtn_of (N := 197) (by decide +kernel) (by decide +kernel)
theorem tb198 : (Jvm.Cond.declares ({ cls := "java/lang/Exception", name := "<init>", desc := "(Ljava/lang/String;)V" } : Jvm.MethodName)) ∈ xTN := xtn_of (N := 198) (by decide +kernel) (by decide +kernel)
theorem tb199 : (Jvm.Cond.declares ({ cls := "java/lang/Throwable", name := "<init>", desc := "()V" } : Jvm.MethodName)) ∈ xTN := xtn_of (N := 199) (by decide +kernel) (by decide +kernel)
theorem tb200 : (Jvm.Cond.declares ({ cls := "java/lang/Throwable", name := "<init>", desc := "(Ljava/lang/String;)V" } : Jvm.MethodName)) ∈ xTN := xtn_of (N := 200) (by decide +kernel) (by decide +kernel)
theorem tb201 : (Jvm.Cond.selects "java/lang/IllegalArgumentException" ({ cls := "java/lang/Throwable", name := "fillInStackTrace", desc := "(I)Ljava/lang/Throwable;" } : Jvm.MethodName) ({ cls := "java/lang/Throwable", name := "fillInStackTrace", desc := "(I)Ljava/lang/Throwable;" } : Jvm.MethodName)) ∈ xTB := xtb_of (N := 201) (by decide +kernel) (by decide +kernel)
theorem tb202 : (Jvm.Cond.selects "java/lang/IllegalArgumentException" ({ cls := "java/lang/Throwable", name := "fillInStackTrace", desc := "()Ljava/lang/Throwable;" } : Jvm.MethodName) ({ cls := "java/lang/Throwable", name := "fillInStackTrace", desc := "()Ljava/lang/Throwable;" } : Jvm.MethodName)) ∈ xTB := xtb_of (N := 202) (by decide +kernel) (by decide +kernel)
theorem tb213 : (Jvm.Cond.fieldLink "java/lang/Throwable" (198 : Nat) "java/lang/Throwable" "backtrace" "Ljava/lang/Object;") ∈ xTB := xtb_of (N := 213) (by decide +kernel) (by decide +kernel)
theorem tb215 : (Jvm.Cond.instanceMethod ({ cls := "java/lang/Throwable", name := "<init>", desc := "()V" } : Jvm.MethodName)) ∈ xTB := xtb_of (N := 215) (by decide +kernel) (by decide +kernel)
theorem tb216 : (Jvm.Cond.code ({ cls := "java/lang/Throwable", name := "<init>", desc := "()V" } : Jvm.MethodName) prog_21_method_1_code (1 : Nat) (Option.none : Option Jvm.ClassFile.FieldType)) ∈ xTB := xtb_of (N := 216) (by decide +kernel) (by decide +kernel)
theorem tb217 : (Jvm.Cond.methodLink "java/lang/Throwable" (1 : Nat) ({ cls := "java/lang/Object", name := "<init>", desc := "()V" } : Jvm.MethodName)) ∈ xTB := xtb_of (N := 217) (by decide +kernel) (by decide +kernel)
theorem tb218 : (Jvm.Cond.fieldLink "java/lang/Throwable" (13 : Nat) "java/lang/Throwable" "UNASSIGNED_STACK" "[Ljava/lang/StackTraceElement;") ∈ xTB := xtb_of (N := 218) (by decide +kernel) (by decide +kernel)
theorem tb220 : (Jvm.Cond.fieldLink "java/lang/Throwable" (20 : Nat) "java/lang/Throwable" "SUPPRESSED_SENTINEL" "Ljava/util/List;") ∈ xTB := xtb_of (N := 220) (by decide +kernel) (by decide +kernel)
theorem tb222 : (Jvm.Cond.methodLink "java/lang/Throwable" (27 : Nat) ({ cls := "java/lang/Throwable", name := "fillInStackTrace", desc := "()Ljava/lang/Throwable;" } : Jvm.MethodName)) ∈ xTB := xtb_of (N := 222) (by decide +kernel) (by decide +kernel)
theorem tb223 : (Jvm.Cond.instanceMethod ({ cls := "java/lang/Throwable", name := "fillInStackTrace", desc := "()Ljava/lang/Throwable;" } : Jvm.MethodName)) ∈ xTB := xtb_of (N := 223) (by decide +kernel) (by decide +kernel)
theorem tb224 : (Jvm.Cond.sameMethod "java/lang/Throwable" "java/lang/Throwable" "fillInStackTrace" "()Ljava/lang/Throwable;") ∈ xTB := xtb_of (N := 224) (by decide +kernel) (by decide +kernel)
theorem tb225 : (Jvm.Cond.selects "java/lang/IllegalStateException" ({ cls := "java/lang/Throwable", name := "fillInStackTrace", desc := "()Ljava/lang/Throwable;" } : Jvm.MethodName) ({ cls := "java/lang/Throwable", name := "fillInStackTrace", desc := "()Ljava/lang/Throwable;" } : Jvm.MethodName)) ∈ xTB := xtb_of (N := 225) (by decide +kernel) (by decide +kernel)
theorem tb226 : (Jvm.Cond.selects "java/lang/IndexOutOfBoundsException" ({ cls := "java/lang/Throwable", name := "fillInStackTrace", desc := "()Ljava/lang/Throwable;" } : Jvm.MethodName) ({ cls := "java/lang/Throwable", name := "fillInStackTrace", desc := "()Ljava/lang/Throwable;" } : Jvm.MethodName)) ∈ xTB := xtb_of (N := 226) (by decide +kernel) (by decide +kernel)
theorem tb227 : (Jvm.Cond.codeSync ({ cls := "java/lang/Throwable", name := "fillInStackTrace", desc := "()Ljava/lang/Throwable;" } : Jvm.MethodName) prog_21_method_18_code (1 : Nat) (Option.some (Jvm.ClassFile.FieldType.object "java/lang/Throwable"))) ∈ xTB := xtb_of (N := 227) (by decide +kernel) (by decide +kernel)
theorem tb228 : (Jvm.Cond.methodLink "java/lang/Throwable" (202 : Nat) ({ cls := "java/lang/Throwable", name := "fillInStackTrace", desc := "(I)Ljava/lang/Throwable;" } : Jvm.MethodName)) ∈ xTB := xtb_of (N := 228) (by decide +kernel) (by decide +kernel)
theorem tb230 : (Jvm.Cond.instanceMethod ({ cls := "java/lang/Throwable", name := "fillInStackTrace", desc := "(I)Ljava/lang/Throwable;" } : Jvm.MethodName)) ∈ xTB := xtb_of (N := 230) (by decide +kernel) (by decide +kernel)
theorem tb231 : (Jvm.Cond.instantiable "java/lang/Throwable" (6 : Nat)) ∈ xTB := xtb_of (N := 231) (by decide +kernel) (by decide +kernel)
theorem tb232 : (Jvm.Cond.native ({ cls := "java/lang/Throwable", name := "fillInStackTrace", desc := "(I)Ljava/lang/Throwable;" } : Jvm.MethodName)) ∈ xTB := xtb_of (N := 232) (by decide +kernel) (by decide +kernel)
theorem tb234 : (Jvm.Cond.methodLink "ReceivablesBook" (266 : Nat) ({ cls := "java/lang/IllegalArgumentException", name := "<init>", desc := "(Ljava/lang/String;)V" } : Jvm.MethodName)) ∈ xTB := xtb_of (N := 234) (by decide +kernel) (by decide +kernel)
theorem tb235 : (Jvm.Cond.instanceMethod ({ cls := "java/lang/IllegalArgumentException", name := "<init>", desc := "(Ljava/lang/String;)V" } : Jvm.MethodName)) ∈ xTB := xtb_of (N := 235) (by decide +kernel) (by decide +kernel)
theorem tb236 : (Jvm.Cond.code ({ cls := "java/lang/IllegalArgumentException", name := "<init>", desc := "(Ljava/lang/String;)V" } : Jvm.MethodName) prog_13_method_2_code (2 : Nat) (Option.none : Option Jvm.ClassFile.FieldType)) ∈ xTB := xtb_of (N := 236) (by decide +kernel) (by decide +kernel)
theorem tb237 : (Jvm.Cond.methodLink "java/lang/IllegalArgumentException" (7 : Nat) ({ cls := "java/lang/RuntimeException", name := "<init>", desc := "(Ljava/lang/String;)V" } : Jvm.MethodName)) ∈ xTB := xtb_of (N := 237) (by decide +kernel) (by decide +kernel)
theorem tb238 : (Jvm.Cond.instanceMethod ({ cls := "java/lang/RuntimeException", name := "<init>", desc := "(Ljava/lang/String;)V" } : Jvm.MethodName)) ∈ xTB := xtb_of (N := 238) (by decide +kernel) (by decide +kernel)
theorem tb239 : (Jvm.Cond.code ({ cls := "java/lang/RuntimeException", name := "<init>", desc := "(Ljava/lang/String;)V" } : Jvm.MethodName) prog_18_method_2_code (2 : Nat) (Option.none : Option Jvm.ClassFile.FieldType)) ∈ xTB := xtb_of (N := 239) (by decide +kernel) (by decide +kernel)
theorem tb240 : (Jvm.Cond.methodLink "java/lang/RuntimeException" (7 : Nat) ({ cls := "java/lang/Exception", name := "<init>", desc := "(Ljava/lang/String;)V" } : Jvm.MethodName)) ∈ xTB := xtb_of (N := 240) (by decide +kernel) (by decide +kernel)
theorem tb241 : (Jvm.Cond.instanceMethod ({ cls := "java/lang/Exception", name := "<init>", desc := "(Ljava/lang/String;)V" } : Jvm.MethodName)) ∈ xTB := xtb_of (N := 241) (by decide +kernel) (by decide +kernel)
theorem tb242 : (Jvm.Cond.code ({ cls := "java/lang/Exception", name := "<init>", desc := "(Ljava/lang/String;)V" } : Jvm.MethodName) prog_12_method_2_code (2 : Nat) (Option.none : Option Jvm.ClassFile.FieldType)) ∈ xTB := xtb_of (N := 242) (by decide +kernel) (by decide +kernel)
theorem tb243 : (Jvm.Cond.methodLink "java/lang/Exception" (7 : Nat) ({ cls := "java/lang/Throwable", name := "<init>", desc := "(Ljava/lang/String;)V" } : Jvm.MethodName)) ∈ xTB := xtb_of (N := 243) (by decide +kernel) (by decide +kernel)
theorem tb244 : (Jvm.Cond.instanceMethod ({ cls := "java/lang/Throwable", name := "<init>", desc := "(Ljava/lang/String;)V" } : Jvm.MethodName)) ∈ xTB := xtb_of (N := 244) (by decide +kernel) (by decide +kernel)
theorem tb245 : (Jvm.Cond.code ({ cls := "java/lang/Throwable", name := "<init>", desc := "(Ljava/lang/String;)V" } : Jvm.MethodName) prog_21_method_2_code (2 : Nat) (Option.none : Option Jvm.ClassFile.FieldType)) ∈ xTB := xtb_of (N := 245) (by decide +kernel) (by decide +kernel)
theorem tb246 : (Jvm.Cond.fieldLink "java/lang/Throwable" (198 : Nat) "java/lang/Throwable" "backtrace" "Ljava/lang/Object;") ∈ xTB := xtb_of (N := 246) (by decide +kernel) (by decide +kernel)
theorem tb247 : (Jvm.Cond.fieldLink "java/lang/Throwable" (31 : Nat) "java/lang/Throwable" "detailMessage" "Ljava/lang/String;") ∈ xTB := xtb_of (N := 247) (by decide +kernel) (by decide +kernel)
theorem tb248 : (Jvm.Cond.fieldLink "java/lang/Throwable" (7 : Nat) "java/lang/Throwable" "cause" "Ljava/lang/Throwable;") ∈ xTB := xtb_of (N := 248) (by decide +kernel) (by decide +kernel)
theorem tb249 : (Jvm.Cond.fieldLink "java/lang/Throwable" (17 : Nat) "java/lang/Throwable" "stackTrace" "[Ljava/lang/StackTraceElement;") ∈ xTB := xtb_of (N := 249) (by decide +kernel) (by decide +kernel)
theorem tb250 : (Jvm.Cond.fieldLink "java/lang/Throwable" (24 : Nat) "java/lang/Throwable" "suppressedExceptions" "Ljava/util/List;") ∈ xTB := xtb_of (N := 250) (by decide +kernel) (by decide +kernel)
theorem tb259 : (Jvm.Cond.arrayClass Jvm.ClassFile.FieldType.byte) ∈ xTB := xtb_of (N := 259) (by decide +kernel) (by decide +kernel)
theorem tb260 : (Jvm.Cond.methodLink "ReceivablesBook" (48 : Nat) ({ cls := "ReceivablesBook", name := "requireRoom", desc := "(II)V" } : Jvm.MethodName)) ∈ xTB := xtb_of (N := 260) (by decide +kernel) (by decide +kernel)
theorem tb261 : (Jvm.Cond.static ({ cls := "ReceivablesBook", name := "requireRoom", desc := "(II)V" } : Jvm.MethodName)) ∈ xTB := xtb_of (N := 261) (by decide +kernel) (by decide +kernel)
theorem tb262 : (Jvm.Cond.code ({ cls := "ReceivablesBook", name := "requireRoom", desc := "(II)V" } : Jvm.MethodName) prog_1_method_56_code (2 : Nat) (Option.none : Option Jvm.ClassFile.FieldType)) ∈ xTB := xtb_of (N := 262) (by decide +kernel) (by decide +kernel)
theorem tb263 : (Jvm.Cond.classLink "ReceivablesBook" (269 : Nat) "java/lang/IllegalStateException") ∈ xTB := xtb_of (N := 263) (by decide +kernel) (by decide +kernel)
theorem tb264 : (Jvm.Cond.instantiable "java/lang/IllegalStateException" (6 : Nat)) ∈ xTB := xtb_of (N := 264) (by decide +kernel) (by decide +kernel)
theorem tb265 : (Jvm.Cond.castable "java/lang/IllegalStateException" "java/lang/IllegalStateException") ∈ xTN := xtn_of (N := 265) (by decide +kernel) (by decide +kernel)
theorem tb266 : (Jvm.Cond.selects "java/lang/IllegalStateException" ({ cls := "java/lang/Throwable", name := "fillInStackTrace", desc := "(I)Ljava/lang/Throwable;" } : Jvm.MethodName) ({ cls := "java/lang/Throwable", name := "fillInStackTrace", desc := "(I)Ljava/lang/Throwable;" } : Jvm.MethodName)) ∈ xTB := xtb_of (N := 266) (by decide +kernel) (by decide +kernel)
theorem tb273 : (Jvm.Cond.methodLink "ReceivablesBook" (273 : Nat) ({ cls := "java/lang/IllegalStateException", name := "<init>", desc := "(Ljava/lang/String;)V" } : Jvm.MethodName)) ∈ xTB := xtb_of (N := 273) (by decide +kernel) (by decide +kernel)
theorem tb274 : (Jvm.Cond.instanceMethod ({ cls := "java/lang/IllegalStateException", name := "<init>", desc := "(Ljava/lang/String;)V" } : Jvm.MethodName)) ∈ xTB := xtb_of (N := 274) (by decide +kernel) (by decide +kernel)
theorem tb275 : (Jvm.Cond.code ({ cls := "java/lang/IllegalStateException", name := "<init>", desc := "(Ljava/lang/String;)V" } : Jvm.MethodName) prog_14_method_2_code (2 : Nat) (Option.none : Option Jvm.ClassFile.FieldType)) ∈ xTB := xtb_of (N := 275) (by decide +kernel) (by decide +kernel)
theorem tb276 : (Jvm.Cond.methodLink "java/lang/IllegalStateException" (7 : Nat) ({ cls := "java/lang/RuntimeException", name := "<init>", desc := "(Ljava/lang/String;)V" } : Jvm.MethodName)) ∈ xTB := xtb_of (N := 276) (by decide +kernel) (by decide +kernel)
theorem tb279 : (Jvm.Cond.classLink "ReceivablesBook" (52 : Nat) "ReceivablesBook$Customer") ∈ xTB := xtb_of (N := 279) (by decide +kernel) (by decide +kernel)
theorem tb280 : (Jvm.Cond.instantiable "ReceivablesBook$Customer" (4 : Nat)) ∈ xTB := xtb_of (N := 280) (by decide +kernel) (by decide +kernel)
theorem tb281 : (Jvm.Cond.methodLink "ReceivablesBook" (54 : Nat) ({ cls := "ReceivablesBook$Customer", name := "<init>", desc := "(III)V" } : Jvm.MethodName)) ∈ xTB := xtb_of (N := 281) (by decide +kernel) (by decide +kernel)
theorem tb282 : (Jvm.Cond.instanceMethod ({ cls := "ReceivablesBook$Customer", name := "<init>", desc := "(III)V" } : Jvm.MethodName)) ∈ xTB := xtb_of (N := 282) (by decide +kernel) (by decide +kernel)
theorem tb283 : (Jvm.Cond.code ({ cls := "ReceivablesBook$Customer", name := "<init>", desc := "(III)V" } : Jvm.MethodName) prog_2_method_1_code (4 : Nat) (Option.none : Option Jvm.ClassFile.FieldType)) ∈ xTB := xtb_of (N := 283) (by decide +kernel) (by decide +kernel)
theorem tb284 : (Jvm.Cond.methodLink "ReceivablesBook$Customer" (3 : Nat) ({ cls := "java/lang/Object", name := "<init>", desc := "()V" } : Jvm.MethodName)) ∈ xTB := xtb_of (N := 284) (by decide +kernel) (by decide +kernel)
theorem tb285 : (Jvm.Cond.fieldLink "ReceivablesBook$Customer" (15 : Nat) "ReceivablesBook$Customer" "convention" "I") ∈ xTB := xtb_of (N := 285) (by decide +kernel) (by decide +kernel)
theorem tb286 : (Jvm.Cond.fieldLink "ReceivablesBook$Invoice" (54 : Nat) "ReceivablesBook$Customer" "convention" "I") ∈ xTB := xtb_of (N := 286) (by decide +kernel) (by decide +kernel)
theorem tb287 : (Jvm.Cond.fieldLink "ReceivablesBook$Customer" (9 : Nat) "ReceivablesBook$Customer" "rule" "I") ∈ xTB := xtb_of (N := 287) (by decide +kernel) (by decide +kernel)
theorem tb288 : (Jvm.Cond.fieldLink "ReceivablesBook" (64 : Nat) "ReceivablesBook$Customer" "rule" "I") ∈ xTB := xtb_of (N := 288) (by decide +kernel) (by decide +kernel)
theorem tb289 : (Jvm.Cond.fieldLink "ReceivablesBook$Customer" (18 : Nat) "ReceivablesBook$Customer" "rate" "I") ∈ xTB := xtb_of (N := 289) (by decide +kernel) (by decide +kernel)
theorem tb290 : (Jvm.Cond.fieldLink "ReceivablesBook" (67 : Nat) "ReceivablesBook$Customer" "rate" "I") ∈ xTB := xtb_of (N := 290) (by decide +kernel) (by decide +kernel)
theorem tb291 : (Jvm.Cond.fieldLink "ReceivablesBook$Invoice" (72 : Nat) "ReceivablesBook$Customer" "rate" "I") ∈ xTB := xtb_of (N := 291) (by decide +kernel) (by decide +kernel)
theorem tb292 : (Jvm.Cond.fieldLink "ReceivablesBook" (70 : Nat) "ReceivablesBook$Customer" "pauseEnd" "I") ∈ xTB := xtb_of (N := 292) (by decide +kernel) (by decide +kernel)
theorem tb293 : (Jvm.Cond.fieldLink "ReceivablesBook$Invoice" (86 : Nat) "ReceivablesBook$Customer" "pauseEnd" "I") ∈ xTB := xtb_of (N := 293) (by decide +kernel) (by decide +kernel)
theorem tb303 : (Jvm.Cond.methodLink "ReceivablesBook" (56 : Nat) ({ cls := "java/util/ArrayList", name := "add", desc := "(Ljava/lang/Object;)Z" } : Jvm.MethodName)) ∈ xTB := xtb_of (N := 303) (by decide +kernel) (by decide +kernel)
theorem tb304 : (Jvm.Cond.instanceMethod ({ cls := "java/util/ArrayList", name := "add", desc := "(Ljava/lang/Object;)Z" } : Jvm.MethodName)) ∈ xTB := xtb_of (N := 304) (by decide +kernel) (by decide +kernel)
theorem tb305 : (Jvm.Cond.selects "java/util/ArrayList" ({ cls := "java/util/ArrayList", name := "add", desc := "(Ljava/lang/Object;)Z" } : Jvm.MethodName) ({ cls := "java/util/ArrayList", name := "add", desc := "(Ljava/lang/Object;)Z" } : Jvm.MethodName)) ∈ xTB := xtb_of (N := 305) (by decide +kernel) (by decide +kernel)
theorem tb306 : (Jvm.Cond.code ({ cls := "java/util/ArrayList", name := "add", desc := "(Ljava/lang/Object;)Z" } : Jvm.MethodName) prog_24_method_25_code (2 : Nat) (Option.some Jvm.ClassFile.FieldType.boolean)) ∈ xTB := xtb_of (N := 306) (by decide +kernel) (by decide +kernel)
theorem tb307 : (Jvm.Cond.methodLink "java/util/ArrayList" (131 : Nat) ({ cls := "java/util/ArrayList", name := "add", desc := "(Ljava/lang/Object;[Ljava/lang/Object;I)V" } : Jvm.MethodName)) ∈ xTB := xtb_of (N := 307) (by decide +kernel) (by decide +kernel)
theorem tb309 : (Jvm.Cond.instanceMethod ({ cls := "java/util/ArrayList", name := "add", desc := "(Ljava/lang/Object;[Ljava/lang/Object;I)V" } : Jvm.MethodName)) ∈ xTB := xtb_of (N := 309) (by decide +kernel) (by decide +kernel)
theorem tb310 : (Jvm.Cond.code ({ cls := "java/util/ArrayList", name := "add", desc := "(Ljava/lang/Object;[Ljava/lang/Object;I)V" } : Jvm.MethodName) prog_24_method_24_code (4 : Nat) (Option.none : Option Jvm.ClassFile.FieldType)) ∈ xTB := xtb_of (N := 310) (by decide +kernel) (by decide +kernel)
theorem tb311 : (Jvm.Cond.methodLink "java/util/ArrayList" (129 : Nat) ({ cls := "java/util/ArrayList", name := "grow", desc := "()[Ljava/lang/Object;" } : Jvm.MethodName)) ∈ xTB := xtb_of (N := 311) (by decide +kernel) (by decide +kernel)
theorem tb313 : (Jvm.Cond.instanceMethod ({ cls := "java/util/ArrayList", name := "grow", desc := "()[Ljava/lang/Object;" } : Jvm.MethodName)) ∈ xTB := xtb_of (N := 313) (by decide +kernel) (by decide +kernel)
theorem tb314 : (Jvm.Cond.code ({ cls := "java/util/ArrayList", name := "grow", desc := "()[Ljava/lang/Object;" } : Jvm.MethodName) prog_24_method_7_code (1 : Nat) (Option.some (Jvm.ClassFile.FieldType.array (Jvm.ClassFile.FieldType.object "java/lang/Object")))) ∈ xTB := xtb_of (N := 314) (by decide +kernel) (by decide +kernel)
theorem tb315 : (Jvm.Cond.methodLink "java/util/ArrayList" (69 : Nat) ({ cls := "java/util/ArrayList", name := "grow", desc := "(I)[Ljava/lang/Object;" } : Jvm.MethodName)) ∈ xTB := xtb_of (N := 315) (by decide +kernel) (by decide +kernel)
theorem tb317 : (Jvm.Cond.instanceMethod ({ cls := "java/util/ArrayList", name := "grow", desc := "(I)[Ljava/lang/Object;" } : Jvm.MethodName)) ∈ xTB := xtb_of (N := 317) (by decide +kernel) (by decide +kernel)
theorem tb318 : (Jvm.Cond.code ({ cls := "java/util/ArrayList", name := "grow", desc := "(I)[Ljava/lang/Object;" } : Jvm.MethodName) prog_24_method_6_code (4 : Nat) (Option.some (Jvm.ClassFile.FieldType.array (Jvm.ClassFile.FieldType.object "java/lang/Object")))) ∈ xTB := xtb_of (N := 318) (by decide +kernel) (by decide +kernel)
theorem tb319 : (Jvm.Cond.methodLink "java/util/ArrayList" (73 : Nat) ({ cls := "jdk/internal/util/ArraysSupport", name := "newLength", desc := "(III)I" } : Jvm.MethodName)) ∈ xTB := xtb_of (N := 319) (by decide +kernel) (by decide +kernel)
theorem tb320 : (Jvm.Cond.static ({ cls := "jdk/internal/util/ArraysSupport", name := "newLength", desc := "(III)I" } : Jvm.MethodName)) ∈ xTB := xtb_of (N := 320) (by decide +kernel) (by decide +kernel)
theorem tb321 : (Jvm.Cond.code ({ cls := "jdk/internal/util/ArraysSupport", name := "newLength", desc := "(III)I" } : Jvm.MethodName) prog_31_method_27_code (4 : Nat) (Option.some Jvm.ClassFile.FieldType.int)) ∈ xTB := xtb_of (N := 321) (by decide +kernel) (by decide +kernel)
theorem tb322 : (Jvm.Cond.methodLink "jdk/internal/util/ArraysSupport" (194 : Nat) ({ cls := "java/lang/Math", name := "max", desc := "(II)I" } : Jvm.MethodName)) ∈ xTB := xtb_of (N := 322) (by decide +kernel) (by decide +kernel)
theorem tb323 : (Jvm.Cond.static ({ cls := "java/lang/Math", name := "max", desc := "(II)I" } : Jvm.MethodName)) ∈ xTB := xtb_of (N := 323) (by decide +kernel) (by decide +kernel)
theorem tb324 : (Jvm.Cond.code ({ cls := "java/lang/Math", name := "max", desc := "(II)I" } : Jvm.MethodName) prog_17_method_65_code (2 : Nat) (Option.some Jvm.ClassFile.FieldType.int)) ∈ xTB := xtb_of (N := 324) (by decide +kernel) (by decide +kernel)
theorem tb325 : (Jvm.Cond.constant "jdk/internal/util/ArraysSupport" (200 : Nat) (2147483639 : Int32)) ∈ xTB := xtb_of (N := 325) (by decide +kernel) (by decide +kernel)
theorem tb326 : (Jvm.Cond.methodLink "jdk/internal/util/ArraysSupport" (201 : Nat) ({ cls := "jdk/internal/util/ArraysSupport", name := "hugeLength", desc := "(II)I" } : Jvm.MethodName)) ∈ xTB := xtb_of (N := 326) (by decide +kernel) (by decide +kernel)
theorem tb327 : (Jvm.Cond.static ({ cls := "jdk/internal/util/ArraysSupport", name := "hugeLength", desc := "(II)I" } : Jvm.MethodName)) ∈ xTB := xtb_of (N := 327) (by decide +kernel) (by decide +kernel)
theorem tb328 : (Jvm.Cond.code ({ cls := "jdk/internal/util/ArraysSupport", name := "hugeLength", desc := "(II)I" } : Jvm.MethodName) prog_31_method_28_code (3 : Nat) (Option.some Jvm.ClassFile.FieldType.int)) ∈ xTB := xtb_of (N := 328) (by decide +kernel) (by decide +kernel)
theorem tb329 : (Jvm.Cond.methodLink "java/util/ArrayList" (66 : Nat) ({ cls := "java/util/Arrays", name := "copyOf", desc := "([Ljava/lang/Object;I)[Ljava/lang/Object;" } : Jvm.MethodName)) ∈ xTB := xtb_of (N := 329) (by decide +kernel) (by decide +kernel)
theorem tb330 : (Jvm.Cond.static ({ cls := "java/util/Arrays", name := "copyOf", desc := "([Ljava/lang/Object;I)[Ljava/lang/Object;" } : Jvm.MethodName)) ∈ xTB := xtb_of (N := 330) (by decide +kernel) (by decide +kernel)
theorem tb331 : (Jvm.Cond.code ({ cls := "java/util/Arrays", name := "copyOf", desc := "([Ljava/lang/Object;I)[Ljava/lang/Object;" } : Jvm.MethodName) prog_25_method_119_code (2 : Nat) (Option.some (Jvm.ClassFile.FieldType.array (Jvm.ClassFile.FieldType.object "java/lang/Object")))) ∈ xTB := xtb_of (N := 331) (by decide +kernel) (by decide +kernel)
theorem tb332 : (Jvm.Cond.methodLink "java/util/Arrays" (86 : Nat) ({ cls := "java/lang/Object", name := "getClass", desc := "()Ljava/lang/Class;" } : Jvm.MethodName)) ∈ xTB := xtb_of (N := 332) (by decide +kernel) (by decide +kernel)
theorem tb333 : (Jvm.Cond.instanceMethod ({ cls := "java/lang/Object", name := "getClass", desc := "()Ljava/lang/Class;" } : Jvm.MethodName)) ∈ xTB := xtb_of (N := 333) (by decide +kernel) (by decide +kernel)
theorem tb334 : (Jvm.Cond.sameMethod "java/lang/Object" "java/lang/Object" "getClass" "()Ljava/lang/Class;") ∈ xTB := xtb_of (N := 334) (by decide +kernel) (by decide +kernel)
theorem tb335 : (Jvm.Cond.selects "ReceivablesBook" ({ cls := "java/lang/Object", name := "getClass", desc := "()Ljava/lang/Class;" } : Jvm.MethodName) ({ cls := "java/lang/Object", name := "getClass", desc := "()Ljava/lang/Class;" } : Jvm.MethodName)) ∈ xTB := xtb_of (N := 335) (by decide +kernel) (by decide +kernel)
theorem tb336 : (Jvm.Cond.selects "ReceivablesBook$Customer" ({ cls := "java/lang/Object", name := "getClass", desc := "()Ljava/lang/Class;" } : Jvm.MethodName) ({ cls := "java/lang/Object", name := "getClass", desc := "()Ljava/lang/Class;" } : Jvm.MethodName)) ∈ xTB := xtb_of (N := 336) (by decide +kernel) (by decide +kernel)
theorem tb337 : (Jvm.Cond.selects "ReceivablesBook$Invoice" ({ cls := "java/lang/Object", name := "getClass", desc := "()Ljava/lang/Class;" } : Jvm.MethodName) ({ cls := "java/lang/Object", name := "getClass", desc := "()Ljava/lang/Class;" } : Jvm.MethodName)) ∈ xTB := xtb_of (N := 337) (by decide +kernel) (by decide +kernel)
theorem tb338 : (Jvm.Cond.selects "ReceivablesBook$Ledger" ({ cls := "java/lang/Object", name := "getClass", desc := "()Ljava/lang/Class;" } : Jvm.MethodName) ({ cls := "java/lang/Object", name := "getClass", desc := "()Ljava/lang/Class;" } : Jvm.MethodName)) ∈ xTB := xtb_of (N := 338) (by decide +kernel) (by decide +kernel)
theorem tb339 : (Jvm.Cond.selects "ReceivablesBook$Payment" ({ cls := "java/lang/Object", name := "getClass", desc := "()Ljava/lang/Class;" } : Jvm.MethodName) ({ cls := "java/lang/Object", name := "getClass", desc := "()Ljava/lang/Class;" } : Jvm.MethodName)) ∈ xTB := xtb_of (N := 339) (by decide +kernel) (by decide +kernel)
theorem tb340 : (Jvm.Cond.selects "ReceivablesBook$Shares" ({ cls := "java/lang/Object", name := "getClass", desc := "()Ljava/lang/Class;" } : Jvm.MethodName) ({ cls := "java/lang/Object", name := "getClass", desc := "()Ljava/lang/Class;" } : Jvm.MethodName)) ∈ xTB := xtb_of (N := 340) (by decide +kernel) (by decide +kernel)
theorem tb341 : (Jvm.Cond.selects "ReceivablesBookModel" ({ cls := "java/lang/Object", name := "getClass", desc := "()Ljava/lang/Class;" } : Jvm.MethodName) ({ cls := "java/lang/Object", name := "getClass", desc := "()Ljava/lang/Class;" } : Jvm.MethodName)) ∈ xTB := xtb_of (N := 341) (by decide +kernel) (by decide +kernel)
theorem tb342 : (Jvm.Cond.selects "java/lang/IllegalArgumentException" ({ cls := "java/lang/Object", name := "getClass", desc := "()Ljava/lang/Class;" } : Jvm.MethodName) ({ cls := "java/lang/Object", name := "getClass", desc := "()Ljava/lang/Class;" } : Jvm.MethodName)) ∈ xTB := xtb_of (N := 342) (by decide +kernel) (by decide +kernel)
theorem tb343 : (Jvm.Cond.selects "java/lang/IllegalStateException" ({ cls := "java/lang/Object", name := "getClass", desc := "()Ljava/lang/Class;" } : Jvm.MethodName) ({ cls := "java/lang/Object", name := "getClass", desc := "()Ljava/lang/Class;" } : Jvm.MethodName)) ∈ xTB := xtb_of (N := 343) (by decide +kernel) (by decide +kernel)
theorem tb344 : (Jvm.Cond.selects "java/lang/IndexOutOfBoundsException" ({ cls := "java/lang/Object", name := "getClass", desc := "()Ljava/lang/Class;" } : Jvm.MethodName) ({ cls := "java/lang/Object", name := "getClass", desc := "()Ljava/lang/Class;" } : Jvm.MethodName)) ∈ xTB := xtb_of (N := 344) (by decide +kernel) (by decide +kernel)
theorem tb345 : (Jvm.Cond.selects "java/util/ArrayList" ({ cls := "java/lang/Object", name := "getClass", desc := "()Ljava/lang/Class;" } : Jvm.MethodName) ({ cls := "java/lang/Object", name := "getClass", desc := "()Ljava/lang/Class;" } : Jvm.MethodName)) ∈ xTB := xtb_of (N := 345) (by decide +kernel) (by decide +kernel)
theorem tb346 : (Jvm.Cond.native ({ cls := "java/lang/Object", name := "getClass", desc := "()Ljava/lang/Class;" } : Jvm.MethodName)) ∈ xTB := xtb_of (N := 346) (by decide +kernel) (by decide +kernel)
theorem tb347 : (Jvm.Cond.methodLink "java/util/Arrays" (300 : Nat) ({ cls := "java/util/Arrays", name := "copyOf", desc := "([Ljava/lang/Object;ILjava/lang/Class;)[Ljava/lang/Object;" } : Jvm.MethodName)) ∈ xTB := xtb_of (N := 347) (by decide +kernel) (by decide +kernel)
theorem tb348 : (Jvm.Cond.static ({ cls := "java/util/Arrays", name := "copyOf", desc := "([Ljava/lang/Object;ILjava/lang/Class;)[Ljava/lang/Object;" } : Jvm.MethodName)) ∈ xTB := xtb_of (N := 348) (by decide +kernel) (by decide +kernel)
theorem tb349 : (Jvm.Cond.code ({ cls := "java/util/Arrays", name := "copyOf", desc := "([Ljava/lang/Object;ILjava/lang/Class;)[Ljava/lang/Object;" } : Jvm.MethodName) prog_25_method_120_code (4 : Nat) (Option.some (Jvm.ClassFile.FieldType.array (Jvm.ClassFile.FieldType.object "java/lang/Object")))) ∈ xTB := xtb_of (N := 349) (by decide +kernel) (by decide +kernel)
theorem tb350 : (Jvm.Cond.classLink "java/util/Arrays" (110 : Nat) "[Ljava/lang/Object;") ∈ xTB := xtb_of (N := 350) (by decide +kernel) (by decide +kernel)
theorem tb352 : (Jvm.Cond.classLink "java/util/Arrays" (2 : Nat) "java/lang/Object") ∈ xTB := xtb_of (N := 352) (by decide +kernel) (by decide +kernel)
theorem tb353 : (Jvm.Cond.methodLink "java/util/Arrays" (304 : Nat) ({ cls := "java/lang/Math", name := "min", desc := "(II)I" } : Jvm.MethodName)) ∈ xTB := xtb_of (N := 353) (by decide +kernel) (by decide +kernel)
theorem tb354 : (Jvm.Cond.static ({ cls := "java/lang/Math", name := "min", desc := "(II)I" } : Jvm.MethodName)) ∈ xTB := xtb_of (N := 354) (by decide +kernel) (by decide +kernel)
theorem tb355 : (Jvm.Cond.code ({ cls := "java/lang/Math", name := "min", desc := "(II)I" } : Jvm.MethodName) prog_17_method_69_code (2 : Nat) (Option.some Jvm.ClassFile.FieldType.int)) ∈ xTB := xtb_of (N := 355) (by decide +kernel) (by decide +kernel)
theorem tb356 : (Jvm.Cond.methodLink "java/util/Arrays" (150 : Nat) ({ cls := "java/lang/System", name := "arraycopy", desc := "(Ljava/lang/Object;ILjava/lang/Object;II)V" } : Jvm.MethodName)) ∈ xTB := xtb_of (N := 356) (by decide +kernel) (by decide +kernel)
theorem tb357 : (Jvm.Cond.static ({ cls := "java/lang/System", name := "arraycopy", desc := "(Ljava/lang/Object;ILjava/lang/Object;II)V" } : Jvm.MethodName)) ∈ xTB := xtb_of (N := 357) (by decide +kernel) (by decide +kernel)
theorem tb358 : (Jvm.Cond.native ({ cls := "java/lang/System", name := "arraycopy", desc := "(Ljava/lang/Object;ILjava/lang/Object;II)V" } : Jvm.MethodName)) ∈ xTB := xtb_of (N := 358) (by decide +kernel) (by decide +kernel)
theorem tb359 : (Jvm.Cond.methodLink "java/util/ArrayList" (79 : Nat) ({ cls := "java/lang/Math", name := "max", desc := "(II)I" } : Jvm.MethodName)) ∈ xTB := xtb_of (N := 359) (by decide +kernel) (by decide +kernel)
theorem tb360 : (Jvm.Cond.classLink "java/util/ArrayList" (7 : Nat) "java/lang/Object") ∈ xTB := xtb_of (N := 360) (by decide +kernel) (by decide +kernel)
theorem tb361 : (Jvm.Cond.methodLink "ReceivablesBookLaw" (135 : Nat) ({ cls := "ReceivablesBookLaw", name := "setRule", desc := "(LReceivablesBook;II[J)I" } : Jvm.MethodName)) ∈ xTB := xtb_of (N := 361) (by decide +kernel) (by decide +kernel)
theorem tb362 : (Jvm.Cond.static ({ cls := "ReceivablesBookLaw", name := "setRule", desc := "(LReceivablesBook;II[J)I" } : Jvm.MethodName)) ∈ xTB := xtb_of (N := 362) (by decide +kernel) (by decide +kernel)
theorem tb363 : (Jvm.Cond.codeWith ({ cls := "ReceivablesBookLaw", name := "setRule", desc := "(LReceivablesBook;II[J)I" } : Jvm.MethodName) method_4_code (5 : Nat) (Option.some Jvm.ClassFile.FieldType.int) [((0 : Nat), (10 : Nat), (13 : Nat), (21 : Nat)), ((0 : Nat), (10 : Nat), (17 : Nat), (13 : Nat))]) ∈ xTB := xtb_of (N := 363) (by decide +kernel) (by decide +kernel)
theorem tb364 : (Jvm.Cond.classLink "ReceivablesBookLaw" (21 : Nat) "java/lang/IndexOutOfBoundsException") ∈ xTB := xtb_of (N := 364) (by decide +kernel) (by decide +kernel)
theorem tb365 : (Jvm.Cond.methodLink "ReceivablesBookLaw" (17 : Nat) ({ cls := "ReceivablesBook", name := "setRule", desc := "(II)I" } : Jvm.MethodName)) ∈ xTB := xtb_of (N := 365) (by decide +kernel) (by decide +kernel)
theorem tb366 : (Jvm.Cond.instanceMethod ({ cls := "ReceivablesBook", name := "setRule", desc := "(II)I" } : Jvm.MethodName)) ∈ xTB := xtb_of (N := 366) (by decide +kernel) (by decide +kernel)
theorem tb367 : (Jvm.Cond.selects "ReceivablesBook" ({ cls := "ReceivablesBook", name := "setRule", desc := "(II)I" } : Jvm.MethodName) ({ cls := "ReceivablesBook", name := "setRule", desc := "(II)I" } : Jvm.MethodName)) ∈ xTB := xtb_of (N := 367) (by decide +kernel) (by decide +kernel)
theorem tb368 : (Jvm.Cond.code ({ cls := "ReceivablesBook", name := "setRule", desc := "(II)I" } : Jvm.MethodName) prog_1_method_3_code (5 : Nat) (Option.some Jvm.ClassFile.FieldType.int)) ∈ xTB := xtb_of (N := 368) (by decide +kernel) (by decide +kernel)
theorem tb369 : (Jvm.Cond.methodLink "ReceivablesBook" (60 : Nat) ({ cls := "ReceivablesBook", name := "customerAt", desc := "(I)LReceivablesBook$Customer;" } : Jvm.MethodName)) ∈ xTB := xtb_of (N := 369) (by decide +kernel) (by decide +kernel)
theorem tb371 : (Jvm.Cond.instanceMethod ({ cls := "ReceivablesBook", name := "customerAt", desc := "(I)LReceivablesBook$Customer;" } : Jvm.MethodName)) ∈ xTB := xtb_of (N := 371) (by decide +kernel) (by decide +kernel)
theorem tb372 : (Jvm.Cond.code ({ cls := "ReceivablesBook", name := "customerAt", desc := "(I)LReceivablesBook$Customer;" } : Jvm.MethodName) prog_1_method_50_code (2 : Nat) (Option.some (Jvm.ClassFile.FieldType.object "ReceivablesBook$Customer"))) ∈ xTB := xtb_of (N := 372) (by decide +kernel) (by decide +kernel)
theorem tb373 : (Jvm.Cond.methodLink "ReceivablesBook" (237 : Nat) ({ cls := "ReceivablesBook", name := "requireIndex", desc := "(II)V" } : Jvm.MethodName)) ∈ xTB := xtb_of (N := 373) (by decide +kernel) (by decide +kernel)
theorem tb374 : (Jvm.Cond.static ({ cls := "ReceivablesBook", name := "requireIndex", desc := "(II)V" } : Jvm.MethodName)) ∈ xTB := xtb_of (N := 374) (by decide +kernel) (by decide +kernel)
theorem tb375 : (Jvm.Cond.code ({ cls := "ReceivablesBook", name := "requireIndex", desc := "(II)V" } : Jvm.MethodName) prog_1_method_53_code (2 : Nat) (Option.none : Option Jvm.ClassFile.FieldType)) ∈ xTB := xtb_of (N := 375) (by decide +kernel) (by decide +kernel)
theorem tb376 : (Jvm.Cond.classLink "ReceivablesBook" (255 : Nat) "java/lang/IndexOutOfBoundsException") ∈ xTB := xtb_of (N := 376) (by decide +kernel) (by decide +kernel)
theorem tb377 : (Jvm.Cond.instantiable "java/lang/IndexOutOfBoundsException" (6 : Nat)) ∈ xTB := xtb_of (N := 377) (by decide +kernel) (by decide +kernel)
theorem tb378 : (Jvm.Cond.castable "java/lang/IndexOutOfBoundsException" "java/lang/IndexOutOfBoundsException") ∈ xTN := xtn_of (N := 378) (by decide +kernel) (by decide +kernel)
theorem tb379 : (Jvm.Cond.selects "java/lang/IndexOutOfBoundsException" ({ cls := "java/lang/Throwable", name := "fillInStackTrace", desc := "(I)Ljava/lang/Throwable;" } : Jvm.MethodName) ({ cls := "java/lang/Throwable", name := "fillInStackTrace", desc := "(I)Ljava/lang/Throwable;" } : Jvm.MethodName)) ∈ xTB := xtb_of (N := 379) (by decide +kernel) (by decide +kernel)
theorem tb386 : (Jvm.Cond.methodLink "ReceivablesBook" (259 : Nat) ({ cls := "java/lang/IndexOutOfBoundsException", name := "<init>", desc := "(Ljava/lang/String;)V" } : Jvm.MethodName)) ∈ xTB := xtb_of (N := 386) (by decide +kernel) (by decide +kernel)
theorem tb387 : (Jvm.Cond.instanceMethod ({ cls := "java/lang/IndexOutOfBoundsException", name := "<init>", desc := "(Ljava/lang/String;)V" } : Jvm.MethodName)) ∈ xTB := xtb_of (N := 387) (by decide +kernel) (by decide +kernel)
theorem tb388 : (Jvm.Cond.code ({ cls := "java/lang/IndexOutOfBoundsException", name := "<init>", desc := "(Ljava/lang/String;)V" } : Jvm.MethodName) prog_15_method_2_code (2 : Nat) (Option.none : Option Jvm.ClassFile.FieldType)) ∈ xTB := xtb_of (N := 388) (by decide +kernel) (by decide +kernel)
theorem tb389 : (Jvm.Cond.methodLink "java/lang/IndexOutOfBoundsException" (7 : Nat) ({ cls := "java/lang/RuntimeException", name := "<init>", desc := "(Ljava/lang/String;)V" } : Jvm.MethodName)) ∈ xTB := xtb_of (N := 389) (by decide +kernel) (by decide +kernel)
theorem tb392 : (Jvm.Cond.methodLink "ReceivablesBook" (86 : Nat) ({ cls := "java/util/ArrayList", name := "get", desc := "(I)Ljava/lang/Object;" } : Jvm.MethodName)) ∈ xTB := xtb_of (N := 392) (by decide +kernel) (by decide +kernel)
theorem tb393 : (Jvm.Cond.instanceMethod ({ cls := "java/util/ArrayList", name := "get", desc := "(I)Ljava/lang/Object;" } : Jvm.MethodName)) ∈ xTB := xtb_of (N := 393) (by decide +kernel) (by decide +kernel)
theorem tb394 : (Jvm.Cond.selects "java/util/ArrayList" ({ cls := "java/util/ArrayList", name := "get", desc := "(I)Ljava/lang/Object;" } : Jvm.MethodName) ({ cls := "java/util/ArrayList", name := "get", desc := "(I)Ljava/lang/Object;" } : Jvm.MethodName)) ∈ xTB := xtb_of (N := 394) (by decide +kernel) (by decide +kernel)
theorem tb395 : (Jvm.Cond.code ({ cls := "java/util/ArrayList", name := "get", desc := "(I)Ljava/lang/Object;" } : Jvm.MethodName) prog_24_method_20_code (2 : Nat) (Option.some (Jvm.ClassFile.FieldType.object "java/lang/Object"))) ∈ xTB := xtb_of (N := 395) (by decide +kernel) (by decide +kernel)
theorem tb396 : (Jvm.Cond.methodLink "java/util/ArrayList" (118 : Nat) ({ cls := "java/util/Objects", name := "checkIndex", desc := "(II)I" } : Jvm.MethodName)) ∈ xTB := xtb_of (N := 396) (by decide +kernel) (by decide +kernel)
theorem tb397 : (Jvm.Cond.static ({ cls := "java/util/Objects", name := "checkIndex", desc := "(II)I" } : Jvm.MethodName)) ∈ xTB := xtb_of (N := 397) (by decide +kernel) (by decide +kernel)
theorem tb398 : (Jvm.Cond.code ({ cls := "java/util/Objects", name := "checkIndex", desc := "(II)I" } : Jvm.MethodName) prog_28_method_17_code (2 : Nat) (Option.some Jvm.ClassFile.FieldType.int)) ∈ xTB := xtb_of (N := 398) (by decide +kernel) (by decide +kernel)
theorem tb399 : (Jvm.Cond.methodLink "java/util/Objects" (105 : Nat) ({ cls := "jdk/internal/util/Preconditions", name := "checkIndex", desc := "(IILjava/util/function/BiFunction;)I" } : Jvm.MethodName)) ∈ xTB := xtb_of (N := 399) (by decide +kernel) (by decide +kernel)
theorem tb400 : (Jvm.Cond.static ({ cls := "jdk/internal/util/Preconditions", name := "checkIndex", desc := "(IILjava/util/function/BiFunction;)I" } : Jvm.MethodName)) ∈ xTB := xtb_of (N := 400) (by decide +kernel) (by decide +kernel)
theorem tb401 : (Jvm.Cond.code ({ cls := "jdk/internal/util/Preconditions", name := "checkIndex", desc := "(IILjava/util/function/BiFunction;)I" } : Jvm.MethodName) prog_32_method_11_code (3 : Nat) (Option.some Jvm.ClassFile.FieldType.int)) ∈ xTB := xtb_of (N := 401) (by decide +kernel) (by decide +kernel)
theorem tb402 : (Jvm.Cond.methodLink "java/util/ArrayList" (123 : Nat) ({ cls := "java/util/ArrayList", name := "elementData", desc := "(I)Ljava/lang/Object;" } : Jvm.MethodName)) ∈ xTB := xtb_of (N := 402) (by decide +kernel) (by decide +kernel)
theorem tb403 : (Jvm.Cond.instanceMethod ({ cls := "java/util/ArrayList", name := "elementData", desc := "(I)Ljava/lang/Object;" } : Jvm.MethodName)) ∈ xTB := xtb_of (N := 403) (by decide +kernel) (by decide +kernel)
theorem tb404 : (Jvm.Cond.selects "java/util/ArrayList" ({ cls := "java/util/ArrayList", name := "elementData", desc := "(I)Ljava/lang/Object;" } : Jvm.MethodName) ({ cls := "java/util/ArrayList", name := "elementData", desc := "(I)Ljava/lang/Object;" } : Jvm.MethodName)) ∈ xTB := xtb_of (N := 404) (by decide +kernel) (by decide +kernel)
theorem tb405 : (Jvm.Cond.code ({ cls := "java/util/ArrayList", name := "elementData", desc := "(I)Ljava/lang/Object;" } : Jvm.MethodName) prog_24_method_18_code (2 : Nat) (Option.some (Jvm.ClassFile.FieldType.object "java/lang/Object"))) ∈ xTB := xtb_of (N := 405) (by decide +kernel) (by decide +kernel)
theorem tb406 : (Jvm.Cond.methodLink "ReceivablesBookLaw" (139 : Nat) ({ cls := "ReceivablesBookLaw", name := "setRate", desc := "(LReceivablesBook;II[J)I" } : Jvm.MethodName)) ∈ xTB := xtb_of (N := 406) (by decide +kernel) (by decide +kernel)
theorem tb407 : (Jvm.Cond.static ({ cls := "ReceivablesBookLaw", name := "setRate", desc := "(LReceivablesBook;II[J)I" } : Jvm.MethodName)) ∈ xTB := xtb_of (N := 407) (by decide +kernel) (by decide +kernel)
theorem tb408 : (Jvm.Cond.codeWith ({ cls := "ReceivablesBookLaw", name := "setRate", desc := "(LReceivablesBook;II[J)I" } : Jvm.MethodName) method_5_code (5 : Nat) (Option.some Jvm.ClassFile.FieldType.int) [((0 : Nat), (10 : Nat), (13 : Nat), (21 : Nat)), ((0 : Nat), (10 : Nat), (17 : Nat), (13 : Nat))]) ∈ xTB := xtb_of (N := 408) (by decide +kernel) (by decide +kernel)
theorem tb409 : (Jvm.Cond.methodLink "ReceivablesBookLaw" (23 : Nat) ({ cls := "ReceivablesBook", name := "setRate", desc := "(II)I" } : Jvm.MethodName)) ∈ xTB := xtb_of (N := 409) (by decide +kernel) (by decide +kernel)
theorem tb410 : (Jvm.Cond.instanceMethod ({ cls := "ReceivablesBook", name := "setRate", desc := "(II)I" } : Jvm.MethodName)) ∈ xTB := xtb_of (N := 410) (by decide +kernel) (by decide +kernel)
theorem tb411 : (Jvm.Cond.selects "ReceivablesBook" ({ cls := "ReceivablesBook", name := "setRate", desc := "(II)I" } : Jvm.MethodName) ({ cls := "ReceivablesBook", name := "setRate", desc := "(II)I" } : Jvm.MethodName)) ∈ xTB := xtb_of (N := 411) (by decide +kernel) (by decide +kernel)
theorem tb412 : (Jvm.Cond.code ({ cls := "ReceivablesBook", name := "setRate", desc := "(II)I" } : Jvm.MethodName) prog_1_method_4_code (5 : Nat) (Option.some Jvm.ClassFile.FieldType.int)) ∈ xTB := xtb_of (N := 412) (by decide +kernel) (by decide +kernel)
theorem tb413 : (Jvm.Cond.methodLink "ReceivablesBookLaw" (142 : Nat) ({ cls := "ReceivablesBookLaw", name := "pauseReminders", desc := "(LReceivablesBook;II[J)I" } : Jvm.MethodName)) ∈ xTB := xtb_of (N := 413) (by decide +kernel) (by decide +kernel)
theorem tb414 : (Jvm.Cond.static ({ cls := "ReceivablesBookLaw", name := "pauseReminders", desc := "(LReceivablesBook;II[J)I" } : Jvm.MethodName)) ∈ xTB := xtb_of (N := 414) (by decide +kernel) (by decide +kernel)
theorem tb415 : (Jvm.Cond.codeWith ({ cls := "ReceivablesBookLaw", name := "pauseReminders", desc := "(LReceivablesBook;II[J)I" } : Jvm.MethodName) method_6_code (5 : Nat) (Option.some Jvm.ClassFile.FieldType.int) [((0 : Nat), (10 : Nat), (13 : Nat), (21 : Nat)), ((0 : Nat), (10 : Nat), (17 : Nat), (13 : Nat))]) ∈ xTB := xtb_of (N := 415) (by decide +kernel) (by decide +kernel)
theorem tb416 : (Jvm.Cond.methodLink "ReceivablesBookLaw" (26 : Nat) ({ cls := "ReceivablesBook", name := "pauseReminders", desc := "(II)I" } : Jvm.MethodName)) ∈ xTB := xtb_of (N := 416) (by decide +kernel) (by decide +kernel)
theorem tb417 : (Jvm.Cond.instanceMethod ({ cls := "ReceivablesBook", name := "pauseReminders", desc := "(II)I" } : Jvm.MethodName)) ∈ xTB := xtb_of (N := 417) (by decide +kernel) (by decide +kernel)
theorem tb418 : (Jvm.Cond.selects "ReceivablesBook" ({ cls := "ReceivablesBook", name := "pauseReminders", desc := "(II)I" } : Jvm.MethodName) ({ cls := "ReceivablesBook", name := "pauseReminders", desc := "(II)I" } : Jvm.MethodName)) ∈ xTB := xtb_of (N := 418) (by decide +kernel) (by decide +kernel)
theorem tb419 : (Jvm.Cond.code ({ cls := "ReceivablesBook", name := "pauseReminders", desc := "(II)I" } : Jvm.MethodName) prog_1_method_5_code (4 : Nat) (Option.some Jvm.ClassFile.FieldType.int)) ∈ xTB := xtb_of (N := 419) (by decide +kernel) (by decide +kernel)
theorem tb420 : (Jvm.Cond.methodLink "ReceivablesBookLaw" (149 : Nat) ({ cls := "ReceivablesBookLaw", name := "passDays", desc := "(LReceivablesBook;I[J)I" } : Jvm.MethodName)) ∈ xTB := xtb_of (N := 420) (by decide +kernel) (by decide +kernel)
theorem tb421 : (Jvm.Cond.static ({ cls := "ReceivablesBookLaw", name := "passDays", desc := "(LReceivablesBook;I[J)I" } : Jvm.MethodName)) ∈ xTB := xtb_of (N := 421) (by decide +kernel) (by decide +kernel)
theorem tb422 : (Jvm.Cond.codeWith ({ cls := "ReceivablesBookLaw", name := "passDays", desc := "(LReceivablesBook;I[J)I" } : Jvm.MethodName) method_7_code (4 : Nat) (Option.some Jvm.ClassFile.FieldType.int) [((0 : Nat), (9 : Nat), (12 : Nat), (13 : Nat)), ((0 : Nat), (9 : Nat), (15 : Nat), (15 : Nat))]) ∈ xTB := xtb_of (N := 422) (by decide +kernel) (by decide +kernel)
theorem tb423 : (Jvm.Cond.methodLink "ReceivablesBookLaw" (29 : Nat) ({ cls := "ReceivablesBook", name := "passDays", desc := "(I)I" } : Jvm.MethodName)) ∈ xTB := xtb_of (N := 423) (by decide +kernel) (by decide +kernel)
theorem tb424 : (Jvm.Cond.instanceMethod ({ cls := "ReceivablesBook", name := "passDays", desc := "(I)I" } : Jvm.MethodName)) ∈ xTB := xtb_of (N := 424) (by decide +kernel) (by decide +kernel)
theorem tb425 : (Jvm.Cond.selects "ReceivablesBook" ({ cls := "ReceivablesBook", name := "passDays", desc := "(I)I" } : Jvm.MethodName) ({ cls := "ReceivablesBook", name := "passDays", desc := "(I)I" } : Jvm.MethodName)) ∈ xTB := xtb_of (N := 425) (by decide +kernel) (by decide +kernel)
theorem tb426 : (Jvm.Cond.code ({ cls := "ReceivablesBook", name := "passDays", desc := "(I)I" } : Jvm.MethodName) prog_1_method_7_code (3 : Nat) (Option.some Jvm.ClassFile.FieldType.int)) ∈ xTB := xtb_of (N := 426) (by decide +kernel) (by decide +kernel)
theorem tb427 : (Jvm.Cond.methodLink "ReceivablesBook" (73 : Nat) ({ cls := "ReceivablesBook", name := "requireState", desc := "(Z)V" } : Jvm.MethodName)) ∈ xTB := xtb_of (N := 427) (by decide +kernel) (by decide +kernel)
theorem tb428 : (Jvm.Cond.static ({ cls := "ReceivablesBook", name := "requireState", desc := "(Z)V" } : Jvm.MethodName)) ∈ xTB := xtb_of (N := 428) (by decide +kernel) (by decide +kernel)
theorem tb429 : (Jvm.Cond.code ({ cls := "ReceivablesBook", name := "requireState", desc := "(Z)V" } : Jvm.MethodName) prog_1_method_57_code (1 : Nat) (Option.none : Option Jvm.ClassFile.FieldType)) ∈ xTB := xtb_of (N := 429) (by decide +kernel) (by decide +kernel)
theorem tb431 : (Jvm.Cond.methodLink "ReceivablesBook" (77 : Nat) ({ cls := "ReceivablesBook", name := "passOneDay", desc := "()V" } : Jvm.MethodName)) ∈ xTB := xtb_of (N := 431) (by decide +kernel) (by decide +kernel)
theorem tb433 : (Jvm.Cond.instanceMethod ({ cls := "ReceivablesBook", name := "passOneDay", desc := "()V" } : Jvm.MethodName)) ∈ xTB := xtb_of (N := 433) (by decide +kernel) (by decide +kernel)
theorem tb434 : (Jvm.Cond.code ({ cls := "ReceivablesBook", name := "passOneDay", desc := "()V" } : Jvm.MethodName) prog_1_method_9_code (2 : Nat) (Option.none : Option Jvm.ClassFile.FieldType)) ∈ xTB := xtb_of (N := 434) (by decide +kernel) (by decide +kernel)
theorem tb435 : (Jvm.Cond.classLink "ReceivablesBook" (90 : Nat) "ReceivablesBook$Invoice") ∈ xTB := xtb_of (N := 435) (by decide +kernel) (by decide +kernel)
theorem tb436 : (Jvm.Cond.methodLink "ReceivablesBook" (92 : Nat) ({ cls := "ReceivablesBook$Invoice", name := "accrueOn", desc := "(I)V" } : Jvm.MethodName)) ∈ xTB := xtb_of (N := 436) (by decide +kernel) (by decide +kernel)
theorem tb437 : (Jvm.Cond.instanceMethod ({ cls := "ReceivablesBook$Invoice", name := "accrueOn", desc := "(I)V" } : Jvm.MethodName)) ∈ xTB := xtb_of (N := 437) (by decide +kernel) (by decide +kernel)
theorem tb438 : (Jvm.Cond.selects "ReceivablesBook$Invoice" ({ cls := "ReceivablesBook$Invoice", name := "accrueOn", desc := "(I)V" } : Jvm.MethodName) ({ cls := "ReceivablesBook$Invoice", name := "accrueOn", desc := "(I)V" } : Jvm.MethodName)) ∈ xTB := xtb_of (N := 438) (by decide +kernel) (by decide +kernel)
theorem tb439 : (Jvm.Cond.code ({ cls := "ReceivablesBook$Invoice", name := "accrueOn", desc := "(I)V" } : Jvm.MethodName) prog_4_method_8_code (3 : Nat) (Option.none : Option Jvm.ClassFile.FieldType)) ∈ xTB := xtb_of (N := 439) (by decide +kernel) (by decide +kernel)
theorem tb440 : (Jvm.Cond.methodLink "ReceivablesBook$Invoice" (59 : Nat) ({ cls := "ReceivablesBook$DayCount", name := "daysBetween", desc := "(III)I" } : Jvm.MethodName)) ∈ xTB := xtb_of (N := 440) (by decide +kernel) (by decide +kernel)
theorem tb441 : (Jvm.Cond.static ({ cls := "ReceivablesBook$DayCount", name := "daysBetween", desc := "(III)I" } : Jvm.MethodName)) ∈ xTB := xtb_of (N := 441) (by decide +kernel) (by decide +kernel)
theorem tb442 : (Jvm.Cond.code ({ cls := "ReceivablesBook$DayCount", name := "daysBetween", desc := "(III)I" } : Jvm.MethodName) prog_3_method_3_code (3 : Nat) (Option.some Jvm.ClassFile.FieldType.int)) ∈ xTB := xtb_of (N := 442) (by decide +kernel) (by decide +kernel)
theorem tb443 : (Jvm.Cond.methodLink "ReceivablesBook$DayCount" (9 : Nat) ({ cls := "ReceivablesBook$DayCount", name := "thirtyDayNumber", desc := "(I)I" } : Jvm.MethodName)) ∈ xTB := xtb_of (N := 443) (by decide +kernel) (by decide +kernel)
theorem tb444 : (Jvm.Cond.static ({ cls := "ReceivablesBook$DayCount", name := "thirtyDayNumber", desc := "(I)I" } : Jvm.MethodName)) ∈ xTB := xtb_of (N := 444) (by decide +kernel) (by decide +kernel)
theorem tb445 : (Jvm.Cond.code ({ cls := "ReceivablesBook$DayCount", name := "thirtyDayNumber", desc := "(I)I" } : Jvm.MethodName) prog_3_method_4_code (4 : Nat) (Option.some Jvm.ClassFile.FieldType.int)) ∈ xTB := xtb_of (N := 445) (by decide +kernel) (by decide +kernel)
theorem tb446 : (Jvm.Cond.methodLink "ReceivablesBook$DayCount" (13 : Nat) ({ cls := "java/lang/Math", name := "min", desc := "(II)I" } : Jvm.MethodName)) ∈ xTB := xtb_of (N := 446) (by decide +kernel) (by decide +kernel)
theorem tb447 : (Jvm.Cond.fieldLink "ReceivablesBook$DayCount" (19 : Nat) "ReceivablesBook$DayCount" "MONTH_DAYS" "[I") ∈ xTB := xtb_of (N := 447) (by decide +kernel) (by decide +kernel)
theorem tb449 : (Jvm.Cond.methodLink "ReceivablesBook$DayCount" (23 : Nat) ({ cls := "ReceivablesBook$DayCount", name := "monthLength", desc := "(II)I" } : Jvm.MethodName)) ∈ xTB := xtb_of (N := 449) (by decide +kernel) (by decide +kernel)
theorem tb450 : (Jvm.Cond.static ({ cls := "ReceivablesBook$DayCount", name := "monthLength", desc := "(II)I" } : Jvm.MethodName)) ∈ xTB := xtb_of (N := 450) (by decide +kernel) (by decide +kernel)
theorem tb451 : (Jvm.Cond.code ({ cls := "ReceivablesBook$DayCount", name := "monthLength", desc := "(II)I" } : Jvm.MethodName) prog_3_method_5_code (3 : Nat) (Option.some Jvm.ClassFile.FieldType.int)) ∈ xTB := xtb_of (N := 451) (by decide +kernel) (by decide +kernel)
theorem tb452 : (Jvm.Cond.methodLink "ReceivablesBook$Invoice" (69 : Nat) ({ cls := "ReceivablesBook$Invoice", name := "clearAmount", desc := "()I" } : Jvm.MethodName)) ∈ xTB := xtb_of (N := 452) (by decide +kernel) (by decide +kernel)
theorem tb453 : (Jvm.Cond.instanceMethod ({ cls := "ReceivablesBook$Invoice", name := "clearAmount", desc := "()I" } : Jvm.MethodName)) ∈ xTB := xtb_of (N := 453) (by decide +kernel) (by decide +kernel)
theorem tb454 : (Jvm.Cond.selects "ReceivablesBook$Invoice" ({ cls := "ReceivablesBook$Invoice", name := "clearAmount", desc := "()I" } : Jvm.MethodName) ({ cls := "ReceivablesBook$Invoice", name := "clearAmount", desc := "()I" } : Jvm.MethodName)) ∈ xTB := xtb_of (N := 454) (by decide +kernel) (by decide +kernel)
theorem tb455 : (Jvm.Cond.code ({ cls := "ReceivablesBook$Invoice", name := "clearAmount", desc := "()I" } : Jvm.MethodName) prog_4_method_3_code (1 : Nat) (Option.some Jvm.ClassFile.FieldType.int)) ∈ xTB := xtb_of (N := 455) (by decide +kernel) (by decide +kernel)
theorem tb456 : (Jvm.Cond.methodLink "ReceivablesBook$Invoice" (32 : Nat) ({ cls := "ReceivablesBook$Invoice", name := "openAmount", desc := "()I" } : Jvm.MethodName)) ∈ xTB := xtb_of (N := 456) (by decide +kernel) (by decide +kernel)
theorem tb457 : (Jvm.Cond.instanceMethod ({ cls := "ReceivablesBook$Invoice", name := "openAmount", desc := "()I" } : Jvm.MethodName)) ∈ xTB := xtb_of (N := 457) (by decide +kernel) (by decide +kernel)
theorem tb458 : (Jvm.Cond.selects "ReceivablesBook$Invoice" ({ cls := "ReceivablesBook$Invoice", name := "openAmount", desc := "()I" } : Jvm.MethodName) ({ cls := "ReceivablesBook$Invoice", name := "openAmount", desc := "()I" } : Jvm.MethodName)) ∈ xTB := xtb_of (N := 458) (by decide +kernel) (by decide +kernel)
theorem tb459 : (Jvm.Cond.code ({ cls := "ReceivablesBook$Invoice", name := "openAmount", desc := "()I" } : Jvm.MethodName) prog_4_method_2_code (1 : Nat) (Option.some Jvm.ClassFile.FieldType.int)) ∈ xTB := xtb_of (N := 459) (by decide +kernel) (by decide +kernel)
theorem tb460 : (Jvm.Cond.methodLink "ReceivablesBook" (96 : Nat) ({ cls := "ReceivablesBook$Invoice", name := "waitOn", desc := "(I)V" } : Jvm.MethodName)) ∈ xTB := xtb_of (N := 460) (by decide +kernel) (by decide +kernel)
theorem tb461 : (Jvm.Cond.instanceMethod ({ cls := "ReceivablesBook$Invoice", name := "waitOn", desc := "(I)V" } : Jvm.MethodName)) ∈ xTB := xtb_of (N := 461) (by decide +kernel) (by decide +kernel)
theorem tb462 : (Jvm.Cond.selects "ReceivablesBook$Invoice" ({ cls := "ReceivablesBook$Invoice", name := "waitOn", desc := "(I)V" } : Jvm.MethodName) ({ cls := "ReceivablesBook$Invoice", name := "waitOn", desc := "(I)V" } : Jvm.MethodName)) ∈ xTB := xtb_of (N := 462) (by decide +kernel) (by decide +kernel)
theorem tb463 : (Jvm.Cond.code ({ cls := "ReceivablesBook$Invoice", name := "waitOn", desc := "(I)V" } : Jvm.MethodName) prog_4_method_11_code (2 : Nat) (Option.none : Option Jvm.ClassFile.FieldType)) ∈ xTB := xtb_of (N := 463) (by decide +kernel) (by decide +kernel)
theorem tb464 : (Jvm.Cond.methodLink "ReceivablesBook$Invoice" (82 : Nat) ({ cls := "ReceivablesBook$Invoice", name := "canBeReminded", desc := "()Z" } : Jvm.MethodName)) ∈ xTB := xtb_of (N := 464) (by decide +kernel) (by decide +kernel)
theorem tb466 : (Jvm.Cond.instanceMethod ({ cls := "ReceivablesBook$Invoice", name := "canBeReminded", desc := "()Z" } : Jvm.MethodName)) ∈ xTB := xtb_of (N := 466) (by decide +kernel) (by decide +kernel)
theorem tb467 : (Jvm.Cond.instantiable "ReceivablesBook$Invoice" (10 : Nat)) ∈ xTB := xtb_of (N := 467) (by decide +kernel) (by decide +kernel)
theorem tb468 : (Jvm.Cond.code ({ cls := "ReceivablesBook$Invoice", name := "canBeReminded", desc := "()Z" } : Jvm.MethodName) prog_4_method_13_code (1 : Nat) (Option.some Jvm.ClassFile.FieldType.boolean)) ∈ xTB := xtb_of (N := 468) (by decide +kernel) (by decide +kernel)
theorem tb469 : (Jvm.Cond.methodLink "ReceivablesBook$Invoice" (89 : Nat) ({ cls := "ReceivablesBook$Invoice", name := "waitOfLevel", desc := "()I" } : Jvm.MethodName)) ∈ xTB := xtb_of (N := 469) (by decide +kernel) (by decide +kernel)
theorem tb471 : (Jvm.Cond.instanceMethod ({ cls := "ReceivablesBook$Invoice", name := "waitOfLevel", desc := "()I" } : Jvm.MethodName)) ∈ xTB := xtb_of (N := 471) (by decide +kernel) (by decide +kernel)
theorem tb472 : (Jvm.Cond.code ({ cls := "ReceivablesBook$Invoice", name := "waitOfLevel", desc := "()I" } : Jvm.MethodName) prog_4_method_14_code (1 : Nat) (Option.some Jvm.ClassFile.FieldType.int)) ∈ xTB := xtb_of (N := 472) (by decide +kernel) (by decide +kernel)
theorem tb473 : (Jvm.Cond.methodLink "ReceivablesBookLaw" (153 : Nat) ({ cls := "ReceivablesBookLaw", name := "countDays", desc := "(LReceivablesBook;III[J)I" } : Jvm.MethodName)) ∈ xTB := xtb_of (N := 473) (by decide +kernel) (by decide +kernel)
theorem tb474 : (Jvm.Cond.static ({ cls := "ReceivablesBookLaw", name := "countDays", desc := "(LReceivablesBook;III[J)I" } : Jvm.MethodName)) ∈ xTB := xtb_of (N := 474) (by decide +kernel) (by decide +kernel)
theorem tb475 : (Jvm.Cond.codeWith ({ cls := "ReceivablesBookLaw", name := "countDays", desc := "(LReceivablesBook;III[J)I" } : Jvm.MethodName) method_8_code (6 : Nat) (Option.some Jvm.ClassFile.FieldType.int) [((0 : Nat), (12 : Nat), (15 : Nat), (13 : Nat))]) ∈ xTB := xtb_of (N := 475) (by decide +kernel) (by decide +kernel)
theorem tb476 : (Jvm.Cond.methodLink "ReceivablesBookLaw" (33 : Nat) ({ cls := "ReceivablesBook", name := "countDays", desc := "(III)I" } : Jvm.MethodName)) ∈ xTB := xtb_of (N := 476) (by decide +kernel) (by decide +kernel)
theorem tb477 : (Jvm.Cond.instanceMethod ({ cls := "ReceivablesBook", name := "countDays", desc := "(III)I" } : Jvm.MethodName)) ∈ xTB := xtb_of (N := 477) (by decide +kernel) (by decide +kernel)
theorem tb478 : (Jvm.Cond.selects "ReceivablesBook" ({ cls := "ReceivablesBook", name := "countDays", desc := "(III)I" } : Jvm.MethodName) ({ cls := "ReceivablesBook", name := "countDays", desc := "(III)I" } : Jvm.MethodName)) ∈ xTB := xtb_of (N := 478) (by decide +kernel) (by decide +kernel)
theorem tb479 : (Jvm.Cond.code ({ cls := "ReceivablesBook", name := "countDays", desc := "(III)I" } : Jvm.MethodName) prog_1_method_8_code (4 : Nat) (Option.some Jvm.ClassFile.FieldType.int)) ∈ xTB := xtb_of (N := 479) (by decide +kernel) (by decide +kernel)
theorem tb480 : (Jvm.Cond.methodLink "ReceivablesBook" (80 : Nat) ({ cls := "ReceivablesBook$DayCount", name := "daysBetween", desc := "(III)I" } : Jvm.MethodName)) ∈ xTB := xtb_of (N := 480) (by decide +kernel) (by decide +kernel)
theorem tb481 : (Jvm.Cond.methodLink "ReceivablesBookLaw" (156 : Nat) ({ cls := "ReceivablesBookLaw", name := "postInvoice", desc := "(LReceivablesBook;III[J)I" } : Jvm.MethodName)) ∈ xTB := xtb_of (N := 481) (by decide +kernel) (by decide +kernel)
theorem tb482 : (Jvm.Cond.static ({ cls := "ReceivablesBookLaw", name := "postInvoice", desc := "(LReceivablesBook;III[J)I" } : Jvm.MethodName)) ∈ xTB := xtb_of (N := 482) (by decide +kernel) (by decide +kernel)
theorem tb483 : (Jvm.Cond.codeWith ({ cls := "ReceivablesBookLaw", name := "postInvoice", desc := "(LReceivablesBook;III[J)I" } : Jvm.MethodName) method_9_code (6 : Nat) (Option.some Jvm.ClassFile.FieldType.int) [((0 : Nat), (12 : Nat), (15 : Nat), (21 : Nat)), ((0 : Nat), (12 : Nat), (19 : Nat), (13 : Nat)), ((0 : Nat), (12 : Nat), (23 : Nat), (15 : Nat))]) ∈ xTB := xtb_of (N := 483) (by decide +kernel) (by decide +kernel)
theorem tb484 : (Jvm.Cond.methodLink "ReceivablesBookLaw" (36 : Nat) ({ cls := "ReceivablesBook", name := "postInvoice", desc := "(III)I" } : Jvm.MethodName)) ∈ xTB := xtb_of (N := 484) (by decide +kernel) (by decide +kernel)
theorem tb485 : (Jvm.Cond.instanceMethod ({ cls := "ReceivablesBook", name := "postInvoice", desc := "(III)I" } : Jvm.MethodName)) ∈ xTB := xtb_of (N := 485) (by decide +kernel) (by decide +kernel)
theorem tb486 : (Jvm.Cond.selects "ReceivablesBook" ({ cls := "ReceivablesBook", name := "postInvoice", desc := "(III)I" } : Jvm.MethodName) ({ cls := "ReceivablesBook", name := "postInvoice", desc := "(III)I" } : Jvm.MethodName)) ∈ xTB := xtb_of (N := 486) (by decide +kernel) (by decide +kernel)
theorem tb487 : (Jvm.Cond.code ({ cls := "ReceivablesBook", name := "postInvoice", desc := "(III)I" } : Jvm.MethodName) prog_1_method_10_code (5 : Nat) (Option.some Jvm.ClassFile.FieldType.int)) ∈ xTB := xtb_of (N := 487) (by decide +kernel) (by decide +kernel)
theorem tb488 : (Jvm.Cond.constant "ReceivablesBook" (99 : Nat) (10000000 : Int32)) ∈ xTB := xtb_of (N := 488) (by decide +kernel) (by decide +kernel)
theorem tb489 : (Jvm.Cond.methodLink "ReceivablesBook" (100 : Nat) ({ cls := "ReceivablesBook$Invoice", name := "<init>", desc := "(LReceivablesBook$Customer;IIZ)V" } : Jvm.MethodName)) ∈ xTB := xtb_of (N := 489) (by decide +kernel) (by decide +kernel)
theorem tb490 : (Jvm.Cond.instanceMethod ({ cls := "ReceivablesBook$Invoice", name := "<init>", desc := "(LReceivablesBook$Customer;IIZ)V" } : Jvm.MethodName)) ∈ xTB := xtb_of (N := 490) (by decide +kernel) (by decide +kernel)
theorem tb491 : (Jvm.Cond.code ({ cls := "ReceivablesBook$Invoice", name := "<init>", desc := "(LReceivablesBook$Customer;IIZ)V" } : Jvm.MethodName) prog_4_method_1_code (5 : Nat) (Option.none : Option Jvm.ClassFile.FieldType)) ∈ xTB := xtb_of (N := 491) (by decide +kernel) (by decide +kernel)
theorem tb492 : (Jvm.Cond.methodLink "ReceivablesBook$Invoice" (3 : Nat) ({ cls := "java/lang/Object", name := "<init>", desc := "()V" } : Jvm.MethodName)) ∈ xTB := xtb_of (N := 492) (by decide +kernel) (by decide +kernel)
theorem tb493 : (Jvm.Cond.fieldLink "ReceivablesBook$Invoice" (9 : Nat) "ReceivablesBook$Invoice" "owner" "LReceivablesBook$Customer;") ∈ xTB := xtb_of (N := 493) (by decide +kernel) (by decide +kernel)
theorem tb494 : (Jvm.Cond.fieldLink "ReceivablesBook" (127 : Nat) "ReceivablesBook$Invoice" "owner" "LReceivablesBook$Customer;") ∈ xTB := xtb_of (N := 494) (by decide +kernel) (by decide +kernel)
theorem tb495 : (Jvm.Cond.fieldLink "ReceivablesBook$Invoice" (15 : Nat) "ReceivablesBook$Invoice" "amount" "I") ∈ xTB := xtb_of (N := 495) (by decide +kernel) (by decide +kernel)
theorem tb496 : (Jvm.Cond.fieldLink "ReceivablesBook" (150 : Nat) "ReceivablesBook$Invoice" "amount" "I") ∈ xTB := xtb_of (N := 496) (by decide +kernel) (by decide +kernel)
theorem tb497 : (Jvm.Cond.fieldLink "ReceivablesBook$Invoice" (19 : Nat) "ReceivablesBook$Invoice" "dueDay" "I") ∈ xTB := xtb_of (N := 497) (by decide +kernel) (by decide +kernel)
theorem tb498 : (Jvm.Cond.fieldLink "ReceivablesBook" (186 : Nat) "ReceivablesBook$Invoice" "dueDay" "I") ∈ xTB := xtb_of (N := 498) (by decide +kernel) (by decide +kernel)
theorem tb499 : (Jvm.Cond.fieldLink "ReceivablesBook$Invoice" (22 : Nat) "ReceivablesBook$Invoice" "interest" "Z") ∈ xTB := xtb_of (N := 499) (by decide +kernel) (by decide +kernel)
theorem tb500 : (Jvm.Cond.fieldLink "ReceivablesBook" (228 : Nat) "ReceivablesBook$Invoice" "interest" "Z") ∈ xTB := xtb_of (N := 500) (by decide +kernel) (by decide +kernel)
theorem tb501 : (Jvm.Cond.fieldLink "ReceivablesBook$Invoice" (36 : Nat) "ReceivablesBook$Invoice" "disputed" "I") ∈ xTB := xtb_of (N := 501) (by decide +kernel) (by decide +kernel)
theorem tb502 : (Jvm.Cond.fieldLink "ReceivablesBook" (205 : Nat) "ReceivablesBook$Invoice" "disputed" "I") ∈ xTB := xtb_of (N := 502) (by decide +kernel) (by decide +kernel)
theorem tb503 : (Jvm.Cond.fieldLink "ReceivablesBook$Invoice" (51 : Nat) "ReceivablesBook$Invoice" "level" "I") ∈ xTB := xtb_of (N := 503) (by decide +kernel) (by decide +kernel)
theorem tb504 : (Jvm.Cond.fieldLink "ReceivablesBook" (240 : Nat) "ReceivablesBook$Invoice" "level" "I") ∈ xTB := xtb_of (N := 504) (by decide +kernel) (by decide +kernel)
theorem tb505 : (Jvm.Cond.fieldLink "ReceivablesBook$Invoice" (29 : Nat) "ReceivablesBook$Invoice" "paid" "I") ∈ xTB := xtb_of (N := 505) (by decide +kernel) (by decide +kernel)
theorem tb506 : (Jvm.Cond.fieldLink "ReceivablesBook$Invoice" (26 : Nat) "ReceivablesBook$Invoice" "credited" "I") ∈ xTB := xtb_of (N := 506) (by decide +kernel) (by decide +kernel)
theorem tb507 : (Jvm.Cond.fieldLink "ReceivablesBook$Invoice" (45 : Nat) "ReceivablesBook$Invoice" "waited" "I") ∈ xTB := xtb_of (N := 507) (by decide +kernel) (by decide +kernel)
theorem tb508 : (Jvm.Cond.fieldLink "ReceivablesBook$Invoice" (65 : Nat) "ReceivablesBook$Invoice" "accruedSum" "J") ∈ xTB := xtb_of (N := 508) (by decide +kernel) (by decide +kernel)
theorem tb530 : (Jvm.Cond.methodLink "ReceivablesBook" (103 : Nat) ({ cls := "ReceivablesBook", name := "enterInvoice", desc := "(LReceivablesBook$Invoice;)I" } : Jvm.MethodName)) ∈ xTB := xtb_of (N := 530) (by decide +kernel) (by decide +kernel)
theorem tb532 : (Jvm.Cond.instanceMethod ({ cls := "ReceivablesBook", name := "enterInvoice", desc := "(LReceivablesBook$Invoice;)I" } : Jvm.MethodName)) ∈ xTB := xtb_of (N := 532) (by decide +kernel) (by decide +kernel)
theorem tb533 : (Jvm.Cond.code ({ cls := "ReceivablesBook", name := "enterInvoice", desc := "(LReceivablesBook$Invoice;)I" } : Jvm.MethodName) prog_1_method_16_code (3 : Nat) (Option.some Jvm.ClassFile.FieldType.int)) ∈ xTB := xtb_of (N := 533) (by decide +kernel) (by decide +kernel)
theorem tb534 : (Jvm.Cond.methodLink "ReceivablesBook" (153 : Nat) ({ cls := "ReceivablesBook$Ledger", name := "write", desc := "(II)V" } : Jvm.MethodName)) ∈ xTB := xtb_of (N := 534) (by decide +kernel) (by decide +kernel)
theorem tb535 : (Jvm.Cond.instanceMethod ({ cls := "ReceivablesBook$Ledger", name := "write", desc := "(II)V" } : Jvm.MethodName)) ∈ xTB := xtb_of (N := 535) (by decide +kernel) (by decide +kernel)
theorem tb536 : (Jvm.Cond.selects "ReceivablesBook$Ledger" ({ cls := "ReceivablesBook$Ledger", name := "write", desc := "(II)V" } : Jvm.MethodName) ({ cls := "ReceivablesBook$Ledger", name := "write", desc := "(II)V" } : Jvm.MethodName)) ∈ xTB := xtb_of (N := 536) (by decide +kernel) (by decide +kernel)
theorem tb537 : (Jvm.Cond.code ({ cls := "ReceivablesBook$Ledger", name := "write", desc := "(II)V" } : Jvm.MethodName) prog_5_method_2_code (3 : Nat) (Option.none : Option Jvm.ClassFile.FieldType)) ∈ xTB := xtb_of (N := 537) (by decide +kernel) (by decide +kernel)
theorem tb538 : (Jvm.Cond.methodLink "ReceivablesBook$Ledger" (20 : Nat) ({ cls := "ReceivablesBook$Ledger", name := "doubleRoom", desc := "()V" } : Jvm.MethodName)) ∈ xTB := xtb_of (N := 538) (by decide +kernel) (by decide +kernel)
theorem tb540 : (Jvm.Cond.instanceMethod ({ cls := "ReceivablesBook$Ledger", name := "doubleRoom", desc := "()V" } : Jvm.MethodName)) ∈ xTB := xtb_of (N := 540) (by decide +kernel) (by decide +kernel)
theorem tb541 : (Jvm.Cond.code ({ cls := "ReceivablesBook$Ledger", name := "doubleRoom", desc := "()V" } : Jvm.MethodName) prog_5_method_3_code (1 : Nat) (Option.none : Option Jvm.ClassFile.FieldType)) ∈ xTB := xtb_of (N := 541) (by decide +kernel) (by decide +kernel)
theorem tb542 : (Jvm.Cond.methodLink "ReceivablesBook$Ledger" (23 : Nat) ({ cls := "java/util/Arrays", name := "copyOf", desc := "([II)[I" } : Jvm.MethodName)) ∈ xTB := xtb_of (N := 542) (by decide +kernel) (by decide +kernel)
theorem tb543 : (Jvm.Cond.static ({ cls := "java/util/Arrays", name := "copyOf", desc := "([II)[I" } : Jvm.MethodName)) ∈ xTB := xtb_of (N := 543) (by decide +kernel) (by decide +kernel)
theorem tb544 : (Jvm.Cond.code ({ cls := "java/util/Arrays", name := "copyOf", desc := "([II)[I" } : Jvm.MethodName) prog_25_method_123_code (3 : Nat) (Option.some (Jvm.ClassFile.FieldType.array Jvm.ClassFile.FieldType.int))) ∈ xTB := xtb_of (N := 544) (by decide +kernel) (by decide +kernel)
theorem tb545 : (Jvm.Cond.methodLink "java/util/Arrays" (316 : Nat) ({ cls := "[I", name := "clone", desc := "()Ljava/lang/Object;" } : Jvm.MethodName)) ∈ xTB := xtb_of (N := 545) (by decide +kernel) (by decide +kernel)
theorem tb546 : (Jvm.Cond.sameMethod "[I" "java/lang/Object" "clone" "()Ljava/lang/Object;") ∈ xTB := xtb_of (N := 546) (by decide +kernel) (by decide +kernel)
theorem tb547 : (Jvm.Cond.native ({ cls := "java/lang/Object", name := "clone", desc := "()Ljava/lang/Object;" } : Jvm.MethodName)) ∈ xTB := xtb_of (N := 547) (by decide +kernel) (by decide +kernel)
theorem tb548 : (Jvm.Cond.instanceMethod ({ cls := "java/lang/Object", name := "clone", desc := "()Ljava/lang/Object;" } : Jvm.MethodName)) ∈ xTB := xtb_of (N := 548) (by decide +kernel) (by decide +kernel)
theorem tb549 : (Jvm.Cond.selects "[I" ({ cls := "[I", name := "clone", desc := "()Ljava/lang/Object;" } : Jvm.MethodName) ({ cls := "java/lang/Object", name := "clone", desc := "()Ljava/lang/Object;" } : Jvm.MethodName)) ∈ xTB := xtb_of (N := 549) (by decide +kernel) (by decide +kernel)
theorem tb550 : (Jvm.Cond.castable "[I" "java/lang/Cloneable") ∈ xTN := xtn_of (N := 550) (by decide +kernel) (by decide +kernel)
theorem tb551 : (Jvm.Cond.classLink "java/util/Arrays" (317 : Nat) "[I") ∈ xTB := xtb_of (N := 551) (by decide +kernel) (by decide +kernel)
theorem tb552 : (Jvm.Cond.methodLink "ReceivablesBookLaw" (159 : Nat) ({ cls := "ReceivablesBookLaw", name := "postPayment", desc := "(LReceivablesBook;II[J)I" } : Jvm.MethodName)) ∈ xTB := xtb_of (N := 552) (by decide +kernel) (by decide +kernel)
theorem tb553 : (Jvm.Cond.static ({ cls := "ReceivablesBookLaw", name := "postPayment", desc := "(LReceivablesBook;II[J)I" } : Jvm.MethodName)) ∈ xTB := xtb_of (N := 553) (by decide +kernel) (by decide +kernel)
theorem tb554 : (Jvm.Cond.codeWith ({ cls := "ReceivablesBookLaw", name := "postPayment", desc := "(LReceivablesBook;II[J)I" } : Jvm.MethodName) method_10_code (5 : Nat) (Option.some Jvm.ClassFile.FieldType.int) [((0 : Nat), (10 : Nat), (13 : Nat), (21 : Nat)), ((0 : Nat), (10 : Nat), (17 : Nat), (13 : Nat)), ((0 : Nat), (10 : Nat), (21 : Nat), (15 : Nat))]) ∈ xTB := xtb_of (N := 554) (by decide +kernel) (by decide +kernel)
theorem tb555 : (Jvm.Cond.methodLink "ReceivablesBookLaw" (39 : Nat) ({ cls := "ReceivablesBook", name := "postPayment", desc := "(II)I" } : Jvm.MethodName)) ∈ xTB := xtb_of (N := 555) (by decide +kernel) (by decide +kernel)
theorem tb556 : (Jvm.Cond.instanceMethod ({ cls := "ReceivablesBook", name := "postPayment", desc := "(II)I" } : Jvm.MethodName)) ∈ xTB := xtb_of (N := 556) (by decide +kernel) (by decide +kernel)
theorem tb557 : (Jvm.Cond.selects "ReceivablesBook" ({ cls := "ReceivablesBook", name := "postPayment", desc := "(II)I" } : Jvm.MethodName) ({ cls := "ReceivablesBook", name := "postPayment", desc := "(II)I" } : Jvm.MethodName)) ∈ xTB := xtb_of (N := 557) (by decide +kernel) (by decide +kernel)
theorem tb558 : (Jvm.Cond.code ({ cls := "ReceivablesBook", name := "postPayment", desc := "(II)I" } : Jvm.MethodName) prog_1_method_11_code (5 : Nat) (Option.some Jvm.ClassFile.FieldType.int)) ∈ xTB := xtb_of (N := 558) (by decide +kernel) (by decide +kernel)
theorem tb559 : (Jvm.Cond.classLink "ReceivablesBook" (107 : Nat) "ReceivablesBook$Payment") ∈ xTB := xtb_of (N := 559) (by decide +kernel) (by decide +kernel)
theorem tb560 : (Jvm.Cond.instantiable "ReceivablesBook$Payment" (5 : Nat)) ∈ xTB := xtb_of (N := 560) (by decide +kernel) (by decide +kernel)
theorem tb561 : (Jvm.Cond.methodLink "ReceivablesBook" (109 : Nat) ({ cls := "ReceivablesBook$Payment", name := "<init>", desc := "(LReceivablesBook$Customer;I)V" } : Jvm.MethodName)) ∈ xTB := xtb_of (N := 561) (by decide +kernel) (by decide +kernel)
theorem tb562 : (Jvm.Cond.instanceMethod ({ cls := "ReceivablesBook$Payment", name := "<init>", desc := "(LReceivablesBook$Customer;I)V" } : Jvm.MethodName)) ∈ xTB := xtb_of (N := 562) (by decide +kernel) (by decide +kernel)
theorem tb563 : (Jvm.Cond.code ({ cls := "ReceivablesBook$Payment", name := "<init>", desc := "(LReceivablesBook$Customer;I)V" } : Jvm.MethodName) prog_6_method_1_code (3 : Nat) (Option.none : Option Jvm.ClassFile.FieldType)) ∈ xTB := xtb_of (N := 563) (by decide +kernel) (by decide +kernel)
theorem tb564 : (Jvm.Cond.methodLink "ReceivablesBook$Payment" (3 : Nat) ({ cls := "java/lang/Object", name := "<init>", desc := "()V" } : Jvm.MethodName)) ∈ xTB := xtb_of (N := 564) (by decide +kernel) (by decide +kernel)
theorem tb565 : (Jvm.Cond.fieldLink "ReceivablesBook$Payment" (15 : Nat) "ReceivablesBook$Payment" "owner" "LReceivablesBook$Customer;") ∈ xTB := xtb_of (N := 565) (by decide +kernel) (by decide +kernel)
theorem tb566 : (Jvm.Cond.fieldLink "ReceivablesBook" (131 : Nat) "ReceivablesBook$Payment" "owner" "LReceivablesBook$Customer;") ∈ xTB := xtb_of (N := 566) (by decide +kernel) (by decide +kernel)
theorem tb567 : (Jvm.Cond.fieldLink "ReceivablesBook$Payment" (23 : Nat) "ReceivablesBook$Payment" "reversed" "Z") ∈ xTB := xtb_of (N := 567) (by decide +kernel) (by decide +kernel)
theorem tb568 : (Jvm.Cond.fieldLink "ReceivablesBook" (146 : Nat) "ReceivablesBook$Payment" "reversed" "Z") ∈ xTB := xtb_of (N := 568) (by decide +kernel) (by decide +kernel)
theorem tb569 : (Jvm.Cond.fieldLink "ReceivablesBook$Payment" (19 : Nat) "ReceivablesBook$Payment" "amount" "I") ∈ xTB := xtb_of (N := 569) (by decide +kernel) (by decide +kernel)
theorem tb570 : (Jvm.Cond.fieldLink "ReceivablesBook$Payment" (9 : Nat) "ReceivablesBook$Payment" "spentByInvoice" "[I") ∈ xTB := xtb_of (N := 570) (by decide +kernel) (by decide +kernel)
theorem tb571 : (Jvm.Cond.fieldLink "ReceivablesBook$Payment" (27 : Nat) "ReceivablesBook$Payment" "spent" "I") ∈ xTB := xtb_of (N := 571) (by decide +kernel) (by decide +kernel)
theorem tb583 : (Jvm.Cond.methodLink "ReceivablesBook" (112 : Nat) ({ cls := "ReceivablesBook", name := "allocateByRule", desc := "(LReceivablesBook$Payment;)I" } : Jvm.MethodName)) ∈ xTB := xtb_of (N := 583) (by decide +kernel) (by decide +kernel)
theorem tb585 : (Jvm.Cond.instanceMethod ({ cls := "ReceivablesBook", name := "allocateByRule", desc := "(LReceivablesBook$Payment;)I" } : Jvm.MethodName)) ∈ xTB := xtb_of (N := 585) (by decide +kernel) (by decide +kernel)
theorem tb586 : (Jvm.Cond.code ({ cls := "ReceivablesBook", name := "allocateByRule", desc := "(LReceivablesBook$Payment;)I" } : Jvm.MethodName) prog_1_method_17_code (6 : Nat) (Option.some Jvm.ClassFile.FieldType.int)) ∈ xTB := xtb_of (N := 586) (by decide +kernel) (by decide +kernel)
theorem tb587 : (Jvm.Cond.methodLink "ReceivablesBook" (132 : Nat) ({ cls := "ReceivablesBook$Payment", name := "unspent", desc := "()I" } : Jvm.MethodName)) ∈ xTB := xtb_of (N := 587) (by decide +kernel) (by decide +kernel)
theorem tb588 : (Jvm.Cond.instanceMethod ({ cls := "ReceivablesBook$Payment", name := "unspent", desc := "()I" } : Jvm.MethodName)) ∈ xTB := xtb_of (N := 588) (by decide +kernel) (by decide +kernel)
theorem tb589 : (Jvm.Cond.selects "ReceivablesBook$Payment" ({ cls := "ReceivablesBook$Payment", name := "unspent", desc := "()I" } : Jvm.MethodName) ({ cls := "ReceivablesBook$Payment", name := "unspent", desc := "()I" } : Jvm.MethodName)) ∈ xTB := xtb_of (N := 589) (by decide +kernel) (by decide +kernel)
theorem tb590 : (Jvm.Cond.code ({ cls := "ReceivablesBook$Payment", name := "unspent", desc := "()I" } : Jvm.MethodName) prog_6_method_2_code (1 : Nat) (Option.some Jvm.ClassFile.FieldType.int)) ∈ xTB := xtb_of (N := 590) (by decide +kernel) (by decide +kernel)
theorem tb591 : (Jvm.Cond.methodLink "ReceivablesBook" (156 : Nat) ({ cls := "ReceivablesBook", name := "weighClearAmounts", desc := "(LReceivablesBook$Customer;)V" } : Jvm.MethodName)) ∈ xTB := xtb_of (N := 591) (by decide +kernel) (by decide +kernel)
theorem tb593 : (Jvm.Cond.instanceMethod ({ cls := "ReceivablesBook", name := "weighClearAmounts", desc := "(LReceivablesBook$Customer;)V" } : Jvm.MethodName)) ∈ xTB := xtb_of (N := 593) (by decide +kernel) (by decide +kernel)
theorem tb594 : (Jvm.Cond.code ({ cls := "ReceivablesBook", name := "weighClearAmounts", desc := "(LReceivablesBook$Customer;)V" } : Jvm.MethodName) prog_1_method_18_code (4 : Nat) (Option.none : Option Jvm.ClassFile.FieldType)) ∈ xTB := xtb_of (N := 594) (by decide +kernel) (by decide +kernel)
theorem tb595 : (Jvm.Cond.methodLink "ReceivablesBook" (170 : Nat) ({ cls := "ReceivablesBook$Shares", name := "reset", desc := "()V" } : Jvm.MethodName)) ∈ xTB := xtb_of (N := 595) (by decide +kernel) (by decide +kernel)
theorem tb596 : (Jvm.Cond.instanceMethod ({ cls := "ReceivablesBook$Shares", name := "reset", desc := "()V" } : Jvm.MethodName)) ∈ xTB := xtb_of (N := 596) (by decide +kernel) (by decide +kernel)
theorem tb597 : (Jvm.Cond.selects "ReceivablesBook$Shares" ({ cls := "ReceivablesBook$Shares", name := "reset", desc := "()V" } : Jvm.MethodName) ({ cls := "ReceivablesBook$Shares", name := "reset", desc := "()V" } : Jvm.MethodName)) ∈ xTB := xtb_of (N := 597) (by decide +kernel) (by decide +kernel)
theorem tb598 : (Jvm.Cond.code ({ cls := "ReceivablesBook$Shares", name := "reset", desc := "()V" } : Jvm.MethodName) prog_7_method_2_code (1 : Nat) (Option.none : Option Jvm.ClassFile.FieldType)) ∈ xTB := xtb_of (N := 598) (by decide +kernel) (by decide +kernel)
theorem tb599 : (Jvm.Cond.methodLink "ReceivablesBook$Shares" (22 : Nat) ({ cls := "java/util/Arrays", name := "fill", desc := "([II)V" } : Jvm.MethodName)) ∈ xTB := xtb_of (N := 599) (by decide +kernel) (by decide +kernel)
theorem tb600 : (Jvm.Cond.static ({ cls := "java/util/Arrays", name := "fill", desc := "([II)V" } : Jvm.MethodName)) ∈ xTB := xtb_of (N := 600) (by decide +kernel) (by decide +kernel)
theorem tb601 : (Jvm.Cond.code ({ cls := "java/util/Arrays", name := "fill", desc := "([II)V" } : Jvm.MethodName) prog_25_method_103_code (4 : Nat) (Option.none : Option Jvm.ClassFile.FieldType)) ∈ xTB := xtb_of (N := 601) (by decide +kernel) (by decide +kernel)
theorem tb602 : (Jvm.Cond.methodLink "ReceivablesBook" (173 : Nat) ({ cls := "ReceivablesBook$Invoice", name := "clearAmount", desc := "()I" } : Jvm.MethodName)) ∈ xTB := xtb_of (N := 602) (by decide +kernel) (by decide +kernel)
theorem tb603 : (Jvm.Cond.methodLink "ReceivablesBook" (176 : Nat) ({ cls := "ReceivablesBook$Shares", name := "setWeight", desc := "(II)V" } : Jvm.MethodName)) ∈ xTB := xtb_of (N := 603) (by decide +kernel) (by decide +kernel)
theorem tb604 : (Jvm.Cond.instanceMethod ({ cls := "ReceivablesBook$Shares", name := "setWeight", desc := "(II)V" } : Jvm.MethodName)) ∈ xTB := xtb_of (N := 604) (by decide +kernel) (by decide +kernel)
theorem tb605 : (Jvm.Cond.selects "ReceivablesBook$Shares" ({ cls := "ReceivablesBook$Shares", name := "setWeight", desc := "(II)V" } : Jvm.MethodName) ({ cls := "ReceivablesBook$Shares", name := "setWeight", desc := "(II)V" } : Jvm.MethodName)) ∈ xTB := xtb_of (N := 605) (by decide +kernel) (by decide +kernel)
theorem tb606 : (Jvm.Cond.code ({ cls := "ReceivablesBook$Shares", name := "setWeight", desc := "(II)V" } : Jvm.MethodName) prog_7_method_3_code (3 : Nat) (Option.none : Option Jvm.ClassFile.FieldType)) ∈ xTB := xtb_of (N := 606) (by decide +kernel) (by decide +kernel)
theorem tb607 : (Jvm.Cond.methodLink "ReceivablesBook" (160 : Nat) ({ cls := "ReceivablesBook", name := "shareOldestFirst", desc := "(I)V" } : Jvm.MethodName)) ∈ xTB := xtb_of (N := 607) (by decide +kernel) (by decide +kernel)
theorem tb609 : (Jvm.Cond.instanceMethod ({ cls := "ReceivablesBook", name := "shareOldestFirst", desc := "(I)V" } : Jvm.MethodName)) ∈ xTB := xtb_of (N := 609) (by decide +kernel) (by decide +kernel)
theorem tb610 : (Jvm.Cond.code ({ cls := "ReceivablesBook", name := "shareOldestFirst", desc := "(I)V" } : Jvm.MethodName) prog_1_method_19_code (5 : Nat) (Option.none : Option Jvm.ClassFile.FieldType)) ∈ xTB := xtb_of (N := 610) (by decide +kernel) (by decide +kernel)
theorem tb611 : (Jvm.Cond.methodLink "ReceivablesBook" (179 : Nat) ({ cls := "ReceivablesBook", name := "oldestWithoutPart", desc := "()I" } : Jvm.MethodName)) ∈ xTB := xtb_of (N := 611) (by decide +kernel) (by decide +kernel)
theorem tb613 : (Jvm.Cond.instanceMethod ({ cls := "ReceivablesBook", name := "oldestWithoutPart", desc := "()I" } : Jvm.MethodName)) ∈ xTB := xtb_of (N := 613) (by decide +kernel) (by decide +kernel)
theorem tb614 : (Jvm.Cond.code ({ cls := "ReceivablesBook", name := "oldestWithoutPart", desc := "()I" } : Jvm.MethodName) prog_1_method_20_code (5 : Nat) (Option.some Jvm.ClassFile.FieldType.int)) ∈ xTB := xtb_of (N := 614) (by decide +kernel) (by decide +kernel)
theorem tb615 : (Jvm.Cond.methodLink "ReceivablesBook" (189 : Nat) ({ cls := "ReceivablesBook$Shares", name := "wantsPart", desc := "(I)Z" } : Jvm.MethodName)) ∈ xTB := xtb_of (N := 615) (by decide +kernel) (by decide +kernel)
theorem tb616 : (Jvm.Cond.instanceMethod ({ cls := "ReceivablesBook$Shares", name := "wantsPart", desc := "(I)Z" } : Jvm.MethodName)) ∈ xTB := xtb_of (N := 616) (by decide +kernel) (by decide +kernel)
theorem tb617 : (Jvm.Cond.selects "ReceivablesBook$Shares" ({ cls := "ReceivablesBook$Shares", name := "wantsPart", desc := "(I)Z" } : Jvm.MethodName) ({ cls := "ReceivablesBook$Shares", name := "wantsPart", desc := "(I)Z" } : Jvm.MethodName)) ∈ xTB := xtb_of (N := 617) (by decide +kernel) (by decide +kernel)
theorem tb618 : (Jvm.Cond.code ({ cls := "ReceivablesBook$Shares", name := "wantsPart", desc := "(I)Z" } : Jvm.MethodName) prog_7_method_5_code (2 : Nat) (Option.some Jvm.ClassFile.FieldType.boolean)) ∈ xTB := xtb_of (N := 618) (by decide +kernel) (by decide +kernel)
theorem tb619 : (Jvm.Cond.methodLink "ReceivablesBook" (182 : Nat) ({ cls := "ReceivablesBook$Shares", name := "fill", desc := "(II)I" } : Jvm.MethodName)) ∈ xTB := xtb_of (N := 619) (by decide +kernel) (by decide +kernel)
theorem tb620 : (Jvm.Cond.instanceMethod ({ cls := "ReceivablesBook$Shares", name := "fill", desc := "(II)I" } : Jvm.MethodName)) ∈ xTB := xtb_of (N := 620) (by decide +kernel) (by decide +kernel)
theorem tb621 : (Jvm.Cond.selects "ReceivablesBook$Shares" ({ cls := "ReceivablesBook$Shares", name := "fill", desc := "(II)I" } : Jvm.MethodName) ({ cls := "ReceivablesBook$Shares", name := "fill", desc := "(II)I" } : Jvm.MethodName)) ∈ xTB := xtb_of (N := 621) (by decide +kernel) (by decide +kernel)
theorem tb622 : (Jvm.Cond.code ({ cls := "ReceivablesBook$Shares", name := "fill", desc := "(II)I" } : Jvm.MethodName) prog_7_method_6_code (3 : Nat) (Option.some Jvm.ClassFile.FieldType.int)) ∈ xTB := xtb_of (N := 622) (by decide +kernel) (by decide +kernel)
theorem tb623 : (Jvm.Cond.methodLink "ReceivablesBook$Shares" (28 : Nat) ({ cls := "java/lang/Math", name := "min", desc := "(II)I" } : Jvm.MethodName)) ∈ xTB := xtb_of (N := 623) (by decide +kernel) (by decide +kernel)
theorem tb624 : (Jvm.Cond.methodLink "ReceivablesBook" (163 : Nat) ({ cls := "ReceivablesBook$Shares", name := "splitUpToWeights", desc := "(I)V" } : Jvm.MethodName)) ∈ xTB := xtb_of (N := 624) (by decide +kernel) (by decide +kernel)
theorem tb625 : (Jvm.Cond.instanceMethod ({ cls := "ReceivablesBook$Shares", name := "splitUpToWeights", desc := "(I)V" } : Jvm.MethodName)) ∈ xTB := xtb_of (N := 625) (by decide +kernel) (by decide +kernel)
theorem tb626 : (Jvm.Cond.selects "ReceivablesBook$Shares" ({ cls := "ReceivablesBook$Shares", name := "splitUpToWeights", desc := "(I)V" } : Jvm.MethodName) ({ cls := "ReceivablesBook$Shares", name := "splitUpToWeights", desc := "(I)V" } : Jvm.MethodName)) ∈ xTB := xtb_of (N := 626) (by decide +kernel) (by decide +kernel)
theorem tb627 : (Jvm.Cond.code ({ cls := "ReceivablesBook$Shares", name := "splitUpToWeights", desc := "(I)V" } : Jvm.MethodName) prog_7_method_8_code (2 : Nat) (Option.none : Option Jvm.ClassFile.FieldType)) ∈ xTB := xtb_of (N := 627) (by decide +kernel) (by decide +kernel)
theorem tb628 : (Jvm.Cond.methodLink "ReceivablesBook$Shares" (34 : Nat) ({ cls := "ReceivablesBook$Shares", name := "sumOfWeights", desc := "()J" } : Jvm.MethodName)) ∈ xTB := xtb_of (N := 628) (by decide +kernel) (by decide +kernel)
theorem tb629 : (Jvm.Cond.instanceMethod ({ cls := "ReceivablesBook$Shares", name := "sumOfWeights", desc := "()J" } : Jvm.MethodName)) ∈ xTB := xtb_of (N := 629) (by decide +kernel) (by decide +kernel)
theorem tb630 : (Jvm.Cond.selects "ReceivablesBook$Shares" ({ cls := "ReceivablesBook$Shares", name := "sumOfWeights", desc := "()J" } : Jvm.MethodName) ({ cls := "ReceivablesBook$Shares", name := "sumOfWeights", desc := "()J" } : Jvm.MethodName)) ∈ xTB := xtb_of (N := 630) (by decide +kernel) (by decide +kernel)
theorem tb631 : (Jvm.Cond.code ({ cls := "ReceivablesBook$Shares", name := "sumOfWeights", desc := "()J" } : Jvm.MethodName) prog_7_method_7_code (4 : Nat) (Option.some Jvm.ClassFile.FieldType.long)) ∈ xTB := xtb_of (N := 631) (by decide +kernel) (by decide +kernel)
theorem tb632 : (Jvm.Cond.methodLink "ReceivablesBook$Shares" (38 : Nat) ({ cls := "java/lang/Math", name := "min", desc := "(JJ)J" } : Jvm.MethodName)) ∈ xTB := xtb_of (N := 632) (by decide +kernel) (by decide +kernel)
theorem tb633 : (Jvm.Cond.static ({ cls := "java/lang/Math", name := "min", desc := "(JJ)J" } : Jvm.MethodName)) ∈ xTB := xtb_of (N := 633) (by decide +kernel) (by decide +kernel)
theorem tb634 : (Jvm.Cond.code ({ cls := "java/lang/Math", name := "min", desc := "(JJ)J" } : Jvm.MethodName) prog_17_method_70_code (4 : Nat) (Option.some Jvm.ClassFile.FieldType.long)) ∈ xTB := xtb_of (N := 634) (by decide +kernel) (by decide +kernel)
theorem tb635 : (Jvm.Cond.methodLink "ReceivablesBook$Shares" (41 : Nat) ({ cls := "ReceivablesBook$Shares", name := "splitInProportion", desc := "(I)V" } : Jvm.MethodName)) ∈ xTB := xtb_of (N := 635) (by decide +kernel) (by decide +kernel)
theorem tb636 : (Jvm.Cond.instanceMethod ({ cls := "ReceivablesBook$Shares", name := "splitInProportion", desc := "(I)V" } : Jvm.MethodName)) ∈ xTB := xtb_of (N := 636) (by decide +kernel) (by decide +kernel)
theorem tb637 : (Jvm.Cond.selects "ReceivablesBook$Shares" ({ cls := "ReceivablesBook$Shares", name := "splitInProportion", desc := "(I)V" } : Jvm.MethodName) ({ cls := "ReceivablesBook$Shares", name := "splitInProportion", desc := "(I)V" } : Jvm.MethodName)) ∈ xTB := xtb_of (N := 637) (by decide +kernel) (by decide +kernel)
theorem tb638 : (Jvm.Cond.code ({ cls := "ReceivablesBook$Shares", name := "splitInProportion", desc := "(I)V" } : Jvm.MethodName) prog_7_method_9_code (8 : Nat) (Option.none : Option Jvm.ClassFile.FieldType)) ∈ xTB := xtb_of (N := 638) (by decide +kernel) (by decide +kernel)
theorem tb639 : (Jvm.Cond.methodLink "ReceivablesBook$Shares" (45 : Nat) ({ cls := "ReceivablesBook$Shares", name := "giveCentToGreatestRemainder", desc := "()V" } : Jvm.MethodName)) ∈ xTB := xtb_of (N := 639) (by decide +kernel) (by decide +kernel)
theorem tb641 : (Jvm.Cond.instanceMethod ({ cls := "ReceivablesBook$Shares", name := "giveCentToGreatestRemainder", desc := "()V" } : Jvm.MethodName)) ∈ xTB := xtb_of (N := 641) (by decide +kernel) (by decide +kernel)
theorem tb642 : (Jvm.Cond.code ({ cls := "ReceivablesBook$Shares", name := "giveCentToGreatestRemainder", desc := "()V" } : Jvm.MethodName) prog_7_method_10_code (5 : Nat) (Option.none : Option Jvm.ClassFile.FieldType)) ∈ xTB := xtb_of (N := 642) (by decide +kernel) (by decide +kernel)
theorem tb643 : (Jvm.Cond.methodLink "ReceivablesBook" (166 : Nat) ({ cls := "ReceivablesBook$Shares", name := "partOf", desc := "(I)I" } : Jvm.MethodName)) ∈ xTB := xtb_of (N := 643) (by decide +kernel) (by decide +kernel)
theorem tb644 : (Jvm.Cond.instanceMethod ({ cls := "ReceivablesBook$Shares", name := "partOf", desc := "(I)I" } : Jvm.MethodName)) ∈ xTB := xtb_of (N := 644) (by decide +kernel) (by decide +kernel)
theorem tb645 : (Jvm.Cond.selects "ReceivablesBook$Shares" ({ cls := "ReceivablesBook$Shares", name := "partOf", desc := "(I)I" } : Jvm.MethodName) ({ cls := "ReceivablesBook$Shares", name := "partOf", desc := "(I)I" } : Jvm.MethodName)) ∈ xTB := xtb_of (N := 645) (by decide +kernel) (by decide +kernel)
theorem tb646 : (Jvm.Cond.code ({ cls := "ReceivablesBook$Shares", name := "partOf", desc := "(I)I" } : Jvm.MethodName) prog_7_method_4_code (2 : Nat) (Option.some Jvm.ClassFile.FieldType.int)) ∈ xTB := xtb_of (N := 646) (by decide +kernel) (by decide +kernel)
theorem tb647 : (Jvm.Cond.methodLink "ReceivablesBook" (138 : Nat) ({ cls := "ReceivablesBook", name := "moveToInvoice", desc := "(LReceivablesBook$Payment;II)V" } : Jvm.MethodName)) ∈ xTB := xtb_of (N := 647) (by decide +kernel) (by decide +kernel)
theorem tb649 : (Jvm.Cond.instanceMethod ({ cls := "ReceivablesBook", name := "moveToInvoice", desc := "(LReceivablesBook$Payment;II)V" } : Jvm.MethodName)) ∈ xTB := xtb_of (N := 649) (by decide +kernel) (by decide +kernel)
theorem tb650 : (Jvm.Cond.code ({ cls := "ReceivablesBook", name := "moveToInvoice", desc := "(LReceivablesBook$Payment;II)V" } : Jvm.MethodName) prog_1_method_21_code (4 : Nat) (Option.none : Option Jvm.ClassFile.FieldType)) ∈ xTB := xtb_of (N := 650) (by decide +kernel) (by decide +kernel)
theorem tb651 : (Jvm.Cond.methodLink "ReceivablesBook" (193 : Nat) ({ cls := "ReceivablesBook$Payment", name := "spend", desc := "(II)V" } : Jvm.MethodName)) ∈ xTB := xtb_of (N := 651) (by decide +kernel) (by decide +kernel)
theorem tb652 : (Jvm.Cond.instanceMethod ({ cls := "ReceivablesBook$Payment", name := "spend", desc := "(II)V" } : Jvm.MethodName)) ∈ xTB := xtb_of (N := 652) (by decide +kernel) (by decide +kernel)
theorem tb653 : (Jvm.Cond.selects "ReceivablesBook$Payment" ({ cls := "ReceivablesBook$Payment", name := "spend", desc := "(II)V" } : Jvm.MethodName) ({ cls := "ReceivablesBook$Payment", name := "spend", desc := "(II)V" } : Jvm.MethodName)) ∈ xTB := xtb_of (N := 653) (by decide +kernel) (by decide +kernel)
theorem tb654 : (Jvm.Cond.code ({ cls := "ReceivablesBook$Payment", name := "spend", desc := "(II)V" } : Jvm.MethodName) prog_6_method_4_code (3 : Nat) (Option.none : Option Jvm.ClassFile.FieldType)) ∈ xTB := xtb_of (N := 654) (by decide +kernel) (by decide +kernel)
theorem tb655 : (Jvm.Cond.methodLink "ReceivablesBook" (196 : Nat) ({ cls := "ReceivablesBook$Invoice", name := "pay", desc := "(I)V" } : Jvm.MethodName)) ∈ xTB := xtb_of (N := 655) (by decide +kernel) (by decide +kernel)
theorem tb656 : (Jvm.Cond.instanceMethod ({ cls := "ReceivablesBook$Invoice", name := "pay", desc := "(I)V" } : Jvm.MethodName)) ∈ xTB := xtb_of (N := 656) (by decide +kernel) (by decide +kernel)
theorem tb657 : (Jvm.Cond.selects "ReceivablesBook$Invoice" ({ cls := "ReceivablesBook$Invoice", name := "pay", desc := "(I)V" } : Jvm.MethodName) ({ cls := "ReceivablesBook$Invoice", name := "pay", desc := "(I)V" } : Jvm.MethodName)) ∈ xTB := xtb_of (N := 657) (by decide +kernel) (by decide +kernel)
theorem tb658 : (Jvm.Cond.code ({ cls := "ReceivablesBook$Invoice", name := "pay", desc := "(I)V" } : Jvm.MethodName) prog_4_method_4_code (2 : Nat) (Option.none : Option Jvm.ClassFile.FieldType)) ∈ xTB := xtb_of (N := 658) (by decide +kernel) (by decide +kernel)
theorem tb659 : (Jvm.Cond.methodLink "ReceivablesBook$Invoice" (39 : Nat) ({ cls := "java/lang/Math", name := "min", desc := "(II)I" } : Jvm.MethodName)) ∈ xTB := xtb_of (N := 659) (by decide +kernel) (by decide +kernel)
theorem tb660 : (Jvm.Cond.methodLink "ReceivablesBook$Invoice" (48 : Nat) ({ cls := "ReceivablesBook$Invoice", name := "forgetRemindersIfPaid", desc := "()V" } : Jvm.MethodName)) ∈ xTB := xtb_of (N := 660) (by decide +kernel) (by decide +kernel)
theorem tb662 : (Jvm.Cond.instanceMethod ({ cls := "ReceivablesBook$Invoice", name := "forgetRemindersIfPaid", desc := "()V" } : Jvm.MethodName)) ∈ xTB := xtb_of (N := 662) (by decide +kernel) (by decide +kernel)
theorem tb663 : (Jvm.Cond.code ({ cls := "ReceivablesBook$Invoice", name := "forgetRemindersIfPaid", desc := "()V" } : Jvm.MethodName) prog_4_method_7_code (1 : Nat) (Option.none : Option Jvm.ClassFile.FieldType)) ∈ xTB := xtb_of (N := 663) (by decide +kernel) (by decide +kernel)
theorem tb664 : (Jvm.Cond.methodLink "ReceivablesBookLaw" (162 : Nat) ({ cls := "ReceivablesBookLaw", name := "allocate", desc := "(LReceivablesBook;III[J)I" } : Jvm.MethodName)) ∈ xTB := xtb_of (N := 664) (by decide +kernel) (by decide +kernel)
theorem tb665 : (Jvm.Cond.static ({ cls := "ReceivablesBookLaw", name := "allocate", desc := "(LReceivablesBook;III[J)I" } : Jvm.MethodName)) ∈ xTB := xtb_of (N := 665) (by decide +kernel) (by decide +kernel)
theorem tb666 : (Jvm.Cond.codeWith ({ cls := "ReceivablesBookLaw", name := "allocate", desc := "(LReceivablesBook;III[J)I" } : Jvm.MethodName) method_11_code (6 : Nat) (Option.some Jvm.ClassFile.FieldType.int) [((0 : Nat), (12 : Nat), (15 : Nat), (21 : Nat)), ((0 : Nat), (12 : Nat), (19 : Nat), (13 : Nat)), ((0 : Nat), (12 : Nat), (23 : Nat), (15 : Nat))]) ∈ xTB := xtb_of (N := 666) (by decide +kernel) (by decide +kernel)
theorem tb667 : (Jvm.Cond.methodLink "ReceivablesBookLaw" (42 : Nat) ({ cls := "ReceivablesBook", name := "allocate", desc := "(III)I" } : Jvm.MethodName)) ∈ xTB := xtb_of (N := 667) (by decide +kernel) (by decide +kernel)
theorem tb668 : (Jvm.Cond.instanceMethod ({ cls := "ReceivablesBook", name := "allocate", desc := "(III)I" } : Jvm.MethodName)) ∈ xTB := xtb_of (N := 668) (by decide +kernel) (by decide +kernel)
theorem tb669 : (Jvm.Cond.selects "ReceivablesBook" ({ cls := "ReceivablesBook", name := "allocate", desc := "(III)I" } : Jvm.MethodName) ({ cls := "ReceivablesBook", name := "allocate", desc := "(III)I" } : Jvm.MethodName)) ∈ xTB := xtb_of (N := 669) (by decide +kernel) (by decide +kernel)
theorem tb670 : (Jvm.Cond.code ({ cls := "ReceivablesBook", name := "allocate", desc := "(III)I" } : Jvm.MethodName) prog_1_method_12_code (6 : Nat) (Option.some Jvm.ClassFile.FieldType.int)) ∈ xTB := xtb_of (N := 670) (by decide +kernel) (by decide +kernel)
theorem tb671 : (Jvm.Cond.methodLink "ReceivablesBook" (116 : Nat) ({ cls := "ReceivablesBook", name := "paymentAt", desc := "(I)LReceivablesBook$Payment;" } : Jvm.MethodName)) ∈ xTB := xtb_of (N := 671) (by decide +kernel) (by decide +kernel)
theorem tb673 : (Jvm.Cond.instanceMethod ({ cls := "ReceivablesBook", name := "paymentAt", desc := "(I)LReceivablesBook$Payment;" } : Jvm.MethodName)) ∈ xTB := xtb_of (N := 673) (by decide +kernel) (by decide +kernel)
theorem tb674 : (Jvm.Cond.code ({ cls := "ReceivablesBook", name := "paymentAt", desc := "(I)LReceivablesBook$Payment;" } : Jvm.MethodName) prog_1_method_52_code (2 : Nat) (Option.some (Jvm.ClassFile.FieldType.object "ReceivablesBook$Payment"))) ∈ xTB := xtb_of (N := 674) (by decide +kernel) (by decide +kernel)
theorem tb675 : (Jvm.Cond.methodLink "ReceivablesBook" (120 : Nat) ({ cls := "ReceivablesBook", name := "invoiceAt", desc := "(I)LReceivablesBook$Invoice;" } : Jvm.MethodName)) ∈ xTB := xtb_of (N := 675) (by decide +kernel) (by decide +kernel)
theorem tb677 : (Jvm.Cond.instanceMethod ({ cls := "ReceivablesBook", name := "invoiceAt", desc := "(I)LReceivablesBook$Invoice;" } : Jvm.MethodName)) ∈ xTB := xtb_of (N := 677) (by decide +kernel) (by decide +kernel)
theorem tb678 : (Jvm.Cond.code ({ cls := "ReceivablesBook", name := "invoiceAt", desc := "(I)LReceivablesBook$Invoice;" } : Jvm.MethodName) prog_1_method_51_code (2 : Nat) (Option.some (Jvm.ClassFile.FieldType.object "ReceivablesBook$Invoice"))) ∈ xTB := xtb_of (N := 678) (by decide +kernel) (by decide +kernel)
theorem tb679 : (Jvm.Cond.methodLink "ReceivablesBook" (124 : Nat) ({ cls := "ReceivablesBook", name := "requireCent", desc := "(I)V" } : Jvm.MethodName)) ∈ xTB := xtb_of (N := 679) (by decide +kernel) (by decide +kernel)
theorem tb680 : (Jvm.Cond.static ({ cls := "ReceivablesBook", name := "requireCent", desc := "(I)V" } : Jvm.MethodName)) ∈ xTB := xtb_of (N := 680) (by decide +kernel) (by decide +kernel)
theorem tb681 : (Jvm.Cond.code ({ cls := "ReceivablesBook", name := "requireCent", desc := "(I)V" } : Jvm.MethodName) prog_1_method_55_code (1 : Nat) (Option.none : Option Jvm.ClassFile.FieldType)) ∈ xTB := xtb_of (N := 681) (by decide +kernel) (by decide +kernel)
theorem tb683 : (Jvm.Cond.methodLink "ReceivablesBook" (135 : Nat) ({ cls := "ReceivablesBook$Invoice", name := "openAmount", desc := "()I" } : Jvm.MethodName)) ∈ xTB := xtb_of (N := 683) (by decide +kernel) (by decide +kernel)
theorem tb684 : (Jvm.Cond.methodLink "ReceivablesBookLaw" (165 : Nat) ({ cls := "ReceivablesBookLaw", name := "allocateRest", desc := "(LReceivablesBook;I[J)I" } : Jvm.MethodName)) ∈ xTB := xtb_of (N := 684) (by decide +kernel) (by decide +kernel)
theorem tb685 : (Jvm.Cond.static ({ cls := "ReceivablesBookLaw", name := "allocateRest", desc := "(LReceivablesBook;I[J)I" } : Jvm.MethodName)) ∈ xTB := xtb_of (N := 685) (by decide +kernel) (by decide +kernel)
theorem tb686 : (Jvm.Cond.codeWith ({ cls := "ReceivablesBookLaw", name := "allocateRest", desc := "(LReceivablesBook;I[J)I" } : Jvm.MethodName) method_12_code (4 : Nat) (Option.some Jvm.ClassFile.FieldType.int) [((0 : Nat), (9 : Nat), (12 : Nat), (21 : Nat))]) ∈ xTB := xtb_of (N := 686) (by decide +kernel) (by decide +kernel)
theorem tb687 : (Jvm.Cond.methodLink "ReceivablesBookLaw" (45 : Nat) ({ cls := "ReceivablesBook", name := "allocateRest", desc := "(I)I" } : Jvm.MethodName)) ∈ xTB := xtb_of (N := 687) (by decide +kernel) (by decide +kernel)
theorem tb688 : (Jvm.Cond.instanceMethod ({ cls := "ReceivablesBook", name := "allocateRest", desc := "(I)I" } : Jvm.MethodName)) ∈ xTB := xtb_of (N := 688) (by decide +kernel) (by decide +kernel)
theorem tb689 : (Jvm.Cond.selects "ReceivablesBook" ({ cls := "ReceivablesBook", name := "allocateRest", desc := "(I)I" } : Jvm.MethodName) ({ cls := "ReceivablesBook", name := "allocateRest", desc := "(I)I" } : Jvm.MethodName)) ∈ xTB := xtb_of (N := 689) (by decide +kernel) (by decide +kernel)
theorem tb690 : (Jvm.Cond.code ({ cls := "ReceivablesBook", name := "allocateRest", desc := "(I)I" } : Jvm.MethodName) prog_1_method_13_code (6 : Nat) (Option.some Jvm.ClassFile.FieldType.int)) ∈ xTB := xtb_of (N := 690) (by decide +kernel) (by decide +kernel)
theorem tb691 : (Jvm.Cond.methodLink "ReceivablesBookLaw" (168 : Nat) ({ cls := "ReceivablesBookLaw", name := "release", desc := "(LReceivablesBook;II[J)I" } : Jvm.MethodName)) ∈ xTB := xtb_of (N := 691) (by decide +kernel) (by decide +kernel)
theorem tb692 : (Jvm.Cond.static ({ cls := "ReceivablesBookLaw", name := "release", desc := "(LReceivablesBook;II[J)I" } : Jvm.MethodName)) ∈ xTB := xtb_of (N := 692) (by decide +kernel) (by decide +kernel)
theorem tb693 : (Jvm.Cond.codeWith ({ cls := "ReceivablesBookLaw", name := "release", desc := "(LReceivablesBook;II[J)I" } : Jvm.MethodName) method_13_code (5 : Nat) (Option.some Jvm.ClassFile.FieldType.int) [((0 : Nat), (10 : Nat), (13 : Nat), (21 : Nat))]) ∈ xTB := xtb_of (N := 693) (by decide +kernel) (by decide +kernel)
theorem tb694 : (Jvm.Cond.methodLink "ReceivablesBookLaw" (48 : Nat) ({ cls := "ReceivablesBook", name := "release", desc := "(II)I" } : Jvm.MethodName)) ∈ xTB := xtb_of (N := 694) (by decide +kernel) (by decide +kernel)
theorem tb695 : (Jvm.Cond.instanceMethod ({ cls := "ReceivablesBook", name := "release", desc := "(II)I" } : Jvm.MethodName)) ∈ xTB := xtb_of (N := 695) (by decide +kernel) (by decide +kernel)
theorem tb696 : (Jvm.Cond.selects "ReceivablesBook" ({ cls := "ReceivablesBook", name := "release", desc := "(II)I" } : Jvm.MethodName) ({ cls := "ReceivablesBook", name := "release", desc := "(II)I" } : Jvm.MethodName)) ∈ xTB := xtb_of (N := 696) (by decide +kernel) (by decide +kernel)
theorem tb697 : (Jvm.Cond.code ({ cls := "ReceivablesBook", name := "release", desc := "(II)I" } : Jvm.MethodName) prog_1_method_14_code (4 : Nat) (Option.some Jvm.ClassFile.FieldType.int)) ∈ xTB := xtb_of (N := 697) (by decide +kernel) (by decide +kernel)
theorem tb698 : (Jvm.Cond.methodLink "ReceivablesBook" (142 : Nat) ({ cls := "ReceivablesBook", name := "takeBack", desc := "(LReceivablesBook$Payment;I)I" } : Jvm.MethodName)) ∈ xTB := xtb_of (N := 698) (by decide +kernel) (by decide +kernel)
theorem tb700 : (Jvm.Cond.instanceMethod ({ cls := "ReceivablesBook", name := "takeBack", desc := "(LReceivablesBook$Payment;I)I" } : Jvm.MethodName)) ∈ xTB := xtb_of (N := 700) (by decide +kernel) (by decide +kernel)
theorem tb701 : (Jvm.Cond.code ({ cls := "ReceivablesBook", name := "takeBack", desc := "(LReceivablesBook$Payment;I)I" } : Jvm.MethodName) prog_1_method_22_code (4 : Nat) (Option.some Jvm.ClassFile.FieldType.int)) ∈ xTB := xtb_of (N := 701) (by decide +kernel) (by decide +kernel)
theorem tb702 : (Jvm.Cond.methodLink "ReceivablesBook" (199 : Nat) ({ cls := "ReceivablesBook$Payment", name := "spentOn", desc := "(I)I" } : Jvm.MethodName)) ∈ xTB := xtb_of (N := 702) (by decide +kernel) (by decide +kernel)
theorem tb703 : (Jvm.Cond.instanceMethod ({ cls := "ReceivablesBook$Payment", name := "spentOn", desc := "(I)I" } : Jvm.MethodName)) ∈ xTB := xtb_of (N := 703) (by decide +kernel) (by decide +kernel)
theorem tb704 : (Jvm.Cond.selects "ReceivablesBook$Payment" ({ cls := "ReceivablesBook$Payment", name := "spentOn", desc := "(I)I" } : Jvm.MethodName) ({ cls := "ReceivablesBook$Payment", name := "spentOn", desc := "(I)I" } : Jvm.MethodName)) ∈ xTB := xtb_of (N := 704) (by decide +kernel) (by decide +kernel)
theorem tb705 : (Jvm.Cond.code ({ cls := "ReceivablesBook$Payment", name := "spentOn", desc := "(I)I" } : Jvm.MethodName) prog_6_method_3_code (2 : Nat) (Option.some Jvm.ClassFile.FieldType.int)) ∈ xTB := xtb_of (N := 705) (by decide +kernel) (by decide +kernel)
theorem tb706 : (Jvm.Cond.methodLink "ReceivablesBook" (202 : Nat) ({ cls := "ReceivablesBook$Invoice", name := "unpay", desc := "(I)V" } : Jvm.MethodName)) ∈ xTB := xtb_of (N := 706) (by decide +kernel) (by decide +kernel)
theorem tb707 : (Jvm.Cond.instanceMethod ({ cls := "ReceivablesBook$Invoice", name := "unpay", desc := "(I)V" } : Jvm.MethodName)) ∈ xTB := xtb_of (N := 707) (by decide +kernel) (by decide +kernel)
theorem tb708 : (Jvm.Cond.selects "ReceivablesBook$Invoice" ({ cls := "ReceivablesBook$Invoice", name := "unpay", desc := "(I)V" } : Jvm.MethodName) ({ cls := "ReceivablesBook$Invoice", name := "unpay", desc := "(I)V" } : Jvm.MethodName)) ∈ xTB := xtb_of (N := 708) (by decide +kernel) (by decide +kernel)
theorem tb709 : (Jvm.Cond.code ({ cls := "ReceivablesBook$Invoice", name := "unpay", desc := "(I)V" } : Jvm.MethodName) prog_4_method_5_code (2 : Nat) (Option.none : Option Jvm.ClassFile.FieldType)) ∈ xTB := xtb_of (N := 709) (by decide +kernel) (by decide +kernel)
theorem tb710 : (Jvm.Cond.methodLink "ReceivablesBookLaw" (171 : Nat) ({ cls := "ReceivablesBookLaw", name := "reverse", desc := "(LReceivablesBook;I[J)I" } : Jvm.MethodName)) ∈ xTB := xtb_of (N := 710) (by decide +kernel) (by decide +kernel)
theorem tb711 : (Jvm.Cond.static ({ cls := "ReceivablesBookLaw", name := "reverse", desc := "(LReceivablesBook;I[J)I" } : Jvm.MethodName)) ∈ xTB := xtb_of (N := 711) (by decide +kernel) (by decide +kernel)
theorem tb712 : (Jvm.Cond.codeWith ({ cls := "ReceivablesBookLaw", name := "reverse", desc := "(LReceivablesBook;I[J)I" } : Jvm.MethodName) method_14_code (4 : Nat) (Option.some Jvm.ClassFile.FieldType.int) [((0 : Nat), (9 : Nat), (12 : Nat), (21 : Nat)), ((0 : Nat), (9 : Nat), (15 : Nat), (15 : Nat))]) ∈ xTB := xtb_of (N := 712) (by decide +kernel) (by decide +kernel)
theorem tb713 : (Jvm.Cond.methodLink "ReceivablesBookLaw" (51 : Nat) ({ cls := "ReceivablesBook", name := "reverse", desc := "(I)I" } : Jvm.MethodName)) ∈ xTB := xtb_of (N := 713) (by decide +kernel) (by decide +kernel)
theorem tb714 : (Jvm.Cond.instanceMethod ({ cls := "ReceivablesBook", name := "reverse", desc := "(I)I" } : Jvm.MethodName)) ∈ xTB := xtb_of (N := 714) (by decide +kernel) (by decide +kernel)
theorem tb715 : (Jvm.Cond.selects "ReceivablesBook" ({ cls := "ReceivablesBook", name := "reverse", desc := "(I)I" } : Jvm.MethodName) ({ cls := "ReceivablesBook", name := "reverse", desc := "(I)I" } : Jvm.MethodName)) ∈ xTB := xtb_of (N := 715) (by decide +kernel) (by decide +kernel)
theorem tb716 : (Jvm.Cond.code ({ cls := "ReceivablesBook", name := "reverse", desc := "(I)I" } : Jvm.MethodName) prog_1_method_15_code (5 : Nat) (Option.some Jvm.ClassFile.FieldType.int)) ∈ xTB := xtb_of (N := 716) (by decide +kernel) (by decide +kernel)
theorem tb717 : (Jvm.Cond.methodLink "ReceivablesBookLaw" (174 : Nat) ({ cls := "ReceivablesBookLaw", name := "dispute", desc := "(LReceivablesBook;II[J)I" } : Jvm.MethodName)) ∈ xTB := xtb_of (N := 717) (by decide +kernel) (by decide +kernel)
theorem tb718 : (Jvm.Cond.static ({ cls := "ReceivablesBookLaw", name := "dispute", desc := "(LReceivablesBook;II[J)I" } : Jvm.MethodName)) ∈ xTB := xtb_of (N := 718) (by decide +kernel) (by decide +kernel)
theorem tb719 : (Jvm.Cond.codeWith ({ cls := "ReceivablesBookLaw", name := "dispute", desc := "(LReceivablesBook;II[J)I" } : Jvm.MethodName) method_15_code (5 : Nat) (Option.some Jvm.ClassFile.FieldType.int) [((0 : Nat), (10 : Nat), (13 : Nat), (21 : Nat)), ((0 : Nat), (10 : Nat), (17 : Nat), (13 : Nat)), ((0 : Nat), (10 : Nat), (21 : Nat), (15 : Nat))]) ∈ xTB := xtb_of (N := 719) (by decide +kernel) (by decide +kernel)
theorem tb720 : (Jvm.Cond.methodLink "ReceivablesBookLaw" (54 : Nat) ({ cls := "ReceivablesBook", name := "dispute", desc := "(II)I" } : Jvm.MethodName)) ∈ xTB := xtb_of (N := 720) (by decide +kernel) (by decide +kernel)
theorem tb721 : (Jvm.Cond.instanceMethod ({ cls := "ReceivablesBook", name := "dispute", desc := "(II)I" } : Jvm.MethodName)) ∈ xTB := xtb_of (N := 721) (by decide +kernel) (by decide +kernel)
theorem tb722 : (Jvm.Cond.selects "ReceivablesBook" ({ cls := "ReceivablesBook", name := "dispute", desc := "(II)I" } : Jvm.MethodName) ({ cls := "ReceivablesBook", name := "dispute", desc := "(II)I" } : Jvm.MethodName)) ∈ xTB := xtb_of (N := 722) (by decide +kernel) (by decide +kernel)
theorem tb723 : (Jvm.Cond.code ({ cls := "ReceivablesBook", name := "dispute", desc := "(II)I" } : Jvm.MethodName) prog_1_method_23_code (4 : Nat) (Option.some Jvm.ClassFile.FieldType.int)) ∈ xTB := xtb_of (N := 723) (by decide +kernel) (by decide +kernel)
theorem tb724 : (Jvm.Cond.methodLink "ReceivablesBookLaw" (177 : Nat) ({ cls := "ReceivablesBookLaw", name := "disputeAll", desc := "(LReceivablesBook;II[J)I" } : Jvm.MethodName)) ∈ xTB := xtb_of (N := 724) (by decide +kernel) (by decide +kernel)
theorem tb725 : (Jvm.Cond.static ({ cls := "ReceivablesBookLaw", name := "disputeAll", desc := "(LReceivablesBook;II[J)I" } : Jvm.MethodName)) ∈ xTB := xtb_of (N := 725) (by decide +kernel) (by decide +kernel)
theorem tb726 : (Jvm.Cond.codeWith ({ cls := "ReceivablesBookLaw", name := "disputeAll", desc := "(LReceivablesBook;II[J)I" } : Jvm.MethodName) method_16_code (5 : Nat) (Option.some Jvm.ClassFile.FieldType.int) [((0 : Nat), (10 : Nat), (13 : Nat), (21 : Nat)), ((0 : Nat), (10 : Nat), (17 : Nat), (13 : Nat)), ((0 : Nat), (10 : Nat), (21 : Nat), (15 : Nat))]) ∈ xTB := xtb_of (N := 726) (by decide +kernel) (by decide +kernel)
theorem tb727 : (Jvm.Cond.methodLink "ReceivablesBookLaw" (57 : Nat) ({ cls := "ReceivablesBook", name := "disputeAll", desc := "(II)I" } : Jvm.MethodName)) ∈ xTB := xtb_of (N := 727) (by decide +kernel) (by decide +kernel)
theorem tb728 : (Jvm.Cond.instanceMethod ({ cls := "ReceivablesBook", name := "disputeAll", desc := "(II)I" } : Jvm.MethodName)) ∈ xTB := xtb_of (N := 728) (by decide +kernel) (by decide +kernel)
theorem tb729 : (Jvm.Cond.selects "ReceivablesBook" ({ cls := "ReceivablesBook", name := "disputeAll", desc := "(II)I" } : Jvm.MethodName) ({ cls := "ReceivablesBook", name := "disputeAll", desc := "(II)I" } : Jvm.MethodName)) ∈ xTB := xtb_of (N := 729) (by decide +kernel) (by decide +kernel)
theorem tb730 : (Jvm.Cond.code ({ cls := "ReceivablesBook", name := "disputeAll", desc := "(II)I" } : Jvm.MethodName) prog_1_method_24_code (7 : Nat) (Option.some Jvm.ClassFile.FieldType.int)) ∈ xTB := xtb_of (N := 730) (by decide +kernel) (by decide +kernel)
theorem tb731 : (Jvm.Cond.methodLink "ReceivablesBook" (208 : Nat) ({ cls := "ReceivablesBook$Shares", name := "sumOfWeights", desc := "()J" } : Jvm.MethodName)) ∈ xTB := xtb_of (N := 731) (by decide +kernel) (by decide +kernel)
theorem tb732 : (Jvm.Cond.methodLink "ReceivablesBook" (212 : Nat) ({ cls := "ReceivablesBook$Shares", name := "splitInProportion", desc := "(I)V" } : Jvm.MethodName)) ∈ xTB := xtb_of (N := 732) (by decide +kernel) (by decide +kernel)
theorem tb733 : (Jvm.Cond.methodLink "ReceivablesBookLaw" (180 : Nat) ({ cls := "ReceivablesBookLaw", name := "settle", desc := "(LReceivablesBook;II[J)I" } : Jvm.MethodName)) ∈ xTB := xtb_of (N := 733) (by decide +kernel) (by decide +kernel)
theorem tb734 : (Jvm.Cond.static ({ cls := "ReceivablesBookLaw", name := "settle", desc := "(LReceivablesBook;II[J)I" } : Jvm.MethodName)) ∈ xTB := xtb_of (N := 734) (by decide +kernel) (by decide +kernel)
theorem tb735 : (Jvm.Cond.codeWith ({ cls := "ReceivablesBookLaw", name := "settle", desc := "(LReceivablesBook;II[J)I" } : Jvm.MethodName) method_17_code (5 : Nat) (Option.some Jvm.ClassFile.FieldType.int) [((0 : Nat), (10 : Nat), (13 : Nat), (21 : Nat)), ((0 : Nat), (10 : Nat), (17 : Nat), (15 : Nat)), ((0 : Nat), (10 : Nat), (21 : Nat), (13 : Nat))]) ∈ xTB := xtb_of (N := 735) (by decide +kernel) (by decide +kernel)
theorem tb736 : (Jvm.Cond.methodLink "ReceivablesBookLaw" (60 : Nat) ({ cls := "ReceivablesBook", name := "settle", desc := "(II)I" } : Jvm.MethodName)) ∈ xTB := xtb_of (N := 736) (by decide +kernel) (by decide +kernel)
theorem tb737 : (Jvm.Cond.instanceMethod ({ cls := "ReceivablesBook", name := "settle", desc := "(II)I" } : Jvm.MethodName)) ∈ xTB := xtb_of (N := 737) (by decide +kernel) (by decide +kernel)
theorem tb738 : (Jvm.Cond.selects "ReceivablesBook" ({ cls := "ReceivablesBook", name := "settle", desc := "(II)I" } : Jvm.MethodName) ({ cls := "ReceivablesBook", name := "settle", desc := "(II)I" } : Jvm.MethodName)) ∈ xTB := xtb_of (N := 738) (by decide +kernel) (by decide +kernel)
theorem tb739 : (Jvm.Cond.code ({ cls := "ReceivablesBook", name := "settle", desc := "(II)I" } : Jvm.MethodName) prog_1_method_25_code (4 : Nat) (Option.some Jvm.ClassFile.FieldType.int)) ∈ xTB := xtb_of (N := 739) (by decide +kernel) (by decide +kernel)
theorem tb740 : (Jvm.Cond.methodLink "ReceivablesBook" (215 : Nat) ({ cls := "ReceivablesBook$Invoice", name := "settleWith", desc := "(I)V" } : Jvm.MethodName)) ∈ xTB := xtb_of (N := 740) (by decide +kernel) (by decide +kernel)
theorem tb741 : (Jvm.Cond.instanceMethod ({ cls := "ReceivablesBook$Invoice", name := "settleWith", desc := "(I)V" } : Jvm.MethodName)) ∈ xTB := xtb_of (N := 741) (by decide +kernel) (by decide +kernel)
theorem tb742 : (Jvm.Cond.selects "ReceivablesBook$Invoice" ({ cls := "ReceivablesBook$Invoice", name := "settleWith", desc := "(I)V" } : Jvm.MethodName) ({ cls := "ReceivablesBook$Invoice", name := "settleWith", desc := "(I)V" } : Jvm.MethodName)) ∈ xTB := xtb_of (N := 742) (by decide +kernel) (by decide +kernel)
theorem tb743 : (Jvm.Cond.code ({ cls := "ReceivablesBook$Invoice", name := "settleWith", desc := "(I)V" } : Jvm.MethodName) prog_4_method_6_code (2 : Nat) (Option.none : Option Jvm.ClassFile.FieldType)) ∈ xTB := xtb_of (N := 743) (by decide +kernel) (by decide +kernel)
theorem tb744 : (Jvm.Cond.methodLink "ReceivablesBookLaw" (183 : Nat) ({ cls := "ReceivablesBookLaw", name := "chargeInterest", desc := "(LReceivablesBook;II[J)I" } : Jvm.MethodName)) ∈ xTB := xtb_of (N := 744) (by decide +kernel) (by decide +kernel)
theorem tb745 : (Jvm.Cond.static ({ cls := "ReceivablesBookLaw", name := "chargeInterest", desc := "(LReceivablesBook;II[J)I" } : Jvm.MethodName)) ∈ xTB := xtb_of (N := 745) (by decide +kernel) (by decide +kernel)
theorem tb746 : (Jvm.Cond.codeWith ({ cls := "ReceivablesBookLaw", name := "chargeInterest", desc := "(LReceivablesBook;II[J)I" } : Jvm.MethodName) method_18_code (5 : Nat) (Option.some Jvm.ClassFile.FieldType.int) [((0 : Nat), (10 : Nat), (13 : Nat), (21 : Nat)), ((0 : Nat), (10 : Nat), (17 : Nat), (13 : Nat)), ((0 : Nat), (10 : Nat), (21 : Nat), (15 : Nat))]) ∈ xTB := xtb_of (N := 746) (by decide +kernel) (by decide +kernel)
theorem tb747 : (Jvm.Cond.methodLink "ReceivablesBookLaw" (63 : Nat) ({ cls := "ReceivablesBook", name := "chargeInterest", desc := "(II)I" } : Jvm.MethodName)) ∈ xTB := xtb_of (N := 747) (by decide +kernel) (by decide +kernel)
theorem tb748 : (Jvm.Cond.instanceMethod ({ cls := "ReceivablesBook", name := "chargeInterest", desc := "(II)I" } : Jvm.MethodName)) ∈ xTB := xtb_of (N := 748) (by decide +kernel) (by decide +kernel)
theorem tb749 : (Jvm.Cond.selects "ReceivablesBook" ({ cls := "ReceivablesBook", name := "chargeInterest", desc := "(II)I" } : Jvm.MethodName) ({ cls := "ReceivablesBook", name := "chargeInterest", desc := "(II)I" } : Jvm.MethodName)) ∈ xTB := xtb_of (N := 749) (by decide +kernel) (by decide +kernel)
theorem tb750 : (Jvm.Cond.code ({ cls := "ReceivablesBook", name := "chargeInterest", desc := "(II)I" } : Jvm.MethodName) prog_1_method_26_code (7 : Nat) (Option.some Jvm.ClassFile.FieldType.int)) ∈ xTB := xtb_of (N := 750) (by decide +kernel) (by decide +kernel)
theorem tb751 : (Jvm.Cond.methodLink "ReceivablesBook" (218 : Nat) ({ cls := "ReceivablesBook", name := "accruedOfAll", desc := "(LReceivablesBook$Customer;)I" } : Jvm.MethodName)) ∈ xTB := xtb_of (N := 751) (by decide +kernel) (by decide +kernel)
theorem tb753 : (Jvm.Cond.instanceMethod ({ cls := "ReceivablesBook", name := "accruedOfAll", desc := "(LReceivablesBook$Customer;)I" } : Jvm.MethodName)) ∈ xTB := xtb_of (N := 753) (by decide +kernel) (by decide +kernel)
theorem tb754 : (Jvm.Cond.code ({ cls := "ReceivablesBook", name := "accruedOfAll", desc := "(LReceivablesBook$Customer;)I" } : Jvm.MethodName) prog_1_method_29_code (5 : Nat) (Option.some Jvm.ClassFile.FieldType.int)) ∈ xTB := xtb_of (N := 754) (by decide +kernel) (by decide +kernel)
theorem tb755 : (Jvm.Cond.methodLink "ReceivablesBook" (225 : Nat) ({ cls := "ReceivablesBook$Invoice", name := "accruedCents", desc := "()I" } : Jvm.MethodName)) ∈ xTB := xtb_of (N := 755) (by decide +kernel) (by decide +kernel)
theorem tb756 : (Jvm.Cond.instanceMethod ({ cls := "ReceivablesBook$Invoice", name := "accruedCents", desc := "()I" } : Jvm.MethodName)) ∈ xTB := xtb_of (N := 756) (by decide +kernel) (by decide +kernel)
theorem tb757 : (Jvm.Cond.selects "ReceivablesBook$Invoice" ({ cls := "ReceivablesBook$Invoice", name := "accruedCents", desc := "()I" } : Jvm.MethodName) ({ cls := "ReceivablesBook$Invoice", name := "accruedCents", desc := "()I" } : Jvm.MethodName)) ∈ xTB := xtb_of (N := 757) (by decide +kernel) (by decide +kernel)
theorem tb758 : (Jvm.Cond.code ({ cls := "ReceivablesBook$Invoice", name := "accruedCents", desc := "()I" } : Jvm.MethodName) prog_4_method_9_code (3 : Nat) (Option.some Jvm.ClassFile.FieldType.int)) ∈ xTB := xtb_of (N := 758) (by decide +kernel) (by decide +kernel)
theorem tb759 : (Jvm.Cond.methodLink "ReceivablesBook$Invoice" (75 : Nat) ({ cls := "ReceivablesBook$Customer", name := "sumOfOneCent", desc := "()J" } : Jvm.MethodName)) ∈ xTB := xtb_of (N := 759) (by decide +kernel) (by decide +kernel)
theorem tb760 : (Jvm.Cond.instanceMethod ({ cls := "ReceivablesBook$Customer", name := "sumOfOneCent", desc := "()J" } : Jvm.MethodName)) ∈ xTB := xtb_of (N := 760) (by decide +kernel) (by decide +kernel)
theorem tb761 : (Jvm.Cond.selects "ReceivablesBook$Customer" ({ cls := "ReceivablesBook$Customer", name := "sumOfOneCent", desc := "()J" } : Jvm.MethodName) ({ cls := "ReceivablesBook$Customer", name := "sumOfOneCent", desc := "()J" } : Jvm.MethodName)) ∈ xTB := xtb_of (N := 761) (by decide +kernel) (by decide +kernel)
theorem tb762 : (Jvm.Cond.code ({ cls := "ReceivablesBook$Customer", name := "sumOfOneCent", desc := "()J" } : Jvm.MethodName) prog_2_method_2_code (1 : Nat) (Option.some Jvm.ClassFile.FieldType.long)) ∈ xTB := xtb_of (N := 762) (by decide +kernel) (by decide +kernel)
theorem tb763 : (Jvm.Cond.constantLong "ReceivablesBook$Customer" (21 : Nat) (10000 : Int64)) ∈ xTB := xtb_of (N := 763) (by decide +kernel) (by decide +kernel)
theorem tb764 : (Jvm.Cond.methodLink "ReceivablesBook$Customer" (23 : Nat) ({ cls := "ReceivablesBook$DayCount", name := "daysOfYear", desc := "(I)I" } : Jvm.MethodName)) ∈ xTB := xtb_of (N := 764) (by decide +kernel) (by decide +kernel)
theorem tb765 : (Jvm.Cond.static ({ cls := "ReceivablesBook$DayCount", name := "daysOfYear", desc := "(I)I" } : Jvm.MethodName)) ∈ xTB := xtb_of (N := 765) (by decide +kernel) (by decide +kernel)
theorem tb766 : (Jvm.Cond.code ({ cls := "ReceivablesBook$DayCount", name := "daysOfYear", desc := "(I)I" } : Jvm.MethodName) prog_3_method_2_code (1 : Nat) (Option.some Jvm.ClassFile.FieldType.int)) ∈ xTB := xtb_of (N := 766) (by decide +kernel) (by decide +kernel)
theorem tb767 : (Jvm.Cond.methodLink "ReceivablesBook" (222 : Nat) ({ cls := "ReceivablesBook$Invoice", name := "dropAccruedCents", desc := "()V" } : Jvm.MethodName)) ∈ xTB := xtb_of (N := 767) (by decide +kernel) (by decide +kernel)
theorem tb768 : (Jvm.Cond.instanceMethod ({ cls := "ReceivablesBook$Invoice", name := "dropAccruedCents", desc := "()V" } : Jvm.MethodName)) ∈ xTB := xtb_of (N := 768) (by decide +kernel) (by decide +kernel)
theorem tb769 : (Jvm.Cond.selects "ReceivablesBook$Invoice" ({ cls := "ReceivablesBook$Invoice", name := "dropAccruedCents", desc := "()V" } : Jvm.MethodName) ({ cls := "ReceivablesBook$Invoice", name := "dropAccruedCents", desc := "()V" } : Jvm.MethodName)) ∈ xTB := xtb_of (N := 769) (by decide +kernel) (by decide +kernel)
theorem tb770 : (Jvm.Cond.code ({ cls := "ReceivablesBook$Invoice", name := "dropAccruedCents", desc := "()V" } : Jvm.MethodName) prog_4_method_10_code (1 : Nat) (Option.none : Option Jvm.ClassFile.FieldType)) ∈ xTB := xtb_of (N := 770) (by decide +kernel) (by decide +kernel)
theorem tb771 : (Jvm.Cond.methodLink "ReceivablesBook$Invoice" (79 : Nat) ({ cls := "ReceivablesBook$Invoice", name := "accruedCents", desc := "()I" } : Jvm.MethodName)) ∈ xTB := xtb_of (N := 771) (by decide +kernel) (by decide +kernel)
theorem tb772 : (Jvm.Cond.methodLink "ReceivablesBookLaw" (186 : Nat) ({ cls := "ReceivablesBookLaw", name := "accrued", desc := "(LReceivablesBook;I[J)I" } : Jvm.MethodName)) ∈ xTB := xtb_of (N := 772) (by decide +kernel) (by decide +kernel)
theorem tb773 : (Jvm.Cond.static ({ cls := "ReceivablesBookLaw", name := "accrued", desc := "(LReceivablesBook;I[J)I" } : Jvm.MethodName)) ∈ xTB := xtb_of (N := 773) (by decide +kernel) (by decide +kernel)
theorem tb774 : (Jvm.Cond.codeWith ({ cls := "ReceivablesBookLaw", name := "accrued", desc := "(LReceivablesBook;I[J)I" } : Jvm.MethodName) method_19_code (4 : Nat) (Option.some Jvm.ClassFile.FieldType.int) [((0 : Nat), (9 : Nat), (12 : Nat), (21 : Nat))]) ∈ xTB := xtb_of (N := 774) (by decide +kernel) (by decide +kernel)
theorem tb775 : (Jvm.Cond.methodLink "ReceivablesBookLaw" (66 : Nat) ({ cls := "ReceivablesBook", name := "accrued", desc := "(I)I" } : Jvm.MethodName)) ∈ xTB := xtb_of (N := 775) (by decide +kernel) (by decide +kernel)
theorem tb776 : (Jvm.Cond.instanceMethod ({ cls := "ReceivablesBook", name := "accrued", desc := "(I)I" } : Jvm.MethodName)) ∈ xTB := xtb_of (N := 776) (by decide +kernel) (by decide +kernel)
theorem tb777 : (Jvm.Cond.selects "ReceivablesBook" ({ cls := "ReceivablesBook", name := "accrued", desc := "(I)I" } : Jvm.MethodName) ({ cls := "ReceivablesBook", name := "accrued", desc := "(I)I" } : Jvm.MethodName)) ∈ xTB := xtb_of (N := 777) (by decide +kernel) (by decide +kernel)
theorem tb778 : (Jvm.Cond.code ({ cls := "ReceivablesBook", name := "accrued", desc := "(I)I" } : Jvm.MethodName) prog_1_method_27_code (2 : Nat) (Option.some Jvm.ClassFile.FieldType.int)) ∈ xTB := xtb_of (N := 778) (by decide +kernel) (by decide +kernel)
theorem tb779 : (Jvm.Cond.methodLink "ReceivablesBookLaw" (189 : Nat) ({ cls := "ReceivablesBookLaw", name := "isInterest", desc := "(LReceivablesBook;I[J)I" } : Jvm.MethodName)) ∈ xTB := xtb_of (N := 779) (by decide +kernel) (by decide +kernel)
theorem tb780 : (Jvm.Cond.static ({ cls := "ReceivablesBookLaw", name := "isInterest", desc := "(LReceivablesBook;I[J)I" } : Jvm.MethodName)) ∈ xTB := xtb_of (N := 780) (by decide +kernel) (by decide +kernel)
theorem tb781 : (Jvm.Cond.codeWith ({ cls := "ReceivablesBookLaw", name := "isInterest", desc := "(LReceivablesBook;I[J)I" } : Jvm.MethodName) method_20_code (4 : Nat) (Option.some Jvm.ClassFile.FieldType.int) [((0 : Nat), (16 : Nat), (19 : Nat), (21 : Nat))]) ∈ xTB := xtb_of (N := 781) (by decide +kernel) (by decide +kernel)
theorem tb782 : (Jvm.Cond.methodLink "ReceivablesBookLaw" (69 : Nat) ({ cls := "ReceivablesBook", name := "isInterest", desc := "(I)Z" } : Jvm.MethodName)) ∈ xTB := xtb_of (N := 782) (by decide +kernel) (by decide +kernel)
theorem tb783 : (Jvm.Cond.instanceMethod ({ cls := "ReceivablesBook", name := "isInterest", desc := "(I)Z" } : Jvm.MethodName)) ∈ xTB := xtb_of (N := 783) (by decide +kernel) (by decide +kernel)
theorem tb784 : (Jvm.Cond.selects "ReceivablesBook" ({ cls := "ReceivablesBook", name := "isInterest", desc := "(I)Z" } : Jvm.MethodName) ({ cls := "ReceivablesBook", name := "isInterest", desc := "(I)Z" } : Jvm.MethodName)) ∈ xTB := xtb_of (N := 784) (by decide +kernel) (by decide +kernel)
theorem tb785 : (Jvm.Cond.code ({ cls := "ReceivablesBook", name := "isInterest", desc := "(I)Z" } : Jvm.MethodName) prog_1_method_28_code (2 : Nat) (Option.some Jvm.ClassFile.FieldType.boolean)) ∈ xTB := xtb_of (N := 785) (by decide +kernel) (by decide +kernel)
theorem tb786 : (Jvm.Cond.methodLink "ReceivablesBookLaw" (204 : Nat) ({ cls := "ReceivablesBookLaw", name := "amountOf", desc := "(LReceivablesBook;I[J)I" } : Jvm.MethodName)) ∈ xTB := xtb_of (N := 786) (by decide +kernel) (by decide +kernel)
theorem tb787 : (Jvm.Cond.static ({ cls := "ReceivablesBookLaw", name := "amountOf", desc := "(LReceivablesBook;I[J)I" } : Jvm.MethodName)) ∈ xTB := xtb_of (N := 787) (by decide +kernel) (by decide +kernel)
theorem tb788 : (Jvm.Cond.codeWith ({ cls := "ReceivablesBookLaw", name := "amountOf", desc := "(LReceivablesBook;I[J)I" } : Jvm.MethodName) method_21_code (4 : Nat) (Option.some Jvm.ClassFile.FieldType.int) [((0 : Nat), (9 : Nat), (12 : Nat), (21 : Nat))]) ∈ xTB := xtb_of (N := 788) (by decide +kernel) (by decide +kernel)
theorem tb789 : (Jvm.Cond.methodLink "ReceivablesBookLaw" (73 : Nat) ({ cls := "ReceivablesBook", name := "amountOf", desc := "(I)I" } : Jvm.MethodName)) ∈ xTB := xtb_of (N := 789) (by decide +kernel) (by decide +kernel)
theorem tb790 : (Jvm.Cond.instanceMethod ({ cls := "ReceivablesBook", name := "amountOf", desc := "(I)I" } : Jvm.MethodName)) ∈ xTB := xtb_of (N := 790) (by decide +kernel) (by decide +kernel)
theorem tb791 : (Jvm.Cond.selects "ReceivablesBook" ({ cls := "ReceivablesBook", name := "amountOf", desc := "(I)I" } : Jvm.MethodName) ({ cls := "ReceivablesBook", name := "amountOf", desc := "(I)I" } : Jvm.MethodName)) ∈ xTB := xtb_of (N := 791) (by decide +kernel) (by decide +kernel)
theorem tb792 : (Jvm.Cond.code ({ cls := "ReceivablesBook", name := "amountOf", desc := "(I)I" } : Jvm.MethodName) prog_1_method_33_code (2 : Nat) (Option.some Jvm.ClassFile.FieldType.int)) ∈ xTB := xtb_of (N := 792) (by decide +kernel) (by decide +kernel)
theorem tb793 : (Jvm.Cond.methodLink "ReceivablesBookLaw" (207 : Nat) ({ cls := "ReceivablesBookLaw", name := "dueDay", desc := "(LReceivablesBook;I[J)I" } : Jvm.MethodName)) ∈ xTB := xtb_of (N := 793) (by decide +kernel) (by decide +kernel)
theorem tb794 : (Jvm.Cond.static ({ cls := "ReceivablesBookLaw", name := "dueDay", desc := "(LReceivablesBook;I[J)I" } : Jvm.MethodName)) ∈ xTB := xtb_of (N := 794) (by decide +kernel) (by decide +kernel)
theorem tb795 : (Jvm.Cond.codeWith ({ cls := "ReceivablesBookLaw", name := "dueDay", desc := "(LReceivablesBook;I[J)I" } : Jvm.MethodName) method_22_code (4 : Nat) (Option.some Jvm.ClassFile.FieldType.int) [((0 : Nat), (9 : Nat), (12 : Nat), (21 : Nat))]) ∈ xTB := xtb_of (N := 795) (by decide +kernel) (by decide +kernel)
theorem tb796 : (Jvm.Cond.methodLink "ReceivablesBookLaw" (76 : Nat) ({ cls := "ReceivablesBook", name := "dueDay", desc := "(I)I" } : Jvm.MethodName)) ∈ xTB := xtb_of (N := 796) (by decide +kernel) (by decide +kernel)
theorem tb797 : (Jvm.Cond.instanceMethod ({ cls := "ReceivablesBook", name := "dueDay", desc := "(I)I" } : Jvm.MethodName)) ∈ xTB := xtb_of (N := 797) (by decide +kernel) (by decide +kernel)
theorem tb798 : (Jvm.Cond.selects "ReceivablesBook" ({ cls := "ReceivablesBook", name := "dueDay", desc := "(I)I" } : Jvm.MethodName) ({ cls := "ReceivablesBook", name := "dueDay", desc := "(I)I" } : Jvm.MethodName)) ∈ xTB := xtb_of (N := 798) (by decide +kernel) (by decide +kernel)
theorem tb799 : (Jvm.Cond.code ({ cls := "ReceivablesBook", name := "dueDay", desc := "(I)I" } : Jvm.MethodName) prog_1_method_34_code (2 : Nat) (Option.some Jvm.ClassFile.FieldType.int)) ∈ xTB := xtb_of (N := 799) (by decide +kernel) (by decide +kernel)
theorem tb800 : (Jvm.Cond.methodLink "ReceivablesBookLaw" (210 : Nat) ({ cls := "ReceivablesBookLaw", name := "openOf", desc := "(LReceivablesBook;I[J)I" } : Jvm.MethodName)) ∈ xTB := xtb_of (N := 800) (by decide +kernel) (by decide +kernel)
theorem tb801 : (Jvm.Cond.static ({ cls := "ReceivablesBookLaw", name := "openOf", desc := "(LReceivablesBook;I[J)I" } : Jvm.MethodName)) ∈ xTB := xtb_of (N := 801) (by decide +kernel) (by decide +kernel)
theorem tb802 : (Jvm.Cond.codeWith ({ cls := "ReceivablesBookLaw", name := "openOf", desc := "(LReceivablesBook;I[J)I" } : Jvm.MethodName) method_23_code (4 : Nat) (Option.some Jvm.ClassFile.FieldType.int) [((0 : Nat), (9 : Nat), (12 : Nat), (21 : Nat))]) ∈ xTB := xtb_of (N := 802) (by decide +kernel) (by decide +kernel)
theorem tb803 : (Jvm.Cond.methodLink "ReceivablesBookLaw" (79 : Nat) ({ cls := "ReceivablesBook", name := "openOf", desc := "(I)I" } : Jvm.MethodName)) ∈ xTB := xtb_of (N := 803) (by decide +kernel) (by decide +kernel)
theorem tb804 : (Jvm.Cond.instanceMethod ({ cls := "ReceivablesBook", name := "openOf", desc := "(I)I" } : Jvm.MethodName)) ∈ xTB := xtb_of (N := 804) (by decide +kernel) (by decide +kernel)
theorem tb805 : (Jvm.Cond.selects "ReceivablesBook" ({ cls := "ReceivablesBook", name := "openOf", desc := "(I)I" } : Jvm.MethodName) ({ cls := "ReceivablesBook", name := "openOf", desc := "(I)I" } : Jvm.MethodName)) ∈ xTB := xtb_of (N := 805) (by decide +kernel) (by decide +kernel)
theorem tb806 : (Jvm.Cond.code ({ cls := "ReceivablesBook", name := "openOf", desc := "(I)I" } : Jvm.MethodName) prog_1_method_35_code (2 : Nat) (Option.some Jvm.ClassFile.FieldType.int)) ∈ xTB := xtb_of (N := 806) (by decide +kernel) (by decide +kernel)
theorem tb807 : (Jvm.Cond.methodLink "ReceivablesBookLaw" (213 : Nat) ({ cls := "ReceivablesBookLaw", name := "openByLedger", desc := "(LReceivablesBook;I[J)I" } : Jvm.MethodName)) ∈ xTB := xtb_of (N := 807) (by decide +kernel) (by decide +kernel)
theorem tb808 : (Jvm.Cond.static ({ cls := "ReceivablesBookLaw", name := "openByLedger", desc := "(LReceivablesBook;I[J)I" } : Jvm.MethodName)) ∈ xTB := xtb_of (N := 808) (by decide +kernel) (by decide +kernel)
theorem tb809 : (Jvm.Cond.codeWith ({ cls := "ReceivablesBookLaw", name := "openByLedger", desc := "(LReceivablesBook;I[J)I" } : Jvm.MethodName) method_24_code (4 : Nat) (Option.some Jvm.ClassFile.FieldType.int) [((0 : Nat), (9 : Nat), (12 : Nat), (21 : Nat))]) ∈ xTB := xtb_of (N := 809) (by decide +kernel) (by decide +kernel)
theorem tb810 : (Jvm.Cond.methodLink "ReceivablesBookLaw" (82 : Nat) ({ cls := "ReceivablesBook", name := "openByLedger", desc := "(I)I" } : Jvm.MethodName)) ∈ xTB := xtb_of (N := 810) (by decide +kernel) (by decide +kernel)
theorem tb811 : (Jvm.Cond.instanceMethod ({ cls := "ReceivablesBook", name := "openByLedger", desc := "(I)I" } : Jvm.MethodName)) ∈ xTB := xtb_of (N := 811) (by decide +kernel) (by decide +kernel)
theorem tb812 : (Jvm.Cond.selects "ReceivablesBook" ({ cls := "ReceivablesBook", name := "openByLedger", desc := "(I)I" } : Jvm.MethodName) ({ cls := "ReceivablesBook", name := "openByLedger", desc := "(I)I" } : Jvm.MethodName)) ∈ xTB := xtb_of (N := 812) (by decide +kernel) (by decide +kernel)
theorem tb813 : (Jvm.Cond.code ({ cls := "ReceivablesBook", name := "openByLedger", desc := "(I)I" } : Jvm.MethodName) prog_1_method_36_code (2 : Nat) (Option.some Jvm.ClassFile.FieldType.int)) ∈ xTB := xtb_of (N := 813) (by decide +kernel) (by decide +kernel)
theorem tb814 : (Jvm.Cond.methodLink "ReceivablesBook" (231 : Nat) ({ cls := "ReceivablesBook$Ledger", name := "sumOf", desc := "(I)I" } : Jvm.MethodName)) ∈ xTB := xtb_of (N := 814) (by decide +kernel) (by decide +kernel)
theorem tb815 : (Jvm.Cond.instanceMethod ({ cls := "ReceivablesBook$Ledger", name := "sumOf", desc := "(I)I" } : Jvm.MethodName)) ∈ xTB := xtb_of (N := 815) (by decide +kernel) (by decide +kernel)
theorem tb816 : (Jvm.Cond.selects "ReceivablesBook$Ledger" ({ cls := "ReceivablesBook$Ledger", name := "sumOf", desc := "(I)I" } : Jvm.MethodName) ({ cls := "ReceivablesBook$Ledger", name := "sumOf", desc := "(I)I" } : Jvm.MethodName)) ∈ xTB := xtb_of (N := 816) (by decide +kernel) (by decide +kernel)
theorem tb817 : (Jvm.Cond.code ({ cls := "ReceivablesBook$Ledger", name := "sumOf", desc := "(I)I" } : Jvm.MethodName) prog_5_method_4_code (4 : Nat) (Option.some Jvm.ClassFile.FieldType.int)) ∈ xTB := xtb_of (N := 817) (by decide +kernel) (by decide +kernel)
theorem tb818 : (Jvm.Cond.methodLink "ReceivablesBook$Ledger" (29 : Nat) ({ cls := "ReceivablesBook$Ledger", name := "invoiceIn", desc := "(I)I" } : Jvm.MethodName)) ∈ xTB := xtb_of (N := 818) (by decide +kernel) (by decide +kernel)
theorem tb819 : (Jvm.Cond.instanceMethod ({ cls := "ReceivablesBook$Ledger", name := "invoiceIn", desc := "(I)I" } : Jvm.MethodName)) ∈ xTB := xtb_of (N := 819) (by decide +kernel) (by decide +kernel)
theorem tb820 : (Jvm.Cond.selects "ReceivablesBook$Ledger" ({ cls := "ReceivablesBook$Ledger", name := "invoiceIn", desc := "(I)I" } : Jvm.MethodName) ({ cls := "ReceivablesBook$Ledger", name := "invoiceIn", desc := "(I)I" } : Jvm.MethodName)) ∈ xTB := xtb_of (N := 820) (by decide +kernel) (by decide +kernel)
theorem tb821 : (Jvm.Cond.code ({ cls := "ReceivablesBook$Ledger", name := "invoiceIn", desc := "(I)I" } : Jvm.MethodName) prog_5_method_5_code (2 : Nat) (Option.some Jvm.ClassFile.FieldType.int)) ∈ xTB := xtb_of (N := 821) (by decide +kernel) (by decide +kernel)
theorem tb822 : (Jvm.Cond.methodLink "ReceivablesBook$Ledger" (33 : Nat) ({ cls := "ReceivablesBook$Ledger", name := "amountIn", desc := "(I)I" } : Jvm.MethodName)) ∈ xTB := xtb_of (N := 822) (by decide +kernel) (by decide +kernel)
theorem tb823 : (Jvm.Cond.instanceMethod ({ cls := "ReceivablesBook$Ledger", name := "amountIn", desc := "(I)I" } : Jvm.MethodName)) ∈ xTB := xtb_of (N := 823) (by decide +kernel) (by decide +kernel)
theorem tb824 : (Jvm.Cond.selects "ReceivablesBook$Ledger" ({ cls := "ReceivablesBook$Ledger", name := "amountIn", desc := "(I)I" } : Jvm.MethodName) ({ cls := "ReceivablesBook$Ledger", name := "amountIn", desc := "(I)I" } : Jvm.MethodName)) ∈ xTB := xtb_of (N := 824) (by decide +kernel) (by decide +kernel)
theorem tb825 : (Jvm.Cond.code ({ cls := "ReceivablesBook$Ledger", name := "amountIn", desc := "(I)I" } : Jvm.MethodName) prog_5_method_6_code (2 : Nat) (Option.some Jvm.ClassFile.FieldType.int)) ∈ xTB := xtb_of (N := 825) (by decide +kernel) (by decide +kernel)
theorem tb826 : (Jvm.Cond.methodLink "ReceivablesBookLaw" (216 : Nat) ({ cls := "ReceivablesBookLaw", name := "disputedOf", desc := "(LReceivablesBook;I[J)I" } : Jvm.MethodName)) ∈ xTB := xtb_of (N := 826) (by decide +kernel) (by decide +kernel)
theorem tb827 : (Jvm.Cond.static ({ cls := "ReceivablesBookLaw", name := "disputedOf", desc := "(LReceivablesBook;I[J)I" } : Jvm.MethodName)) ∈ xTB := xtb_of (N := 827) (by decide +kernel) (by decide +kernel)
theorem tb828 : (Jvm.Cond.codeWith ({ cls := "ReceivablesBookLaw", name := "disputedOf", desc := "(LReceivablesBook;I[J)I" } : Jvm.MethodName) method_25_code (4 : Nat) (Option.some Jvm.ClassFile.FieldType.int) [((0 : Nat), (9 : Nat), (12 : Nat), (21 : Nat))]) ∈ xTB := xtb_of (N := 828) (by decide +kernel) (by decide +kernel)
theorem tb829 : (Jvm.Cond.methodLink "ReceivablesBookLaw" (85 : Nat) ({ cls := "ReceivablesBook", name := "disputedOf", desc := "(I)I" } : Jvm.MethodName)) ∈ xTB := xtb_of (N := 829) (by decide +kernel) (by decide +kernel)
theorem tb830 : (Jvm.Cond.instanceMethod ({ cls := "ReceivablesBook", name := "disputedOf", desc := "(I)I" } : Jvm.MethodName)) ∈ xTB := xtb_of (N := 830) (by decide +kernel) (by decide +kernel)
theorem tb831 : (Jvm.Cond.selects "ReceivablesBook" ({ cls := "ReceivablesBook", name := "disputedOf", desc := "(I)I" } : Jvm.MethodName) ({ cls := "ReceivablesBook", name := "disputedOf", desc := "(I)I" } : Jvm.MethodName)) ∈ xTB := xtb_of (N := 831) (by decide +kernel) (by decide +kernel)
theorem tb832 : (Jvm.Cond.code ({ cls := "ReceivablesBook", name := "disputedOf", desc := "(I)I" } : Jvm.MethodName) prog_1_method_37_code (2 : Nat) (Option.some Jvm.ClassFile.FieldType.int)) ∈ xTB := xtb_of (N := 832) (by decide +kernel) (by decide +kernel)
theorem tb833 : (Jvm.Cond.methodLink "ReceivablesBookLaw" (219 : Nat) ({ cls := "ReceivablesBookLaw", name := "allocated", desc := "(LReceivablesBook;II[J)I" } : Jvm.MethodName)) ∈ xTB := xtb_of (N := 833) (by decide +kernel) (by decide +kernel)
theorem tb834 : (Jvm.Cond.static ({ cls := "ReceivablesBookLaw", name := "allocated", desc := "(LReceivablesBook;II[J)I" } : Jvm.MethodName)) ∈ xTB := xtb_of (N := 834) (by decide +kernel) (by decide +kernel)
theorem tb835 : (Jvm.Cond.codeWith ({ cls := "ReceivablesBookLaw", name := "allocated", desc := "(LReceivablesBook;II[J)I" } : Jvm.MethodName) method_26_code (5 : Nat) (Option.some Jvm.ClassFile.FieldType.int) [((0 : Nat), (10 : Nat), (13 : Nat), (21 : Nat))]) ∈ xTB := xtb_of (N := 835) (by decide +kernel) (by decide +kernel)
theorem tb836 : (Jvm.Cond.methodLink "ReceivablesBookLaw" (88 : Nat) ({ cls := "ReceivablesBook", name := "allocated", desc := "(II)I" } : Jvm.MethodName)) ∈ xTB := xtb_of (N := 836) (by decide +kernel) (by decide +kernel)
theorem tb837 : (Jvm.Cond.instanceMethod ({ cls := "ReceivablesBook", name := "allocated", desc := "(II)I" } : Jvm.MethodName)) ∈ xTB := xtb_of (N := 837) (by decide +kernel) (by decide +kernel)
theorem tb838 : (Jvm.Cond.selects "ReceivablesBook" ({ cls := "ReceivablesBook", name := "allocated", desc := "(II)I" } : Jvm.MethodName) ({ cls := "ReceivablesBook", name := "allocated", desc := "(II)I" } : Jvm.MethodName)) ∈ xTB := xtb_of (N := 838) (by decide +kernel) (by decide +kernel)
end
section
theorem tb839 : (Jvm.Cond.code ({ cls := "ReceivablesBook", name := "allocated", desc := "(II)I" } : Jvm.MethodName) prog_1_method_38_code (4 : Nat) (Option.some Jvm.ClassFile.FieldType.int)) ∈ xTB := xtb_of (N := 839) (by decide +kernel) (by decide +kernel)
theorem tb840 : (Jvm.Cond.methodLink "ReceivablesBookLaw" (222 : Nat) ({ cls := "ReceivablesBookLaw", name := "unallocated", desc := "(LReceivablesBook;I[J)I" } : Jvm.MethodName)) ∈ xTB := xtb_of (N := 840) (by decide +kernel) (by decide +kernel)
theorem tb841 : (Jvm.Cond.static ({ cls := "ReceivablesBookLaw", name := "unallocated", desc := "(LReceivablesBook;I[J)I" } : Jvm.MethodName)) ∈ xTB := xtb_of (N := 841) (by decide +kernel) (by decide +kernel)
theorem tb842 : (Jvm.Cond.codeWith ({ cls := "ReceivablesBookLaw", name := "unallocated", desc := "(LReceivablesBook;I[J)I" } : Jvm.MethodName) method_27_code (4 : Nat) (Option.some Jvm.ClassFile.FieldType.int) [((0 : Nat), (9 : Nat), (12 : Nat), (21 : Nat))]) ∈ xTB := xtb_of (N := 842) (by decide +kernel) (by decide +kernel)
theorem tb843 : (Jvm.Cond.methodLink "ReceivablesBookLaw" (91 : Nat) ({ cls := "ReceivablesBook", name := "unallocated", desc := "(I)I" } : Jvm.MethodName)) ∈ xTB := xtb_of (N := 843) (by decide +kernel) (by decide +kernel)
theorem tb844 : (Jvm.Cond.instanceMethod ({ cls := "ReceivablesBook", name := "unallocated", desc := "(I)I" } : Jvm.MethodName)) ∈ xTB := xtb_of (N := 844) (by decide +kernel) (by decide +kernel)
theorem tb845 : (Jvm.Cond.selects "ReceivablesBook" ({ cls := "ReceivablesBook", name := "unallocated", desc := "(I)I" } : Jvm.MethodName) ({ cls := "ReceivablesBook", name := "unallocated", desc := "(I)I" } : Jvm.MethodName)) ∈ xTB := xtb_of (N := 845) (by decide +kernel) (by decide +kernel)
theorem tb846 : (Jvm.Cond.code ({ cls := "ReceivablesBook", name := "unallocated", desc := "(I)I" } : Jvm.MethodName) prog_1_method_39_code (2 : Nat) (Option.some Jvm.ClassFile.FieldType.int)) ∈ xTB := xtb_of (N := 846) (by decide +kernel) (by decide +kernel)
theorem tb847 : (Jvm.Cond.methodLink "ReceivablesBookLaw" (225 : Nat) ({ cls := "ReceivablesBookLaw", name := "balance", desc := "(LReceivablesBook;I[J)I" } : Jvm.MethodName)) ∈ xTB := xtb_of (N := 847) (by decide +kernel) (by decide +kernel)
theorem tb848 : (Jvm.Cond.static ({ cls := "ReceivablesBookLaw", name := "balance", desc := "(LReceivablesBook;I[J)I" } : Jvm.MethodName)) ∈ xTB := xtb_of (N := 848) (by decide +kernel) (by decide +kernel)
theorem tb849 : (Jvm.Cond.codeWith ({ cls := "ReceivablesBookLaw", name := "balance", desc := "(LReceivablesBook;I[J)I" } : Jvm.MethodName) method_28_code (4 : Nat) (Option.some Jvm.ClassFile.FieldType.int) [((0 : Nat), (9 : Nat), (12 : Nat), (21 : Nat))]) ∈ xTB := xtb_of (N := 849) (by decide +kernel) (by decide +kernel)
theorem tb850 : (Jvm.Cond.methodLink "ReceivablesBookLaw" (94 : Nat) ({ cls := "ReceivablesBook", name := "balance", desc := "(I)I" } : Jvm.MethodName)) ∈ xTB := xtb_of (N := 850) (by decide +kernel) (by decide +kernel)
theorem tb851 : (Jvm.Cond.instanceMethod ({ cls := "ReceivablesBook", name := "balance", desc := "(I)I" } : Jvm.MethodName)) ∈ xTB := xtb_of (N := 851) (by decide +kernel) (by decide +kernel)
theorem tb852 : (Jvm.Cond.selects "ReceivablesBook" ({ cls := "ReceivablesBook", name := "balance", desc := "(I)I" } : Jvm.MethodName) ({ cls := "ReceivablesBook", name := "balance", desc := "(I)I" } : Jvm.MethodName)) ∈ xTB := xtb_of (N := 852) (by decide +kernel) (by decide +kernel)
theorem tb853 : (Jvm.Cond.code ({ cls := "ReceivablesBook", name := "balance", desc := "(I)I" } : Jvm.MethodName) prog_1_method_40_code (6 : Nat) (Option.some Jvm.ClassFile.FieldType.int)) ∈ xTB := xtb_of (N := 853) (by decide +kernel) (by decide +kernel)
theorem tb854 : (Jvm.Cond.methodLink "ReceivablesBookLaw" (228 : Nat) ({ cls := "ReceivablesBookLaw", name := "bucketOf", desc := "(LReceivablesBook;I[J)I" } : Jvm.MethodName)) ∈ xTB := xtb_of (N := 854) (by decide +kernel) (by decide +kernel)
theorem tb855 : (Jvm.Cond.static ({ cls := "ReceivablesBookLaw", name := "bucketOf", desc := "(LReceivablesBook;I[J)I" } : Jvm.MethodName)) ∈ xTB := xtb_of (N := 855) (by decide +kernel) (by decide +kernel)
theorem tb856 : (Jvm.Cond.codeWith ({ cls := "ReceivablesBookLaw", name := "bucketOf", desc := "(LReceivablesBook;I[J)I" } : Jvm.MethodName) method_29_code (4 : Nat) (Option.some Jvm.ClassFile.FieldType.int) [((0 : Nat), (9 : Nat), (12 : Nat), (21 : Nat))]) ∈ xTB := xtb_of (N := 856) (by decide +kernel) (by decide +kernel)
theorem tb857 : (Jvm.Cond.methodLink "ReceivablesBookLaw" (97 : Nat) ({ cls := "ReceivablesBook", name := "bucketOf", desc := "(I)I" } : Jvm.MethodName)) ∈ xTB := xtb_of (N := 857) (by decide +kernel) (by decide +kernel)
theorem tb858 : (Jvm.Cond.instanceMethod ({ cls := "ReceivablesBook", name := "bucketOf", desc := "(I)I" } : Jvm.MethodName)) ∈ xTB := xtb_of (N := 858) (by decide +kernel) (by decide +kernel)
theorem tb859 : (Jvm.Cond.selects "ReceivablesBook" ({ cls := "ReceivablesBook", name := "bucketOf", desc := "(I)I" } : Jvm.MethodName) ({ cls := "ReceivablesBook", name := "bucketOf", desc := "(I)I" } : Jvm.MethodName)) ∈ xTB := xtb_of (N := 859) (by decide +kernel) (by decide +kernel)
theorem tb860 : (Jvm.Cond.code ({ cls := "ReceivablesBook", name := "bucketOf", desc := "(I)I" } : Jvm.MethodName) prog_1_method_41_code (2 : Nat) (Option.some Jvm.ClassFile.FieldType.int)) ∈ xTB := xtb_of (N := 860) (by decide +kernel) (by decide +kernel)
theorem tb861 : (Jvm.Cond.methodLink "ReceivablesBook" (234 : Nat) ({ cls := "ReceivablesBook$Invoice", name := "bucketOn", desc := "(I)I" } : Jvm.MethodName)) ∈ xTB := xtb_of (N := 861) (by decide +kernel) (by decide +kernel)
theorem tb862 : (Jvm.Cond.instanceMethod ({ cls := "ReceivablesBook$Invoice", name := "bucketOn", desc := "(I)I" } : Jvm.MethodName)) ∈ xTB := xtb_of (N := 862) (by decide +kernel) (by decide +kernel)
theorem tb863 : (Jvm.Cond.selects "ReceivablesBook$Invoice" ({ cls := "ReceivablesBook$Invoice", name := "bucketOn", desc := "(I)I" } : Jvm.MethodName) ({ cls := "ReceivablesBook$Invoice", name := "bucketOn", desc := "(I)I" } : Jvm.MethodName)) ∈ xTB := xtb_of (N := 863) (by decide +kernel) (by decide +kernel)
theorem tb864 : (Jvm.Cond.code ({ cls := "ReceivablesBook$Invoice", name := "bucketOn", desc := "(I)I" } : Jvm.MethodName) prog_4_method_15_code (3 : Nat) (Option.some Jvm.ClassFile.FieldType.int)) ∈ xTB := xtb_of (N := 864) (by decide +kernel) (by decide +kernel)
theorem tb865 : (Jvm.Cond.methodLink "ReceivablesBookLaw" (231 : Nat) ({ cls := "ReceivablesBookLaw", name := "ageing", desc := "(LReceivablesBook;II[J)I" } : Jvm.MethodName)) ∈ xTB := xtb_of (N := 865) (by decide +kernel) (by decide +kernel)
theorem tb866 : (Jvm.Cond.static ({ cls := "ReceivablesBookLaw", name := "ageing", desc := "(LReceivablesBook;II[J)I" } : Jvm.MethodName)) ∈ xTB := xtb_of (N := 866) (by decide +kernel) (by decide +kernel)
theorem tb867 : (Jvm.Cond.codeWith ({ cls := "ReceivablesBookLaw", name := "ageing", desc := "(LReceivablesBook;II[J)I" } : Jvm.MethodName) method_30_code (5 : Nat) (Option.some Jvm.ClassFile.FieldType.int) [((0 : Nat), (10 : Nat), (13 : Nat), (21 : Nat))]) ∈ xTB := xtb_of (N := 867) (by decide +kernel) (by decide +kernel)
theorem tb868 : (Jvm.Cond.methodLink "ReceivablesBookLaw" (100 : Nat) ({ cls := "ReceivablesBook", name := "ageing", desc := "(II)I" } : Jvm.MethodName)) ∈ xTB := xtb_of (N := 868) (by decide +kernel) (by decide +kernel)
theorem tb869 : (Jvm.Cond.instanceMethod ({ cls := "ReceivablesBook", name := "ageing", desc := "(II)I" } : Jvm.MethodName)) ∈ xTB := xtb_of (N := 869) (by decide +kernel) (by decide +kernel)
theorem tb870 : (Jvm.Cond.selects "ReceivablesBook" ({ cls := "ReceivablesBook", name := "ageing", desc := "(II)I" } : Jvm.MethodName) ({ cls := "ReceivablesBook", name := "ageing", desc := "(II)I" } : Jvm.MethodName)) ∈ xTB := xtb_of (N := 870) (by decide +kernel) (by decide +kernel)
theorem tb871 : (Jvm.Cond.code ({ cls := "ReceivablesBook", name := "ageing", desc := "(II)I" } : Jvm.MethodName) prog_1_method_42_code (7 : Nat) (Option.some Jvm.ClassFile.FieldType.int)) ∈ xTB := xtb_of (N := 871) (by decide +kernel) (by decide +kernel)
theorem tb872 : (Jvm.Cond.methodLink "ReceivablesBookLaw" (234 : Nat) ({ cls := "ReceivablesBookLaw", name := "oldest", desc := "(LReceivablesBook;I[J)I" } : Jvm.MethodName)) ∈ xTB := xtb_of (N := 872) (by decide +kernel) (by decide +kernel)
theorem tb873 : (Jvm.Cond.static ({ cls := "ReceivablesBookLaw", name := "oldest", desc := "(LReceivablesBook;I[J)I" } : Jvm.MethodName)) ∈ xTB := xtb_of (N := 873) (by decide +kernel) (by decide +kernel)
theorem tb874 : (Jvm.Cond.codeWith ({ cls := "ReceivablesBookLaw", name := "oldest", desc := "(LReceivablesBook;I[J)I" } : Jvm.MethodName) method_31_code (4 : Nat) (Option.some Jvm.ClassFile.FieldType.int) [((0 : Nat), (9 : Nat), (12 : Nat), (21 : Nat))]) ∈ xTB := xtb_of (N := 874) (by decide +kernel) (by decide +kernel)
theorem tb875 : (Jvm.Cond.methodLink "ReceivablesBookLaw" (103 : Nat) ({ cls := "ReceivablesBook", name := "oldest", desc := "(I)I" } : Jvm.MethodName)) ∈ xTB := xtb_of (N := 875) (by decide +kernel) (by decide +kernel)
theorem tb876 : (Jvm.Cond.instanceMethod ({ cls := "ReceivablesBook", name := "oldest", desc := "(I)I" } : Jvm.MethodName)) ∈ xTB := xtb_of (N := 876) (by decide +kernel) (by decide +kernel)
theorem tb877 : (Jvm.Cond.selects "ReceivablesBook" ({ cls := "ReceivablesBook", name := "oldest", desc := "(I)I" } : Jvm.MethodName) ({ cls := "ReceivablesBook", name := "oldest", desc := "(I)I" } : Jvm.MethodName)) ∈ xTB := xtb_of (N := 877) (by decide +kernel) (by decide +kernel)
theorem tb878 : (Jvm.Cond.code ({ cls := "ReceivablesBook", name := "oldest", desc := "(I)I" } : Jvm.MethodName) prog_1_method_43_code (2 : Nat) (Option.some Jvm.ClassFile.FieldType.int)) ∈ xTB := xtb_of (N := 878) (by decide +kernel) (by decide +kernel)
theorem tb879 : (Jvm.Cond.methodLink "ReceivablesBookLaw" (237 : Nat) ({ cls := "ReceivablesBookLaw", name := "levelOf", desc := "(LReceivablesBook;I[J)I" } : Jvm.MethodName)) ∈ xTB := xtb_of (N := 879) (by decide +kernel) (by decide +kernel)
theorem tb880 : (Jvm.Cond.static ({ cls := "ReceivablesBookLaw", name := "levelOf", desc := "(LReceivablesBook;I[J)I" } : Jvm.MethodName)) ∈ xTB := xtb_of (N := 880) (by decide +kernel) (by decide +kernel)
theorem tb881 : (Jvm.Cond.codeWith ({ cls := "ReceivablesBookLaw", name := "levelOf", desc := "(LReceivablesBook;I[J)I" } : Jvm.MethodName) method_32_code (4 : Nat) (Option.some Jvm.ClassFile.FieldType.int) [((0 : Nat), (9 : Nat), (12 : Nat), (21 : Nat))]) ∈ xTB := xtb_of (N := 881) (by decide +kernel) (by decide +kernel)
theorem tb882 : (Jvm.Cond.methodLink "ReceivablesBookLaw" (106 : Nat) ({ cls := "ReceivablesBook", name := "levelOf", desc := "(I)I" } : Jvm.MethodName)) ∈ xTB := xtb_of (N := 882) (by decide +kernel) (by decide +kernel)
theorem tb883 : (Jvm.Cond.instanceMethod ({ cls := "ReceivablesBook", name := "levelOf", desc := "(I)I" } : Jvm.MethodName)) ∈ xTB := xtb_of (N := 883) (by decide +kernel) (by decide +kernel)
theorem tb884 : (Jvm.Cond.selects "ReceivablesBook" ({ cls := "ReceivablesBook", name := "levelOf", desc := "(I)I" } : Jvm.MethodName) ({ cls := "ReceivablesBook", name := "levelOf", desc := "(I)I" } : Jvm.MethodName)) ∈ xTB := xtb_of (N := 884) (by decide +kernel) (by decide +kernel)
theorem tb885 : (Jvm.Cond.code ({ cls := "ReceivablesBook", name := "levelOf", desc := "(I)I" } : Jvm.MethodName) prog_1_method_44_code (2 : Nat) (Option.some Jvm.ClassFile.FieldType.int)) ∈ xTB := xtb_of (N := 885) (by decide +kernel) (by decide +kernel)
theorem tb886 : (Jvm.Cond.methodLink "ReceivablesBookLaw" (240 : Nat) ({ cls := "ReceivablesBookLaw", name := "daysToReminder", desc := "(LReceivablesBook;I[J)I" } : Jvm.MethodName)) ∈ xTB := xtb_of (N := 886) (by decide +kernel) (by decide +kernel)
theorem tb887 : (Jvm.Cond.static ({ cls := "ReceivablesBookLaw", name := "daysToReminder", desc := "(LReceivablesBook;I[J)I" } : Jvm.MethodName)) ∈ xTB := xtb_of (N := 887) (by decide +kernel) (by decide +kernel)
theorem tb888 : (Jvm.Cond.codeWith ({ cls := "ReceivablesBookLaw", name := "daysToReminder", desc := "(LReceivablesBook;I[J)I" } : Jvm.MethodName) method_33_code (4 : Nat) (Option.some Jvm.ClassFile.FieldType.int) [((0 : Nat), (9 : Nat), (12 : Nat), (21 : Nat))]) ∈ xTB := xtb_of (N := 888) (by decide +kernel) (by decide +kernel)
theorem tb889 : (Jvm.Cond.methodLink "ReceivablesBookLaw" (109 : Nat) ({ cls := "ReceivablesBook", name := "daysToReminder", desc := "(I)I" } : Jvm.MethodName)) ∈ xTB := xtb_of (N := 889) (by decide +kernel) (by decide +kernel)
theorem tb890 : (Jvm.Cond.instanceMethod ({ cls := "ReceivablesBook", name := "daysToReminder", desc := "(I)I" } : Jvm.MethodName)) ∈ xTB := xtb_of (N := 890) (by decide +kernel) (by decide +kernel)
theorem tb891 : (Jvm.Cond.selects "ReceivablesBook" ({ cls := "ReceivablesBook", name := "daysToReminder", desc := "(I)I" } : Jvm.MethodName) ({ cls := "ReceivablesBook", name := "daysToReminder", desc := "(I)I" } : Jvm.MethodName)) ∈ xTB := xtb_of (N := 891) (by decide +kernel) (by decide +kernel)
theorem tb892 : (Jvm.Cond.code ({ cls := "ReceivablesBook", name := "daysToReminder", desc := "(I)I" } : Jvm.MethodName) prog_1_method_45_code (2 : Nat) (Option.some Jvm.ClassFile.FieldType.int)) ∈ xTB := xtb_of (N := 892) (by decide +kernel) (by decide +kernel)
theorem tb893 : (Jvm.Cond.methodLink "ReceivablesBook" (243 : Nat) ({ cls := "ReceivablesBook$Invoice", name := "daysToNextLevel", desc := "(I)I" } : Jvm.MethodName)) ∈ xTB := xtb_of (N := 893) (by decide +kernel) (by decide +kernel)
theorem tb894 : (Jvm.Cond.instanceMethod ({ cls := "ReceivablesBook$Invoice", name := "daysToNextLevel", desc := "(I)I" } : Jvm.MethodName)) ∈ xTB := xtb_of (N := 894) (by decide +kernel) (by decide +kernel)
theorem tb895 : (Jvm.Cond.selects "ReceivablesBook$Invoice" ({ cls := "ReceivablesBook$Invoice", name := "daysToNextLevel", desc := "(I)I" } : Jvm.MethodName) ({ cls := "ReceivablesBook$Invoice", name := "daysToNextLevel", desc := "(I)I" } : Jvm.MethodName)) ∈ xTB := xtb_of (N := 895) (by decide +kernel) (by decide +kernel)
theorem tb896 : (Jvm.Cond.code ({ cls := "ReceivablesBook$Invoice", name := "daysToNextLevel", desc := "(I)I" } : Jvm.MethodName) prog_4_method_12_code (3 : Nat) (Option.some Jvm.ClassFile.FieldType.int)) ∈ xTB := xtb_of (N := 896) (by decide +kernel) (by decide +kernel)
theorem tb897 : (Jvm.Cond.methodLink "ReceivablesBook$Invoice" (92 : Nat) ({ cls := "java/lang/Math", name := "max", desc := "(II)I" } : Jvm.MethodName)) ∈ xTB := xtb_of (N := 897) (by decide +kernel) (by decide +kernel)
theorem tb898 : (Jvm.Cond.methodLink "ReceivablesBookLaw" (243 : Nat) ({ cls := "ReceivablesBookLaw", name := "invoicesAt", desc := "(LReceivablesBook;I[J)I" } : Jvm.MethodName)) ∈ xTB := xtb_of (N := 898) (by decide +kernel) (by decide +kernel)
theorem tb899 : (Jvm.Cond.static ({ cls := "ReceivablesBookLaw", name := "invoicesAt", desc := "(LReceivablesBook;I[J)I" } : Jvm.MethodName)) ∈ xTB := xtb_of (N := 899) (by decide +kernel) (by decide +kernel)
theorem tb900 : (Jvm.Cond.codeWith ({ cls := "ReceivablesBookLaw", name := "invoicesAt", desc := "(LReceivablesBook;I[J)I" } : Jvm.MethodName) method_34_code (4 : Nat) (Option.some Jvm.ClassFile.FieldType.int) [((0 : Nat), (9 : Nat), (12 : Nat), (13 : Nat))]) ∈ xTB := xtb_of (N := 900) (by decide +kernel) (by decide +kernel)
theorem tb901 : (Jvm.Cond.methodLink "ReceivablesBookLaw" (112 : Nat) ({ cls := "ReceivablesBook", name := "invoicesAt", desc := "(I)I" } : Jvm.MethodName)) ∈ xTB := xtb_of (N := 901) (by decide +kernel) (by decide +kernel)
theorem tb902 : (Jvm.Cond.instanceMethod ({ cls := "ReceivablesBook", name := "invoicesAt", desc := "(I)I" } : Jvm.MethodName)) ∈ xTB := xtb_of (N := 902) (by decide +kernel) (by decide +kernel)
theorem tb903 : (Jvm.Cond.selects "ReceivablesBook" ({ cls := "ReceivablesBook", name := "invoicesAt", desc := "(I)I" } : Jvm.MethodName) ({ cls := "ReceivablesBook", name := "invoicesAt", desc := "(I)I" } : Jvm.MethodName)) ∈ xTB := xtb_of (N := 903) (by decide +kernel) (by decide +kernel)
theorem tb904 : (Jvm.Cond.code ({ cls := "ReceivablesBook", name := "invoicesAt", desc := "(I)I" } : Jvm.MethodName) prog_1_method_46_code (4 : Nat) (Option.some Jvm.ClassFile.FieldType.int)) ∈ xTB := xtb_of (N := 904) (by decide +kernel) (by decide +kernel)
theorem tb905 : (Jvm.Cond.methodLink "ReceivablesBookLaw" (250 : Nat) ({ cls := "ReceivablesBookLaw", name := "lineInvoice", desc := "(LReceivablesBook;I[J)I" } : Jvm.MethodName)) ∈ xTB := xtb_of (N := 905) (by decide +kernel) (by decide +kernel)
theorem tb906 : (Jvm.Cond.static ({ cls := "ReceivablesBookLaw", name := "lineInvoice", desc := "(LReceivablesBook;I[J)I" } : Jvm.MethodName)) ∈ xTB := xtb_of (N := 906) (by decide +kernel) (by decide +kernel)
theorem tb907 : (Jvm.Cond.codeWith ({ cls := "ReceivablesBookLaw", name := "lineInvoice", desc := "(LReceivablesBook;I[J)I" } : Jvm.MethodName) method_35_code (4 : Nat) (Option.some Jvm.ClassFile.FieldType.int) [((0 : Nat), (9 : Nat), (12 : Nat), (21 : Nat))]) ∈ xTB := xtb_of (N := 907) (by decide +kernel) (by decide +kernel)
theorem tb908 : (Jvm.Cond.methodLink "ReceivablesBookLaw" (115 : Nat) ({ cls := "ReceivablesBook", name := "lineInvoice", desc := "(I)I" } : Jvm.MethodName)) ∈ xTB := xtb_of (N := 908) (by decide +kernel) (by decide +kernel)
theorem tb909 : (Jvm.Cond.instanceMethod ({ cls := "ReceivablesBook", name := "lineInvoice", desc := "(I)I" } : Jvm.MethodName)) ∈ xTB := xtb_of (N := 909) (by decide +kernel) (by decide +kernel)
theorem tb910 : (Jvm.Cond.selects "ReceivablesBook" ({ cls := "ReceivablesBook", name := "lineInvoice", desc := "(I)I" } : Jvm.MethodName) ({ cls := "ReceivablesBook", name := "lineInvoice", desc := "(I)I" } : Jvm.MethodName)) ∈ xTB := xtb_of (N := 910) (by decide +kernel) (by decide +kernel)
theorem tb911 : (Jvm.Cond.code ({ cls := "ReceivablesBook", name := "lineInvoice", desc := "(I)I" } : Jvm.MethodName) prog_1_method_48_code (2 : Nat) (Option.some Jvm.ClassFile.FieldType.int)) ∈ xTB := xtb_of (N := 911) (by decide +kernel) (by decide +kernel)
theorem tb912 : (Jvm.Cond.methodLink "ReceivablesBook" (249 : Nat) ({ cls := "ReceivablesBook$Ledger", name := "invoiceIn", desc := "(I)I" } : Jvm.MethodName)) ∈ xTB := xtb_of (N := 912) (by decide +kernel) (by decide +kernel)
theorem tb913 : (Jvm.Cond.methodLink "ReceivablesBookLaw" (253 : Nat) ({ cls := "ReceivablesBookLaw", name := "lineAmount", desc := "(LReceivablesBook;I[J)I" } : Jvm.MethodName)) ∈ xTB := xtb_of (N := 913) (by decide +kernel) (by decide +kernel)
theorem tb914 : (Jvm.Cond.static ({ cls := "ReceivablesBookLaw", name := "lineAmount", desc := "(LReceivablesBook;I[J)I" } : Jvm.MethodName)) ∈ xTB := xtb_of (N := 914) (by decide +kernel) (by decide +kernel)
theorem tb915 : (Jvm.Cond.codeWith ({ cls := "ReceivablesBookLaw", name := "lineAmount", desc := "(LReceivablesBook;I[J)I" } : Jvm.MethodName) method_36_code (4 : Nat) (Option.some Jvm.ClassFile.FieldType.int) [((0 : Nat), (9 : Nat), (12 : Nat), (21 : Nat))]) ∈ xTB := xtb_of (N := 915) (by decide +kernel) (by decide +kernel)
theorem tb916 : (Jvm.Cond.methodLink "ReceivablesBookLaw" (118 : Nat) ({ cls := "ReceivablesBook", name := "lineAmount", desc := "(I)I" } : Jvm.MethodName)) ∈ xTB := xtb_of (N := 916) (by decide +kernel) (by decide +kernel)
theorem tb917 : (Jvm.Cond.instanceMethod ({ cls := "ReceivablesBook", name := "lineAmount", desc := "(I)I" } : Jvm.MethodName)) ∈ xTB := xtb_of (N := 917) (by decide +kernel) (by decide +kernel)
theorem tb918 : (Jvm.Cond.selects "ReceivablesBook" ({ cls := "ReceivablesBook", name := "lineAmount", desc := "(I)I" } : Jvm.MethodName) ({ cls := "ReceivablesBook", name := "lineAmount", desc := "(I)I" } : Jvm.MethodName)) ∈ xTB := xtb_of (N := 918) (by decide +kernel) (by decide +kernel)
theorem tb919 : (Jvm.Cond.code ({ cls := "ReceivablesBook", name := "lineAmount", desc := "(I)I" } : Jvm.MethodName) prog_1_method_49_code (2 : Nat) (Option.some Jvm.ClassFile.FieldType.int)) ∈ xTB := xtb_of (N := 919) (by decide +kernel) (by decide +kernel)
theorem tb920 : (Jvm.Cond.methodLink "ReceivablesBook" (252 : Nat) ({ cls := "ReceivablesBook$Ledger", name := "amountIn", desc := "(I)I" } : Jvm.MethodName)) ∈ xTB := xtb_of (N := 920) (by decide +kernel) (by decide +kernel)
theorem tb921 : (Jvm.Cond.classLink "ReceivablesBookLaw" (122 : Nat) "ReceivablesBookModel") ∈ xTB := xtb_of (N := 921) (by decide +kernel) (by decide +kernel)
theorem tb922 : (Jvm.Cond.instantiable "ReceivablesBookModel" (27 : Nat)) ∈ xTB := xtb_of (N := 922) (by decide +kernel) (by decide +kernel)
theorem tb923 : (Jvm.Cond.methodLink "ReceivablesBookLaw" (124 : Nat) ({ cls := "ReceivablesBookModel", name := "<init>", desc := "()V" } : Jvm.MethodName)) ∈ xTB := xtb_of (N := 923) (by decide +kernel) (by decide +kernel)
theorem tb924 : (Jvm.Cond.instanceMethod ({ cls := "ReceivablesBookModel", name := "<init>", desc := "()V" } : Jvm.MethodName)) ∈ xTB := xtb_of (N := 924) (by decide +kernel) (by decide +kernel)
theorem tb925 : (Jvm.Cond.code ({ cls := "ReceivablesBookModel", name := "<init>", desc := "()V" } : Jvm.MethodName) prog_9_method_1_code (1 : Nat) (Option.none : Option Jvm.ClassFile.FieldType)) ∈ xTB := xtb_of (N := 925) (by decide +kernel) (by decide +kernel)
theorem tb926 : (Jvm.Cond.methodLink "ReceivablesBookModel" (1 : Nat) ({ cls := "java/lang/Object", name := "<init>", desc := "()V" } : Jvm.MethodName)) ∈ xTB := xtb_of (N := 926) (by decide +kernel) (by decide +kernel)
theorem tb927 : (Jvm.Cond.fieldLink "ReceivablesBookModel" (75 : Nat) "ReceivablesBookModel" "refusal" "I") ∈ xTB := xtb_of (N := 927) (by decide +kernel) (by decide +kernel)
theorem tb928 : (Jvm.Cond.fieldLink "ReceivablesBookModel" (112 : Nat) "ReceivablesBookModel" "today" "I") ∈ xTB := xtb_of (N := 928) (by decide +kernel) (by decide +kernel)
theorem tb929 : (Jvm.Cond.fieldLink "ReceivablesBookModel" (79 : Nat) "ReceivablesBookModel" "customers" "I") ∈ xTB := xtb_of (N := 929) (by decide +kernel) (by decide +kernel)
theorem tb930 : (Jvm.Cond.fieldLink "ReceivablesBookModel" (86 : Nat) "ReceivablesBookModel" "invoices" "I") ∈ xTB := xtb_of (N := 930) (by decide +kernel) (by decide +kernel)
theorem tb931 : (Jvm.Cond.fieldLink "ReceivablesBookModel" (89 : Nat) "ReceivablesBookModel" "payments" "I") ∈ xTB := xtb_of (N := 931) (by decide +kernel) (by decide +kernel)
theorem tb932 : (Jvm.Cond.fieldLink "ReceivablesBookModel" (134 : Nat) "ReceivablesBookModel" "lines" "I") ∈ xTB := xtb_of (N := 932) (by decide +kernel) (by decide +kernel)
theorem tb933 : (Jvm.Cond.fieldLink "ReceivablesBookModel" (7 : Nat) "ReceivablesBookModel" "rules" "[I") ∈ xTB := xtb_of (N := 933) (by decide +kernel) (by decide +kernel)
theorem tb934 : (Jvm.Cond.fieldLink "ReceivablesBookModel" (13 : Nat) "ReceivablesBookModel" "conventions" "[I") ∈ xTB := xtb_of (N := 934) (by decide +kernel) (by decide +kernel)
theorem tb935 : (Jvm.Cond.fieldLink "ReceivablesBookModel" (16 : Nat) "ReceivablesBookModel" "rates" "[I") ∈ xTB := xtb_of (N := 935) (by decide +kernel) (by decide +kernel)
theorem tb936 : (Jvm.Cond.fieldLink "ReceivablesBookModel" (19 : Nat) "ReceivablesBookModel" "pausedTo" "[I") ∈ xTB := xtb_of (N := 936) (by decide +kernel) (by decide +kernel)
theorem tb937 : (Jvm.Cond.fieldLink "ReceivablesBookModel" (22 : Nat) "ReceivablesBookModel" "owners" "[I") ∈ xTB := xtb_of (N := 937) (by decide +kernel) (by decide +kernel)
theorem tb938 : (Jvm.Cond.fieldLink "ReceivablesBookModel" (25 : Nat) "ReceivablesBookModel" "amounts" "[I") ∈ xTB := xtb_of (N := 938) (by decide +kernel) (by decide +kernel)
theorem tb939 : (Jvm.Cond.fieldLink "ReceivablesBookModel" (28 : Nat) "ReceivablesBookModel" "dues" "[I") ∈ xTB := xtb_of (N := 939) (by decide +kernel) (by decide +kernel)
theorem tb940 : (Jvm.Cond.fieldLink "ReceivablesBookModel" (31 : Nat) "ReceivablesBookModel" "opens" "[I") ∈ xTB := xtb_of (N := 940) (by decide +kernel) (by decide +kernel)
theorem tb941 : (Jvm.Cond.fieldLink "ReceivablesBookModel" (34 : Nat) "ReceivablesBookModel" "disputes" "[I") ∈ xTB := xtb_of (N := 941) (by decide +kernel) (by decide +kernel)
theorem tb942 : (Jvm.Cond.fieldLink "ReceivablesBookModel" (37 : Nat) "ReceivablesBookModel" "accruals" "[J") ∈ xTB := xtb_of (N := 942) (by decide +kernel) (by decide +kernel)
theorem tb943 : (Jvm.Cond.fieldLink "ReceivablesBookModel" (41 : Nat) "ReceivablesBookModel" "areInterest" "[Z") ∈ xTB := xtb_of (N := 943) (by decide +kernel) (by decide +kernel)
theorem tb944 : (Jvm.Cond.fieldLink "ReceivablesBookModel" (45 : Nat) "ReceivablesBookModel" "levels" "[I") ∈ xTB := xtb_of (N := 944) (by decide +kernel) (by decide +kernel)
theorem tb945 : (Jvm.Cond.fieldLink "ReceivablesBookModel" (48 : Nat) "ReceivablesBookModel" "waits" "[I") ∈ xTB := xtb_of (N := 945) (by decide +kernel) (by decide +kernel)
theorem tb946 : (Jvm.Cond.fieldLink "ReceivablesBookModel" (51 : Nat) "ReceivablesBookModel" "payers" "[I") ∈ xTB := xtb_of (N := 946) (by decide +kernel) (by decide +kernel)
theorem tb947 : (Jvm.Cond.fieldLink "ReceivablesBookModel" (54 : Nat) "ReceivablesBookModel" "rests" "[I") ∈ xTB := xtb_of (N := 947) (by decide +kernel) (by decide +kernel)
theorem tb948 : (Jvm.Cond.fieldLink "ReceivablesBookModel" (57 : Nat) "ReceivablesBookModel" "areReversed" "[Z") ∈ xTB := xtb_of (N := 948) (by decide +kernel) (by decide +kernel)
theorem tb949 : (Jvm.Cond.fieldLink "ReceivablesBookModel" (60 : Nat) "ReceivablesBookModel" "allocations" "[I") ∈ xTB := xtb_of (N := 949) (by decide +kernel) (by decide +kernel)
theorem tb950 : (Jvm.Cond.fieldLink "ReceivablesBookModel" (63 : Nat) "ReceivablesBookModel" "lineInvoices" "[I") ∈ xTB := xtb_of (N := 950) (by decide +kernel) (by decide +kernel)
theorem tb951 : (Jvm.Cond.fieldLink "ReceivablesBookModel" (66 : Nat) "ReceivablesBookModel" "lineAmounts" "[I") ∈ xTB := xtb_of (N := 951) (by decide +kernel) (by decide +kernel)
theorem tb952 : (Jvm.Cond.fieldLink "ReceivablesBookModel" (69 : Nat) "ReceivablesBookModel" "shares" "[I") ∈ xTB := xtb_of (N := 952) (by decide +kernel) (by decide +kernel)
theorem tb953 : (Jvm.Cond.fieldLink "ReceivablesBookModel" (72 : Nat) "ReceivablesBookModel" "remainders" "[J") ∈ xTB := xtb_of (N := 953) (by decide +kernel) (by decide +kernel)
theorem tb1009 : (Jvm.Cond.arrayClass Jvm.ClassFile.FieldType.boolean) ∈ xTB := xtb_of (N := 1009) (by decide +kernel) (by decide +kernel)
theorem tb1010 : (Jvm.Cond.methodLink "ReceivablesBookLaw" (131 : Nat) ({ cls := "ReceivablesBookModel", name := "thrown", desc := "()I" } : Jvm.MethodName)) ∈ xTB := xtb_of (N := 1010) (by decide +kernel) (by decide +kernel)
theorem tb1011 : (Jvm.Cond.instanceMethod ({ cls := "ReceivablesBookModel", name := "thrown", desc := "()I" } : Jvm.MethodName)) ∈ xTB := xtb_of (N := 1011) (by decide +kernel) (by decide +kernel)
theorem tb1012 : (Jvm.Cond.selects "ReceivablesBookModel" ({ cls := "ReceivablesBookModel", name := "thrown", desc := "()I" } : Jvm.MethodName) ({ cls := "ReceivablesBookModel", name := "thrown", desc := "()I" } : Jvm.MethodName)) ∈ xTB := xtb_of (N := 1012) (by decide +kernel) (by decide +kernel)
theorem tb1013 : (Jvm.Cond.code ({ cls := "ReceivablesBookModel", name := "thrown", desc := "()I" } : Jvm.MethodName) prog_9_method_2_code (1 : Nat) (Option.some Jvm.ClassFile.FieldType.int)) ∈ xTB := xtb_of (N := 1013) (by decide +kernel) (by decide +kernel)
theorem tb1014 : (Jvm.Cond.methodLink "ReceivablesBookLaw" (130 : Nat) ({ cls := "ReceivablesBookModel", name := "addCustomer", desc := "(III)I" } : Jvm.MethodName)) ∈ xTB := xtb_of (N := 1014) (by decide +kernel) (by decide +kernel)
theorem tb1015 : (Jvm.Cond.instanceMethod ({ cls := "ReceivablesBookModel", name := "addCustomer", desc := "(III)I" } : Jvm.MethodName)) ∈ xTB := xtb_of (N := 1015) (by decide +kernel) (by decide +kernel)
theorem tb1016 : (Jvm.Cond.selects "ReceivablesBookModel" ({ cls := "ReceivablesBookModel", name := "addCustomer", desc := "(III)I" } : Jvm.MethodName) ({ cls := "ReceivablesBookModel", name := "addCustomer", desc := "(III)I" } : Jvm.MethodName)) ∈ xTB := xtb_of (N := 1016) (by decide +kernel) (by decide +kernel)
theorem tb1017 : (Jvm.Cond.code ({ cls := "ReceivablesBookModel", name := "addCustomer", desc := "(III)I" } : Jvm.MethodName) prog_9_method_19_code (5 : Nat) (Option.some Jvm.ClassFile.FieldType.int)) ∈ xTB := xtb_of (N := 1017) (by decide +kernel) (by decide +kernel)
theorem tb1018 : (Jvm.Cond.methodLink "ReceivablesBookModel" (82 : Nat) ({ cls := "ReceivablesBookModel", name := "within", desc := "(III)Z" } : Jvm.MethodName)) ∈ xTB := xtb_of (N := 1018) (by decide +kernel) (by decide +kernel)
theorem tb1019 : (Jvm.Cond.static ({ cls := "ReceivablesBookModel", name := "within", desc := "(III)Z" } : Jvm.MethodName)) ∈ xTB := xtb_of (N := 1019) (by decide +kernel) (by decide +kernel)
theorem tb1020 : (Jvm.Cond.code ({ cls := "ReceivablesBookModel", name := "within", desc := "(III)Z" } : Jvm.MethodName) prog_9_method_5_code (3 : Nat) (Option.some Jvm.ClassFile.FieldType.boolean)) ∈ xTB := xtb_of (N := 1020) (by decide +kernel) (by decide +kernel)
theorem tb1021 : (Jvm.Cond.methodLink "ReceivablesBookModel" (96 : Nat) ({ cls := "ReceivablesBookModel", name := "refused", desc := "(I)Z" } : Jvm.MethodName)) ∈ xTB := xtb_of (N := 1021) (by decide +kernel) (by decide +kernel)
theorem tb1023 : (Jvm.Cond.instanceMethod ({ cls := "ReceivablesBookModel", name := "refused", desc := "(I)Z" } : Jvm.MethodName)) ∈ xTB := xtb_of (N := 1023) (by decide +kernel) (by decide +kernel)
theorem tb1024 : (Jvm.Cond.code ({ cls := "ReceivablesBookModel", name := "refused", desc := "(I)Z" } : Jvm.MethodName) prog_9_method_3_code (2 : Nat) (Option.some Jvm.ClassFile.FieldType.boolean)) ∈ xTB := xtb_of (N := 1024) (by decide +kernel) (by decide +kernel)
theorem tb1025 : (Jvm.Cond.methodLink "ReceivablesBookLaw" (138 : Nat) ({ cls := "ReceivablesBookModel", name := "setRule", desc := "(II)I" } : Jvm.MethodName)) ∈ xTB := xtb_of (N := 1025) (by decide +kernel) (by decide +kernel)
theorem tb1026 : (Jvm.Cond.instanceMethod ({ cls := "ReceivablesBookModel", name := "setRule", desc := "(II)I" } : Jvm.MethodName)) ∈ xTB := xtb_of (N := 1026) (by decide +kernel) (by decide +kernel)
theorem tb1027 : (Jvm.Cond.selects "ReceivablesBookModel" ({ cls := "ReceivablesBookModel", name := "setRule", desc := "(II)I" } : Jvm.MethodName) ({ cls := "ReceivablesBookModel", name := "setRule", desc := "(II)I" } : Jvm.MethodName)) ∈ xTB := xtb_of (N := 1027) (by decide +kernel) (by decide +kernel)
theorem tb1028 : (Jvm.Cond.code ({ cls := "ReceivablesBookModel", name := "setRule", desc := "(II)I" } : Jvm.MethodName) prog_9_method_20_code (4 : Nat) (Option.some Jvm.ClassFile.FieldType.int)) ∈ xTB := xtb_of (N := 1028) (by decide +kernel) (by decide +kernel)
theorem tb1029 : (Jvm.Cond.methodLink "ReceivablesBookModel" (92 : Nat) ({ cls := "ReceivablesBookModel", name := "isCustomer", desc := "(I)Z" } : Jvm.MethodName)) ∈ xTB := xtb_of (N := 1029) (by decide +kernel) (by decide +kernel)
theorem tb1031 : (Jvm.Cond.instanceMethod ({ cls := "ReceivablesBookModel", name := "isCustomer", desc := "(I)Z" } : Jvm.MethodName)) ∈ xTB := xtb_of (N := 1031) (by decide +kernel) (by decide +kernel)
theorem tb1032 : (Jvm.Cond.code ({ cls := "ReceivablesBookModel", name := "isCustomer", desc := "(I)Z" } : Jvm.MethodName) prog_9_method_6_code (2 : Nat) (Option.some Jvm.ClassFile.FieldType.boolean)) ∈ xTB := xtb_of (N := 1032) (by decide +kernel) (by decide +kernel)
theorem tb1033 : (Jvm.Cond.methodLink "ReceivablesBookLaw" (141 : Nat) ({ cls := "ReceivablesBookModel", name := "setRate", desc := "(II)I" } : Jvm.MethodName)) ∈ xTB := xtb_of (N := 1033) (by decide +kernel) (by decide +kernel)
theorem tb1034 : (Jvm.Cond.instanceMethod ({ cls := "ReceivablesBookModel", name := "setRate", desc := "(II)I" } : Jvm.MethodName)) ∈ xTB := xtb_of (N := 1034) (by decide +kernel) (by decide +kernel)
theorem tb1035 : (Jvm.Cond.selects "ReceivablesBookModel" ({ cls := "ReceivablesBookModel", name := "setRate", desc := "(II)I" } : Jvm.MethodName) ({ cls := "ReceivablesBookModel", name := "setRate", desc := "(II)I" } : Jvm.MethodName)) ∈ xTB := xtb_of (N := 1035) (by decide +kernel) (by decide +kernel)
theorem tb1036 : (Jvm.Cond.code ({ cls := "ReceivablesBookModel", name := "setRate", desc := "(II)I" } : Jvm.MethodName) prog_9_method_21_code (4 : Nat) (Option.some Jvm.ClassFile.FieldType.int)) ∈ xTB := xtb_of (N := 1036) (by decide +kernel) (by decide +kernel)
theorem tb1037 : (Jvm.Cond.methodLink "ReceivablesBookLaw" (144 : Nat) ({ cls := "ReceivablesBookModel", name := "pauseReminders", desc := "(II)I" } : Jvm.MethodName)) ∈ xTB := xtb_of (N := 1037) (by decide +kernel) (by decide +kernel)
theorem tb1038 : (Jvm.Cond.instanceMethod ({ cls := "ReceivablesBookModel", name := "pauseReminders", desc := "(II)I" } : Jvm.MethodName)) ∈ xTB := xtb_of (N := 1038) (by decide +kernel) (by decide +kernel)
theorem tb1039 : (Jvm.Cond.selects "ReceivablesBookModel" ({ cls := "ReceivablesBookModel", name := "pauseReminders", desc := "(II)I" } : Jvm.MethodName) ({ cls := "ReceivablesBookModel", name := "pauseReminders", desc := "(II)I" } : Jvm.MethodName)) ∈ xTB := xtb_of (N := 1039) (by decide +kernel) (by decide +kernel)
theorem tb1040 : (Jvm.Cond.code ({ cls := "ReceivablesBookModel", name := "pauseReminders", desc := "(II)I" } : Jvm.MethodName) prog_9_method_22_code (3 : Nat) (Option.some Jvm.ClassFile.FieldType.int)) ∈ xTB := xtb_of (N := 1040) (by decide +kernel) (by decide +kernel)
theorem tb1041 : (Jvm.Cond.methodLink "ReceivablesBookLaw" (148 : Nat) ({ cls := "ReceivablesBookModel", name := "today", desc := "()I" } : Jvm.MethodName)) ∈ xTB := xtb_of (N := 1041) (by decide +kernel) (by decide +kernel)
theorem tb1042 : (Jvm.Cond.instanceMethod ({ cls := "ReceivablesBookModel", name := "today", desc := "()I" } : Jvm.MethodName)) ∈ xTB := xtb_of (N := 1042) (by decide +kernel) (by decide +kernel)
theorem tb1043 : (Jvm.Cond.selects "ReceivablesBookModel" ({ cls := "ReceivablesBookModel", name := "today", desc := "()I" } : Jvm.MethodName) ({ cls := "ReceivablesBookModel", name := "today", desc := "()I" } : Jvm.MethodName)) ∈ xTB := xtb_of (N := 1043) (by decide +kernel) (by decide +kernel)
theorem tb1044 : (Jvm.Cond.code ({ cls := "ReceivablesBookModel", name := "today", desc := "()I" } : Jvm.MethodName) prog_9_method_23_code (1 : Nat) (Option.some Jvm.ClassFile.FieldType.int)) ∈ xTB := xtb_of (N := 1044) (by decide +kernel) (by decide +kernel)
theorem tb1045 : (Jvm.Cond.methodLink "ReceivablesBookModel" (128 : Nat) ({ cls := "ReceivablesBookModel", name := "told", desc := "(I)I" } : Jvm.MethodName)) ∈ xTB := xtb_of (N := 1045) (by decide +kernel) (by decide +kernel)
theorem tb1047 : (Jvm.Cond.instanceMethod ({ cls := "ReceivablesBookModel", name := "told", desc := "(I)I" } : Jvm.MethodName)) ∈ xTB := xtb_of (N := 1047) (by decide +kernel) (by decide +kernel)
theorem tb1048 : (Jvm.Cond.code ({ cls := "ReceivablesBookModel", name := "told", desc := "(I)I" } : Jvm.MethodName) prog_9_method_4_code (2 : Nat) (Option.some Jvm.ClassFile.FieldType.int)) ∈ xTB := xtb_of (N := 1048) (by decide +kernel) (by decide +kernel)
theorem tb1049 : (Jvm.Cond.methodLink "ReceivablesBookLaw" (152 : Nat) ({ cls := "ReceivablesBookModel", name := "passDays", desc := "(I)I" } : Jvm.MethodName)) ∈ xTB := xtb_of (N := 1049) (by decide +kernel) (by decide +kernel)
theorem tb1050 : (Jvm.Cond.instanceMethod ({ cls := "ReceivablesBookModel", name := "passDays", desc := "(I)I" } : Jvm.MethodName)) ∈ xTB := xtb_of (N := 1050) (by decide +kernel) (by decide +kernel)
theorem tb1051 : (Jvm.Cond.selects "ReceivablesBookModel" ({ cls := "ReceivablesBookModel", name := "passDays", desc := "(I)I" } : Jvm.MethodName) ({ cls := "ReceivablesBookModel", name := "passDays", desc := "(I)I" } : Jvm.MethodName)) ∈ xTB := xtb_of (N := 1051) (by decide +kernel) (by decide +kernel)
theorem tb1052 : (Jvm.Cond.code ({ cls := "ReceivablesBookModel", name := "passDays", desc := "(I)I" } : Jvm.MethodName) prog_9_method_24_code (3 : Nat) (Option.some Jvm.ClassFile.FieldType.int)) ∈ xTB := xtb_of (N := 1052) (by decide +kernel) (by decide +kernel)
theorem tb1053 : (Jvm.Cond.methodLink "ReceivablesBookModel" (131 : Nat) ({ cls := "ReceivablesBookModel", name := "passDay", desc := "()V" } : Jvm.MethodName)) ∈ xTB := xtb_of (N := 1053) (by decide +kernel) (by decide +kernel)
theorem tb1055 : (Jvm.Cond.instanceMethod ({ cls := "ReceivablesBookModel", name := "passDay", desc := "()V" } : Jvm.MethodName)) ∈ xTB := xtb_of (N := 1055) (by decide +kernel) (by decide +kernel)
theorem tb1056 : (Jvm.Cond.code ({ cls := "ReceivablesBookModel", name := "passDay", desc := "()V" } : Jvm.MethodName) prog_9_method_18_code (4 : Nat) (Option.none : Option Jvm.ClassFile.FieldType)) ∈ xTB := xtb_of (N := 1056) (by decide +kernel) (by decide +kernel)
theorem tb1057 : (Jvm.Cond.methodLink "ReceivablesBookModel" (115 : Nat) ({ cls := "ReceivablesBookModel", name := "clear", desc := "(I)I" } : Jvm.MethodName)) ∈ xTB := xtb_of (N := 1057) (by decide +kernel) (by decide +kernel)
theorem tb1059 : (Jvm.Cond.instanceMethod ({ cls := "ReceivablesBookModel", name := "clear", desc := "(I)I" } : Jvm.MethodName)) ∈ xTB := xtb_of (N := 1059) (by decide +kernel) (by decide +kernel)
theorem tb1060 : (Jvm.Cond.code ({ cls := "ReceivablesBookModel", name := "clear", desc := "(I)I" } : Jvm.MethodName) prog_9_method_11_code (2 : Nat) (Option.some Jvm.ClassFile.FieldType.int)) ∈ xTB := xtb_of (N := 1060) (by decide +kernel) (by decide +kernel)
theorem tb1061 : (Jvm.Cond.methodLink "ReceivablesBookModel" (118 : Nat) ({ cls := "ReceivablesBookModel", name := "between", desc := "(III)I" } : Jvm.MethodName)) ∈ xTB := xtb_of (N := 1061) (by decide +kernel) (by decide +kernel)
theorem tb1062 : (Jvm.Cond.static ({ cls := "ReceivablesBookModel", name := "between", desc := "(III)I" } : Jvm.MethodName)) ∈ xTB := xtb_of (N := 1062) (by decide +kernel) (by decide +kernel)
theorem tb1063 : (Jvm.Cond.code ({ cls := "ReceivablesBookModel", name := "between", desc := "(III)I" } : Jvm.MethodName) prog_9_method_14_code (3 : Nat) (Option.some Jvm.ClassFile.FieldType.int)) ∈ xTB := xtb_of (N := 1063) (by decide +kernel) (by decide +kernel)
theorem tb1064 : (Jvm.Cond.methodLink "ReceivablesBookModel" (106 : Nat) ({ cls := "ReceivablesBookModel", name := "thirties", desc := "(I)I" } : Jvm.MethodName)) ∈ xTB := xtb_of (N := 1064) (by decide +kernel) (by decide +kernel)
theorem tb1065 : (Jvm.Cond.static ({ cls := "ReceivablesBookModel", name := "thirties", desc := "(I)I" } : Jvm.MethodName)) ∈ xTB := xtb_of (N := 1065) (by decide +kernel) (by decide +kernel)
theorem tb1066 : (Jvm.Cond.code ({ cls := "ReceivablesBookModel", name := "thirties", desc := "(I)I" } : Jvm.MethodName) prog_9_method_12_code (5 : Nat) (Option.some Jvm.ClassFile.FieldType.int)) ∈ xTB := xtb_of (N := 1066) (by decide +kernel) (by decide +kernel)
theorem tb1067 : (Jvm.Cond.methodLink "ReceivablesBookModel" (102 : Nat) ({ cls := "ReceivablesBookModel", name := "length", desc := "(II)I" } : Jvm.MethodName)) ∈ xTB := xtb_of (N := 1067) (by decide +kernel) (by decide +kernel)
theorem tb1068 : (Jvm.Cond.static ({ cls := "ReceivablesBookModel", name := "length", desc := "(II)I" } : Jvm.MethodName)) ∈ xTB := xtb_of (N := 1068) (by decide +kernel) (by decide +kernel)
theorem tb1069 : (Jvm.Cond.code ({ cls := "ReceivablesBookModel", name := "length", desc := "(II)I" } : Jvm.MethodName) prog_9_method_13_code (2 : Nat) (Option.some Jvm.ClassFile.FieldType.int)) ∈ xTB := xtb_of (N := 1069) (by decide +kernel) (by decide +kernel)
theorem tb1070 : (Jvm.Cond.methodLink "ReceivablesBookModel" (122 : Nat) ({ cls := "ReceivablesBookModel", name := "isReminded", desc := "(I)Z" } : Jvm.MethodName)) ∈ xTB := xtb_of (N := 1070) (by decide +kernel) (by decide +kernel)
theorem tb1072 : (Jvm.Cond.instanceMethod ({ cls := "ReceivablesBookModel", name := "isReminded", desc := "(I)Z" } : Jvm.MethodName)) ∈ xTB := xtb_of (N := 1072) (by decide +kernel) (by decide +kernel)
theorem tb1073 : (Jvm.Cond.code ({ cls := "ReceivablesBookModel", name := "isReminded", desc := "(I)Z" } : Jvm.MethodName) prog_9_method_17_code (2 : Nat) (Option.some Jvm.ClassFile.FieldType.boolean)) ∈ xTB := xtb_of (N := 1073) (by decide +kernel) (by decide +kernel)
theorem tb1074 : (Jvm.Cond.methodLink "ReceivablesBookModel" (125 : Nat) ({ cls := "ReceivablesBookModel", name := "patience", desc := "(I)I" } : Jvm.MethodName)) ∈ xTB := xtb_of (N := 1074) (by decide +kernel) (by decide +kernel)
theorem tb1075 : (Jvm.Cond.static ({ cls := "ReceivablesBookModel", name := "patience", desc := "(I)I" } : Jvm.MethodName)) ∈ xTB := xtb_of (N := 1075) (by decide +kernel) (by decide +kernel)
theorem tb1076 : (Jvm.Cond.code ({ cls := "ReceivablesBookModel", name := "patience", desc := "(I)I" } : Jvm.MethodName) prog_9_method_16_code (1 : Nat) (Option.some Jvm.ClassFile.FieldType.int)) ∈ xTB := xtb_of (N := 1076) (by decide +kernel) (by decide +kernel)
theorem tb1077 : (Jvm.Cond.methodLink "ReceivablesBookLaw" (155 : Nat) ({ cls := "ReceivablesBookModel", name := "countDays", desc := "(III)I" } : Jvm.MethodName)) ∈ xTB := xtb_of (N := 1077) (by decide +kernel) (by decide +kernel)
theorem tb1078 : (Jvm.Cond.instanceMethod ({ cls := "ReceivablesBookModel", name := "countDays", desc := "(III)I" } : Jvm.MethodName)) ∈ xTB := xtb_of (N := 1078) (by decide +kernel) (by decide +kernel)
theorem tb1079 : (Jvm.Cond.selects "ReceivablesBookModel" ({ cls := "ReceivablesBookModel", name := "countDays", desc := "(III)I" } : Jvm.MethodName) ({ cls := "ReceivablesBookModel", name := "countDays", desc := "(III)I" } : Jvm.MethodName)) ∈ xTB := xtb_of (N := 1079) (by decide +kernel) (by decide +kernel)
theorem tb1080 : (Jvm.Cond.code ({ cls := "ReceivablesBookModel", name := "countDays", desc := "(III)I" } : Jvm.MethodName) prog_9_method_25_code (5 : Nat) (Option.some Jvm.ClassFile.FieldType.int)) ∈ xTB := xtb_of (N := 1080) (by decide +kernel) (by decide +kernel)
theorem tb1081 : (Jvm.Cond.methodLink "ReceivablesBookLaw" (158 : Nat) ({ cls := "ReceivablesBookModel", name := "postInvoice", desc := "(III)I" } : Jvm.MethodName)) ∈ xTB := xtb_of (N := 1081) (by decide +kernel) (by decide +kernel)
theorem tb1082 : (Jvm.Cond.instanceMethod ({ cls := "ReceivablesBookModel", name := "postInvoice", desc := "(III)I" } : Jvm.MethodName)) ∈ xTB := xtb_of (N := 1082) (by decide +kernel) (by decide +kernel)
theorem tb1083 : (Jvm.Cond.selects "ReceivablesBookModel" ({ cls := "ReceivablesBookModel", name := "postInvoice", desc := "(III)I" } : Jvm.MethodName) ({ cls := "ReceivablesBookModel", name := "postInvoice", desc := "(III)I" } : Jvm.MethodName)) ∈ xTB := xtb_of (N := 1083) (by decide +kernel) (by decide +kernel)
theorem tb1084 : (Jvm.Cond.code ({ cls := "ReceivablesBookModel", name := "postInvoice", desc := "(III)I" } : Jvm.MethodName) prog_9_method_28_code (5 : Nat) (Option.some Jvm.ClassFile.FieldType.int)) ∈ xTB := xtb_of (N := 1084) (by decide +kernel) (by decide +kernel)
theorem tb1085 : (Jvm.Cond.constant "ReceivablesBookModel" (141 : Nat) (10000000 : Int32)) ∈ xTB := xtb_of (N := 1085) (by decide +kernel) (by decide +kernel)
theorem tb1086 : (Jvm.Cond.methodLink "ReceivablesBookModel" (142 : Nat) ({ cls := "ReceivablesBookModel", name := "post", desc := "(IIIZ)I" } : Jvm.MethodName)) ∈ xTB := xtb_of (N := 1086) (by decide +kernel) (by decide +kernel)
theorem tb1088 : (Jvm.Cond.instanceMethod ({ cls := "ReceivablesBookModel", name := "post", desc := "(IIIZ)I" } : Jvm.MethodName)) ∈ xTB := xtb_of (N := 1088) (by decide +kernel) (by decide +kernel)
theorem tb1089 : (Jvm.Cond.code ({ cls := "ReceivablesBookModel", name := "post", desc := "(IIIZ)I" } : Jvm.MethodName) prog_9_method_27_code (5 : Nat) (Option.some Jvm.ClassFile.FieldType.int)) ∈ xTB := xtb_of (N := 1089) (by decide +kernel) (by decide +kernel)
theorem tb1090 : (Jvm.Cond.methodLink "ReceivablesBookModel" (137 : Nat) ({ cls := "ReceivablesBookModel", name := "write", desc := "(II)V" } : Jvm.MethodName)) ∈ xTB := xtb_of (N := 1090) (by decide +kernel) (by decide +kernel)
theorem tb1092 : (Jvm.Cond.instanceMethod ({ cls := "ReceivablesBookModel", name := "write", desc := "(II)V" } : Jvm.MethodName)) ∈ xTB := xtb_of (N := 1092) (by decide +kernel) (by decide +kernel)
theorem tb1093 : (Jvm.Cond.code ({ cls := "ReceivablesBookModel", name := "write", desc := "(II)V" } : Jvm.MethodName) prog_9_method_26_code (3 : Nat) (Option.none : Option Jvm.ClassFile.FieldType)) ∈ xTB := xtb_of (N := 1093) (by decide +kernel) (by decide +kernel)
theorem tb1094 : (Jvm.Cond.methodLink "ReceivablesBookLaw" (161 : Nat) ({ cls := "ReceivablesBookModel", name := "postPayment", desc := "(II)I" } : Jvm.MethodName)) ∈ xTB := xtb_of (N := 1094) (by decide +kernel) (by decide +kernel)
theorem tb1095 : (Jvm.Cond.instanceMethod ({ cls := "ReceivablesBookModel", name := "postPayment", desc := "(II)I" } : Jvm.MethodName)) ∈ xTB := xtb_of (N := 1095) (by decide +kernel) (by decide +kernel)
theorem tb1096 : (Jvm.Cond.selects "ReceivablesBookModel" ({ cls := "ReceivablesBookModel", name := "postPayment", desc := "(II)I" } : Jvm.MethodName) ({ cls := "ReceivablesBookModel", name := "postPayment", desc := "(II)I" } : Jvm.MethodName)) ∈ xTB := xtb_of (N := 1096) (by decide +kernel) (by decide +kernel)
theorem tb1097 : (Jvm.Cond.code ({ cls := "ReceivablesBookModel", name := "postPayment", desc := "(II)I" } : Jvm.MethodName) prog_9_method_36_code (4 : Nat) (Option.some Jvm.ClassFile.FieldType.int)) ∈ xTB := xtb_of (N := 1097) (by decide +kernel) (by decide +kernel)
theorem tb1098 : (Jvm.Cond.methodLink "ReceivablesBookModel" (163 : Nat) ({ cls := "ReceivablesBookModel", name := "allocateByRule", desc := "(I)I" } : Jvm.MethodName)) ∈ xTB := xtb_of (N := 1098) (by decide +kernel) (by decide +kernel)
theorem tb1100 : (Jvm.Cond.instanceMethod ({ cls := "ReceivablesBookModel", name := "allocateByRule", desc := "(I)I" } : Jvm.MethodName)) ∈ xTB := xtb_of (N := 1100) (by decide +kernel) (by decide +kernel)
theorem tb1101 : (Jvm.Cond.code ({ cls := "ReceivablesBookModel", name := "allocateByRule", desc := "(I)I" } : Jvm.MethodName) prog_9_method_35_code (4 : Nat) (Option.some Jvm.ClassFile.FieldType.int)) ∈ xTB := xtb_of (N := 1101) (by decide +kernel) (by decide +kernel)
theorem tb1102 : (Jvm.Cond.methodLink "ReceivablesBookModel" (156 : Nat) ({ cls := "ReceivablesBookModel", name := "share", desc := "(II)V" } : Jvm.MethodName)) ∈ xTB := xtb_of (N := 1102) (by decide +kernel) (by decide +kernel)
theorem tb1104 : (Jvm.Cond.instanceMethod ({ cls := "ReceivablesBookModel", name := "share", desc := "(II)V" } : Jvm.MethodName)) ∈ xTB := xtb_of (N := 1104) (by decide +kernel) (by decide +kernel)
theorem tb1105 : (Jvm.Cond.code ({ cls := "ReceivablesBookModel", name := "share", desc := "(II)V" } : Jvm.MethodName) prog_9_method_33_code (7 : Nat) (Option.none : Option Jvm.ClassFile.FieldType)) ∈ xTB := xtb_of (N := 1105) (by decide +kernel) (by decide +kernel)
theorem tb1106 : (Jvm.Cond.methodLink "ReceivablesBookModel" (146 : Nat) ({ cls := "ReceivablesBookModel", name := "clearOf", desc := "(I)J" } : Jvm.MethodName)) ∈ xTB := xtb_of (N := 1106) (by decide +kernel) (by decide +kernel)
theorem tb1108 : (Jvm.Cond.instanceMethod ({ cls := "ReceivablesBookModel", name := "clearOf", desc := "(I)J" } : Jvm.MethodName)) ∈ xTB := xtb_of (N := 1108) (by decide +kernel) (by decide +kernel)
theorem tb1109 : (Jvm.Cond.code ({ cls := "ReceivablesBookModel", name := "clearOf", desc := "(I)J" } : Jvm.MethodName) prog_9_method_30_code (5 : Nat) (Option.some Jvm.ClassFile.FieldType.long)) ∈ xTB := xtb_of (N := 1109) (by decide +kernel) (by decide +kernel)
theorem tb1110 : (Jvm.Cond.methodLink "ReceivablesBookModel" (150 : Nat) ({ cls := "ReceivablesBookModel", name := "split", desc := "(II)V" } : Jvm.MethodName)) ∈ xTB := xtb_of (N := 1110) (by decide +kernel) (by decide +kernel)
theorem tb1112 : (Jvm.Cond.instanceMethod ({ cls := "ReceivablesBookModel", name := "split", desc := "(II)V" } : Jvm.MethodName)) ∈ xTB := xtb_of (N := 1112) (by decide +kernel) (by decide +kernel)
theorem tb1113 : (Jvm.Cond.code ({ cls := "ReceivablesBookModel", name := "split", desc := "(II)V" } : Jvm.MethodName) prog_9_method_31_code (9 : Nat) (Option.none : Option Jvm.ClassFile.FieldType)) ∈ xTB := xtb_of (N := 1113) (by decide +kernel) (by decide +kernel)
theorem tb1114 : (Jvm.Cond.methodLink "ReceivablesBookModel" (153 : Nat) ({ cls := "ReceivablesBookModel", name := "fromOldest", desc := "(III)I" } : Jvm.MethodName)) ∈ xTB := xtb_of (N := 1114) (by decide +kernel) (by decide +kernel)
theorem tb1116 : (Jvm.Cond.instanceMethod ({ cls := "ReceivablesBookModel", name := "fromOldest", desc := "(III)I" } : Jvm.MethodName)) ∈ xTB := xtb_of (N := 1116) (by decide +kernel) (by decide +kernel)
theorem tb1117 : (Jvm.Cond.code ({ cls := "ReceivablesBookModel", name := "fromOldest", desc := "(III)I" } : Jvm.MethodName) prog_9_method_34_code (8 : Nat) (Option.some Jvm.ClassFile.FieldType.int)) ∈ xTB := xtb_of (N := 1117) (by decide +kernel) (by decide +kernel)
theorem tb1118 : (Jvm.Cond.methodLink "ReceivablesBookModel" (159 : Nat) ({ cls := "ReceivablesBookModel", name := "put", desc := "(III)V" } : Jvm.MethodName)) ∈ xTB := xtb_of (N := 1118) (by decide +kernel) (by decide +kernel)
theorem tb1120 : (Jvm.Cond.instanceMethod ({ cls := "ReceivablesBookModel", name := "put", desc := "(III)V" } : Jvm.MethodName)) ∈ xTB := xtb_of (N := 1120) (by decide +kernel) (by decide +kernel)
theorem tb1121 : (Jvm.Cond.code ({ cls := "ReceivablesBookModel", name := "put", desc := "(III)V" } : Jvm.MethodName) prog_9_method_29_code (4 : Nat) (Option.none : Option Jvm.ClassFile.FieldType)) ∈ xTB := xtb_of (N := 1121) (by decide +kernel) (by decide +kernel)
theorem tb1122 : (Jvm.Cond.methodLink "ReceivablesBookLaw" (164 : Nat) ({ cls := "ReceivablesBookModel", name := "allocate", desc := "(III)I" } : Jvm.MethodName)) ∈ xTB := xtb_of (N := 1122) (by decide +kernel) (by decide +kernel)
theorem tb1123 : (Jvm.Cond.instanceMethod ({ cls := "ReceivablesBookModel", name := "allocate", desc := "(III)I" } : Jvm.MethodName)) ∈ xTB := xtb_of (N := 1123) (by decide +kernel) (by decide +kernel)
theorem tb1124 : (Jvm.Cond.selects "ReceivablesBookModel" ({ cls := "ReceivablesBookModel", name := "allocate", desc := "(III)I" } : Jvm.MethodName) ({ cls := "ReceivablesBookModel", name := "allocate", desc := "(III)I" } : Jvm.MethodName)) ∈ xTB := xtb_of (N := 1124) (by decide +kernel) (by decide +kernel)
theorem tb1125 : (Jvm.Cond.code ({ cls := "ReceivablesBookModel", name := "allocate", desc := "(III)I" } : Jvm.MethodName) prog_9_method_37_code (5 : Nat) (Option.some Jvm.ClassFile.FieldType.int)) ∈ xTB := xtb_of (N := 1125) (by decide +kernel) (by decide +kernel)
theorem tb1126 : (Jvm.Cond.methodLink "ReceivablesBookModel" (166 : Nat) ({ cls := "ReceivablesBookModel", name := "isPayment", desc := "(I)Z" } : Jvm.MethodName)) ∈ xTB := xtb_of (N := 1126) (by decide +kernel) (by decide +kernel)
theorem tb1128 : (Jvm.Cond.instanceMethod ({ cls := "ReceivablesBookModel", name := "isPayment", desc := "(I)Z" } : Jvm.MethodName)) ∈ xTB := xtb_of (N := 1128) (by decide +kernel) (by decide +kernel)
theorem tb1129 : (Jvm.Cond.code ({ cls := "ReceivablesBookModel", name := "isPayment", desc := "(I)Z" } : Jvm.MethodName) prog_9_method_8_code (2 : Nat) (Option.some Jvm.ClassFile.FieldType.boolean)) ∈ xTB := xtb_of (N := 1129) (by decide +kernel) (by decide +kernel)
theorem tb1130 : (Jvm.Cond.methodLink "ReceivablesBookModel" (99 : Nat) ({ cls := "ReceivablesBookModel", name := "isInvoice", desc := "(I)Z" } : Jvm.MethodName)) ∈ xTB := xtb_of (N := 1130) (by decide +kernel) (by decide +kernel)
theorem tb1132 : (Jvm.Cond.instanceMethod ({ cls := "ReceivablesBookModel", name := "isInvoice", desc := "(I)Z" } : Jvm.MethodName)) ∈ xTB := xtb_of (N := 1132) (by decide +kernel) (by decide +kernel)
theorem tb1133 : (Jvm.Cond.code ({ cls := "ReceivablesBookModel", name := "isInvoice", desc := "(I)Z" } : Jvm.MethodName) prog_9_method_7_code (2 : Nat) (Option.some Jvm.ClassFile.FieldType.boolean)) ∈ xTB := xtb_of (N := 1133) (by decide +kernel) (by decide +kernel)
theorem tb1134 : (Jvm.Cond.methodLink "ReceivablesBookLaw" (167 : Nat) ({ cls := "ReceivablesBookModel", name := "allocateRest", desc := "(I)I" } : Jvm.MethodName)) ∈ xTB := xtb_of (N := 1134) (by decide +kernel) (by decide +kernel)
theorem tb1135 : (Jvm.Cond.instanceMethod ({ cls := "ReceivablesBookModel", name := "allocateRest", desc := "(I)I" } : Jvm.MethodName)) ∈ xTB := xtb_of (N := 1135) (by decide +kernel) (by decide +kernel)
theorem tb1136 : (Jvm.Cond.selects "ReceivablesBookModel" ({ cls := "ReceivablesBookModel", name := "allocateRest", desc := "(I)I" } : Jvm.MethodName) ({ cls := "ReceivablesBookModel", name := "allocateRest", desc := "(I)I" } : Jvm.MethodName)) ∈ xTB := xtb_of (N := 1136) (by decide +kernel) (by decide +kernel)
theorem tb1137 : (Jvm.Cond.code ({ cls := "ReceivablesBookModel", name := "allocateRest", desc := "(I)I" } : Jvm.MethodName) prog_9_method_38_code (4 : Nat) (Option.some Jvm.ClassFile.FieldType.int)) ∈ xTB := xtb_of (N := 1137) (by decide +kernel) (by decide +kernel)
theorem tb1138 : (Jvm.Cond.methodLink "ReceivablesBookModel" (169 : Nat) ({ cls := "ReceivablesBookModel", name := "noCustomer", desc := "(I)Z" } : Jvm.MethodName)) ∈ xTB := xtb_of (N := 1138) (by decide +kernel) (by decide +kernel)
theorem tb1140 : (Jvm.Cond.instanceMethod ({ cls := "ReceivablesBookModel", name := "noCustomer", desc := "(I)Z" } : Jvm.MethodName)) ∈ xTB := xtb_of (N := 1140) (by decide +kernel) (by decide +kernel)
theorem tb1141 : (Jvm.Cond.code ({ cls := "ReceivablesBookModel", name := "noCustomer", desc := "(I)Z" } : Jvm.MethodName) prog_9_method_9_code (2 : Nat) (Option.some Jvm.ClassFile.FieldType.boolean)) ∈ xTB := xtb_of (N := 1141) (by decide +kernel) (by decide +kernel)
theorem tb1142 : (Jvm.Cond.methodLink "ReceivablesBookLaw" (170 : Nat) ({ cls := "ReceivablesBookModel", name := "release", desc := "(II)I" } : Jvm.MethodName)) ∈ xTB := xtb_of (N := 1142) (by decide +kernel) (by decide +kernel)
theorem tb1143 : (Jvm.Cond.instanceMethod ({ cls := "ReceivablesBookModel", name := "release", desc := "(II)I" } : Jvm.MethodName)) ∈ xTB := xtb_of (N := 1143) (by decide +kernel) (by decide +kernel)
theorem tb1144 : (Jvm.Cond.selects "ReceivablesBookModel" ({ cls := "ReceivablesBookModel", name := "release", desc := "(II)I" } : Jvm.MethodName) ({ cls := "ReceivablesBookModel", name := "release", desc := "(II)I" } : Jvm.MethodName)) ∈ xTB := xtb_of (N := 1144) (by decide +kernel) (by decide +kernel)
theorem tb1145 : (Jvm.Cond.code ({ cls := "ReceivablesBookModel", name := "release", desc := "(II)I" } : Jvm.MethodName) prog_9_method_40_code (3 : Nat) (Option.some Jvm.ClassFile.FieldType.int)) ∈ xTB := xtb_of (N := 1145) (by decide +kernel) (by decide +kernel)
theorem tb1146 : (Jvm.Cond.methodLink "ReceivablesBookModel" (172 : Nat) ({ cls := "ReceivablesBookModel", name := "takeBack", desc := "(II)I" } : Jvm.MethodName)) ∈ xTB := xtb_of (N := 1146) (by decide +kernel) (by decide +kernel)
theorem tb1148 : (Jvm.Cond.instanceMethod ({ cls := "ReceivablesBookModel", name := "takeBack", desc := "(II)I" } : Jvm.MethodName)) ∈ xTB := xtb_of (N := 1148) (by decide +kernel) (by decide +kernel)
theorem tb1149 : (Jvm.Cond.code ({ cls := "ReceivablesBookModel", name := "takeBack", desc := "(II)I" } : Jvm.MethodName) prog_9_method_39_code (4 : Nat) (Option.some Jvm.ClassFile.FieldType.int)) ∈ xTB := xtb_of (N := 1149) (by decide +kernel) (by decide +kernel)
theorem tb1150 : (Jvm.Cond.methodLink "ReceivablesBookLaw" (173 : Nat) ({ cls := "ReceivablesBookModel", name := "reverse", desc := "(I)I" } : Jvm.MethodName)) ∈ xTB := xtb_of (N := 1150) (by decide +kernel) (by decide +kernel)
theorem tb1151 : (Jvm.Cond.instanceMethod ({ cls := "ReceivablesBookModel", name := "reverse", desc := "(I)I" } : Jvm.MethodName)) ∈ xTB := xtb_of (N := 1151) (by decide +kernel) (by decide +kernel)
theorem tb1152 : (Jvm.Cond.selects "ReceivablesBookModel" ({ cls := "ReceivablesBookModel", name := "reverse", desc := "(I)I" } : Jvm.MethodName) ({ cls := "ReceivablesBookModel", name := "reverse", desc := "(I)I" } : Jvm.MethodName)) ∈ xTB := xtb_of (N := 1152) (by decide +kernel) (by decide +kernel)
theorem tb1153 : (Jvm.Cond.code ({ cls := "ReceivablesBookModel", name := "reverse", desc := "(I)I" } : Jvm.MethodName) prog_9_method_41_code (4 : Nat) (Option.some Jvm.ClassFile.FieldType.int)) ∈ xTB := xtb_of (N := 1153) (by decide +kernel) (by decide +kernel)
theorem tb1154 : (Jvm.Cond.methodLink "ReceivablesBookLaw" (176 : Nat) ({ cls := "ReceivablesBookModel", name := "dispute", desc := "(II)I" } : Jvm.MethodName)) ∈ xTB := xtb_of (N := 1154) (by decide +kernel) (by decide +kernel)
theorem tb1155 : (Jvm.Cond.instanceMethod ({ cls := "ReceivablesBookModel", name := "dispute", desc := "(II)I" } : Jvm.MethodName)) ∈ xTB := xtb_of (N := 1155) (by decide +kernel) (by decide +kernel)
theorem tb1156 : (Jvm.Cond.selects "ReceivablesBookModel" ({ cls := "ReceivablesBookModel", name := "dispute", desc := "(II)I" } : Jvm.MethodName) ({ cls := "ReceivablesBookModel", name := "dispute", desc := "(II)I" } : Jvm.MethodName)) ∈ xTB := xtb_of (N := 1156) (by decide +kernel) (by decide +kernel)
theorem tb1157 : (Jvm.Cond.code ({ cls := "ReceivablesBookModel", name := "dispute", desc := "(II)I" } : Jvm.MethodName) prog_9_method_42_code (3 : Nat) (Option.some Jvm.ClassFile.FieldType.int)) ∈ xTB := xtb_of (N := 1157) (by decide +kernel) (by decide +kernel)
theorem tb1158 : (Jvm.Cond.methodLink "ReceivablesBookLaw" (179 : Nat) ({ cls := "ReceivablesBookModel", name := "disputeAll", desc := "(II)I" } : Jvm.MethodName)) ∈ xTB := xtb_of (N := 1158) (by decide +kernel) (by decide +kernel)
theorem tb1159 : (Jvm.Cond.instanceMethod ({ cls := "ReceivablesBookModel", name := "disputeAll", desc := "(II)I" } : Jvm.MethodName)) ∈ xTB := xtb_of (N := 1159) (by decide +kernel) (by decide +kernel)
theorem tb1160 : (Jvm.Cond.selects "ReceivablesBookModel" ({ cls := "ReceivablesBookModel", name := "disputeAll", desc := "(II)I" } : Jvm.MethodName) ({ cls := "ReceivablesBookModel", name := "disputeAll", desc := "(II)I" } : Jvm.MethodName)) ∈ xTB := xtb_of (N := 1160) (by decide +kernel) (by decide +kernel)
theorem tb1161 : (Jvm.Cond.code ({ cls := "ReceivablesBookModel", name := "disputeAll", desc := "(II)I" } : Jvm.MethodName) prog_9_method_43_code (5 : Nat) (Option.some Jvm.ClassFile.FieldType.int)) ∈ xTB := xtb_of (N := 1161) (by decide +kernel) (by decide +kernel)
theorem tb1162 : (Jvm.Cond.methodLink "ReceivablesBookLaw" (182 : Nat) ({ cls := "ReceivablesBookModel", name := "settle", desc := "(II)I" } : Jvm.MethodName)) ∈ xTB := xtb_of (N := 1162) (by decide +kernel) (by decide +kernel)
theorem tb1163 : (Jvm.Cond.instanceMethod ({ cls := "ReceivablesBookModel", name := "settle", desc := "(II)I" } : Jvm.MethodName)) ∈ xTB := xtb_of (N := 1163) (by decide +kernel) (by decide +kernel)
theorem tb1164 : (Jvm.Cond.selects "ReceivablesBookModel" ({ cls := "ReceivablesBookModel", name := "settle", desc := "(II)I" } : Jvm.MethodName) ({ cls := "ReceivablesBookModel", name := "settle", desc := "(II)I" } : Jvm.MethodName)) ∈ xTB := xtb_of (N := 1164) (by decide +kernel) (by decide +kernel)
theorem tb1165 : (Jvm.Cond.code ({ cls := "ReceivablesBookModel", name := "settle", desc := "(II)I" } : Jvm.MethodName) prog_9_method_44_code (3 : Nat) (Option.some Jvm.ClassFile.FieldType.int)) ∈ xTB := xtb_of (N := 1165) (by decide +kernel) (by decide +kernel)
theorem tb1166 : (Jvm.Cond.methodLink "ReceivablesBookLaw" (185 : Nat) ({ cls := "ReceivablesBookModel", name := "chargeInterest", desc := "(II)I" } : Jvm.MethodName)) ∈ xTB := xtb_of (N := 1166) (by decide +kernel) (by decide +kernel)
theorem tb1167 : (Jvm.Cond.instanceMethod ({ cls := "ReceivablesBookModel", name := "chargeInterest", desc := "(II)I" } : Jvm.MethodName)) ∈ xTB := xtb_of (N := 1167) (by decide +kernel) (by decide +kernel)
theorem tb1168 : (Jvm.Cond.selects "ReceivablesBookModel" ({ cls := "ReceivablesBookModel", name := "chargeInterest", desc := "(II)I" } : Jvm.MethodName) ({ cls := "ReceivablesBookModel", name := "chargeInterest", desc := "(II)I" } : Jvm.MethodName)) ∈ xTB := xtb_of (N := 1168) (by decide +kernel) (by decide +kernel)
theorem tb1169 : (Jvm.Cond.code ({ cls := "ReceivablesBookModel", name := "chargeInterest", desc := "(II)I" } : Jvm.MethodName) prog_9_method_46_code (6 : Nat) (Option.some Jvm.ClassFile.FieldType.int)) ∈ xTB := xtb_of (N := 1169) (by decide +kernel) (by decide +kernel)
theorem tb1170 : (Jvm.Cond.methodLink "ReceivablesBookModel" (178 : Nat) ({ cls := "ReceivablesBookModel", name := "accruedOf", desc := "(I)I" } : Jvm.MethodName)) ∈ xTB := xtb_of (N := 1170) (by decide +kernel) (by decide +kernel)
theorem tb1172 : (Jvm.Cond.instanceMethod ({ cls := "ReceivablesBookModel", name := "accruedOf", desc := "(I)I" } : Jvm.MethodName)) ∈ xTB := xtb_of (N := 1172) (by decide +kernel) (by decide +kernel)
theorem tb1173 : (Jvm.Cond.code ({ cls := "ReceivablesBookModel", name := "accruedOf", desc := "(I)I" } : Jvm.MethodName) prog_9_method_45_code (2 : Nat) (Option.some Jvm.ClassFile.FieldType.int)) ∈ xTB := xtb_of (N := 1173) (by decide +kernel) (by decide +kernel)
theorem tb1174 : (Jvm.Cond.methodLink "ReceivablesBookModel" (175 : Nat) ({ cls := "ReceivablesBookModel", name := "unit", desc := "(I)J" } : Jvm.MethodName)) ∈ xTB := xtb_of (N := 1174) (by decide +kernel) (by decide +kernel)
theorem tb1175 : (Jvm.Cond.static ({ cls := "ReceivablesBookModel", name := "unit", desc := "(I)J" } : Jvm.MethodName)) ∈ xTB := xtb_of (N := 1175) (by decide +kernel) (by decide +kernel)
theorem tb1176 : (Jvm.Cond.code ({ cls := "ReceivablesBookModel", name := "unit", desc := "(I)J" } : Jvm.MethodName) prog_9_method_15_code (1 : Nat) (Option.some Jvm.ClassFile.FieldType.long)) ∈ xTB := xtb_of (N := 1176) (by decide +kernel) (by decide +kernel)
theorem tb1177 : (Jvm.Cond.constantLong "ReceivablesBookModel" (110 : Nat) (10000 : Int64)) ∈ xTB := xtb_of (N := 1177) (by decide +kernel) (by decide +kernel)
theorem tb1178 : (Jvm.Cond.methodLink "ReceivablesBookLaw" (188 : Nat) ({ cls := "ReceivablesBookModel", name := "accrued", desc := "(I)I" } : Jvm.MethodName)) ∈ xTB := xtb_of (N := 1178) (by decide +kernel) (by decide +kernel)
theorem tb1179 : (Jvm.Cond.instanceMethod ({ cls := "ReceivablesBookModel", name := "accrued", desc := "(I)I" } : Jvm.MethodName)) ∈ xTB := xtb_of (N := 1179) (by decide +kernel) (by decide +kernel)
theorem tb1180 : (Jvm.Cond.selects "ReceivablesBookModel" ({ cls := "ReceivablesBookModel", name := "accrued", desc := "(I)I" } : Jvm.MethodName) ({ cls := "ReceivablesBookModel", name := "accrued", desc := "(I)I" } : Jvm.MethodName)) ∈ xTB := xtb_of (N := 1180) (by decide +kernel) (by decide +kernel)
theorem tb1181 : (Jvm.Cond.code ({ cls := "ReceivablesBookModel", name := "accrued", desc := "(I)I" } : Jvm.MethodName) prog_9_method_47_code (2 : Nat) (Option.some Jvm.ClassFile.FieldType.int)) ∈ xTB := xtb_of (N := 1181) (by decide +kernel) (by decide +kernel)
theorem tb1182 : (Jvm.Cond.methodLink "ReceivablesBookModel" (181 : Nat) ({ cls := "ReceivablesBookModel", name := "noInvoice", desc := "(I)Z" } : Jvm.MethodName)) ∈ xTB := xtb_of (N := 1182) (by decide +kernel) (by decide +kernel)
theorem tb1184 : (Jvm.Cond.instanceMethod ({ cls := "ReceivablesBookModel", name := "noInvoice", desc := "(I)Z" } : Jvm.MethodName)) ∈ xTB := xtb_of (N := 1184) (by decide +kernel) (by decide +kernel)
theorem tb1185 : (Jvm.Cond.code ({ cls := "ReceivablesBookModel", name := "noInvoice", desc := "(I)Z" } : Jvm.MethodName) prog_9_method_10_code (2 : Nat) (Option.some Jvm.ClassFile.FieldType.boolean)) ∈ xTB := xtb_of (N := 1185) (by decide +kernel) (by decide +kernel)
theorem tb1186 : (Jvm.Cond.methodLink "ReceivablesBookLaw" (191 : Nat) ({ cls := "ReceivablesBookModel", name := "isInterest", desc := "(I)Z" } : Jvm.MethodName)) ∈ xTB := xtb_of (N := 1186) (by decide +kernel) (by decide +kernel)
theorem tb1187 : (Jvm.Cond.instanceMethod ({ cls := "ReceivablesBookModel", name := "isInterest", desc := "(I)Z" } : Jvm.MethodName)) ∈ xTB := xtb_of (N := 1187) (by decide +kernel) (by decide +kernel)
theorem tb1188 : (Jvm.Cond.selects "ReceivablesBookModel" ({ cls := "ReceivablesBookModel", name := "isInterest", desc := "(I)Z" } : Jvm.MethodName) ({ cls := "ReceivablesBookModel", name := "isInterest", desc := "(I)Z" } : Jvm.MethodName)) ∈ xTB := xtb_of (N := 1188) (by decide +kernel) (by decide +kernel)
theorem tb1189 : (Jvm.Cond.code ({ cls := "ReceivablesBookModel", name := "isInterest", desc := "(I)Z" } : Jvm.MethodName) prog_9_method_48_code (2 : Nat) (Option.some Jvm.ClassFile.FieldType.boolean)) ∈ xTB := xtb_of (N := 1189) (by decide +kernel) (by decide +kernel)
theorem tb1190 : (Jvm.Cond.methodLink "ReceivablesBookLaw" (195 : Nat) ({ cls := "ReceivablesBookModel", name := "customers", desc := "()I" } : Jvm.MethodName)) ∈ xTB := xtb_of (N := 1190) (by decide +kernel) (by decide +kernel)
theorem tb1191 : (Jvm.Cond.instanceMethod ({ cls := "ReceivablesBookModel", name := "customers", desc := "()I" } : Jvm.MethodName)) ∈ xTB := xtb_of (N := 1191) (by decide +kernel) (by decide +kernel)
theorem tb1192 : (Jvm.Cond.selects "ReceivablesBookModel" ({ cls := "ReceivablesBookModel", name := "customers", desc := "()I" } : Jvm.MethodName) ({ cls := "ReceivablesBookModel", name := "customers", desc := "()I" } : Jvm.MethodName)) ∈ xTB := xtb_of (N := 1192) (by decide +kernel) (by decide +kernel)
theorem tb1193 : (Jvm.Cond.code ({ cls := "ReceivablesBookModel", name := "customers", desc := "()I" } : Jvm.MethodName) prog_9_method_49_code (1 : Nat) (Option.some Jvm.ClassFile.FieldType.int)) ∈ xTB := xtb_of (N := 1193) (by decide +kernel) (by decide +kernel)
theorem tb1194 : (Jvm.Cond.methodLink "ReceivablesBookLaw" (199 : Nat) ({ cls := "ReceivablesBookModel", name := "invoices", desc := "()I" } : Jvm.MethodName)) ∈ xTB := xtb_of (N := 1194) (by decide +kernel) (by decide +kernel)
theorem tb1195 : (Jvm.Cond.instanceMethod ({ cls := "ReceivablesBookModel", name := "invoices", desc := "()I" } : Jvm.MethodName)) ∈ xTB := xtb_of (N := 1195) (by decide +kernel) (by decide +kernel)
theorem tb1196 : (Jvm.Cond.selects "ReceivablesBookModel" ({ cls := "ReceivablesBookModel", name := "invoices", desc := "()I" } : Jvm.MethodName) ({ cls := "ReceivablesBookModel", name := "invoices", desc := "()I" } : Jvm.MethodName)) ∈ xTB := xtb_of (N := 1196) (by decide +kernel) (by decide +kernel)
theorem tb1197 : (Jvm.Cond.code ({ cls := "ReceivablesBookModel", name := "invoices", desc := "()I" } : Jvm.MethodName) prog_9_method_50_code (1 : Nat) (Option.some Jvm.ClassFile.FieldType.int)) ∈ xTB := xtb_of (N := 1197) (by decide +kernel) (by decide +kernel)
theorem tb1198 : (Jvm.Cond.methodLink "ReceivablesBookLaw" (203 : Nat) ({ cls := "ReceivablesBookModel", name := "payments", desc := "()I" } : Jvm.MethodName)) ∈ xTB := xtb_of (N := 1198) (by decide +kernel) (by decide +kernel)
theorem tb1199 : (Jvm.Cond.instanceMethod ({ cls := "ReceivablesBookModel", name := "payments", desc := "()I" } : Jvm.MethodName)) ∈ xTB := xtb_of (N := 1199) (by decide +kernel) (by decide +kernel)
theorem tb1200 : (Jvm.Cond.selects "ReceivablesBookModel" ({ cls := "ReceivablesBookModel", name := "payments", desc := "()I" } : Jvm.MethodName) ({ cls := "ReceivablesBookModel", name := "payments", desc := "()I" } : Jvm.MethodName)) ∈ xTB := xtb_of (N := 1200) (by decide +kernel) (by decide +kernel)
theorem tb1201 : (Jvm.Cond.code ({ cls := "ReceivablesBookModel", name := "payments", desc := "()I" } : Jvm.MethodName) prog_9_method_51_code (1 : Nat) (Option.some Jvm.ClassFile.FieldType.int)) ∈ xTB := xtb_of (N := 1201) (by decide +kernel) (by decide +kernel)
theorem tb1202 : (Jvm.Cond.methodLink "ReceivablesBookLaw" (206 : Nat) ({ cls := "ReceivablesBookModel", name := "amountOf", desc := "(I)I" } : Jvm.MethodName)) ∈ xTB := xtb_of (N := 1202) (by decide +kernel) (by decide +kernel)
theorem tb1203 : (Jvm.Cond.instanceMethod ({ cls := "ReceivablesBookModel", name := "amountOf", desc := "(I)I" } : Jvm.MethodName)) ∈ xTB := xtb_of (N := 1203) (by decide +kernel) (by decide +kernel)
theorem tb1204 : (Jvm.Cond.selects "ReceivablesBookModel" ({ cls := "ReceivablesBookModel", name := "amountOf", desc := "(I)I" } : Jvm.MethodName) ({ cls := "ReceivablesBookModel", name := "amountOf", desc := "(I)I" } : Jvm.MethodName)) ∈ xTB := xtb_of (N := 1204) (by decide +kernel) (by decide +kernel)
theorem tb1205 : (Jvm.Cond.code ({ cls := "ReceivablesBookModel", name := "amountOf", desc := "(I)I" } : Jvm.MethodName) prog_9_method_52_code (2 : Nat) (Option.some Jvm.ClassFile.FieldType.int)) ∈ xTB := xtb_of (N := 1205) (by decide +kernel) (by decide +kernel)
theorem tb1206 : (Jvm.Cond.methodLink "ReceivablesBookLaw" (209 : Nat) ({ cls := "ReceivablesBookModel", name := "dueDay", desc := "(I)I" } : Jvm.MethodName)) ∈ xTB := xtb_of (N := 1206) (by decide +kernel) (by decide +kernel)
theorem tb1207 : (Jvm.Cond.instanceMethod ({ cls := "ReceivablesBookModel", name := "dueDay", desc := "(I)I" } : Jvm.MethodName)) ∈ xTB := xtb_of (N := 1207) (by decide +kernel) (by decide +kernel)
theorem tb1208 : (Jvm.Cond.selects "ReceivablesBookModel" ({ cls := "ReceivablesBookModel", name := "dueDay", desc := "(I)I" } : Jvm.MethodName) ({ cls := "ReceivablesBookModel", name := "dueDay", desc := "(I)I" } : Jvm.MethodName)) ∈ xTB := xtb_of (N := 1208) (by decide +kernel) (by decide +kernel)
theorem tb1209 : (Jvm.Cond.code ({ cls := "ReceivablesBookModel", name := "dueDay", desc := "(I)I" } : Jvm.MethodName) prog_9_method_53_code (2 : Nat) (Option.some Jvm.ClassFile.FieldType.int)) ∈ xTB := xtb_of (N := 1209) (by decide +kernel) (by decide +kernel)
theorem tb1210 : (Jvm.Cond.methodLink "ReceivablesBookLaw" (212 : Nat) ({ cls := "ReceivablesBookModel", name := "openOf", desc := "(I)I" } : Jvm.MethodName)) ∈ xTB := xtb_of (N := 1210) (by decide +kernel) (by decide +kernel)
theorem tb1211 : (Jvm.Cond.instanceMethod ({ cls := "ReceivablesBookModel", name := "openOf", desc := "(I)I" } : Jvm.MethodName)) ∈ xTB := xtb_of (N := 1211) (by decide +kernel) (by decide +kernel)
theorem tb1212 : (Jvm.Cond.selects "ReceivablesBookModel" ({ cls := "ReceivablesBookModel", name := "openOf", desc := "(I)I" } : Jvm.MethodName) ({ cls := "ReceivablesBookModel", name := "openOf", desc := "(I)I" } : Jvm.MethodName)) ∈ xTB := xtb_of (N := 1212) (by decide +kernel) (by decide +kernel)
theorem tb1213 : (Jvm.Cond.code ({ cls := "ReceivablesBookModel", name := "openOf", desc := "(I)I" } : Jvm.MethodName) prog_9_method_54_code (2 : Nat) (Option.some Jvm.ClassFile.FieldType.int)) ∈ xTB := xtb_of (N := 1213) (by decide +kernel) (by decide +kernel)
theorem tb1214 : (Jvm.Cond.methodLink "ReceivablesBookLaw" (215 : Nat) ({ cls := "ReceivablesBookModel", name := "openByLedger", desc := "(I)I" } : Jvm.MethodName)) ∈ xTB := xtb_of (N := 1214) (by decide +kernel) (by decide +kernel)
theorem tb1215 : (Jvm.Cond.instanceMethod ({ cls := "ReceivablesBookModel", name := "openByLedger", desc := "(I)I" } : Jvm.MethodName)) ∈ xTB := xtb_of (N := 1215) (by decide +kernel) (by decide +kernel)
theorem tb1216 : (Jvm.Cond.selects "ReceivablesBookModel" ({ cls := "ReceivablesBookModel", name := "openByLedger", desc := "(I)I" } : Jvm.MethodName) ({ cls := "ReceivablesBookModel", name := "openByLedger", desc := "(I)I" } : Jvm.MethodName)) ∈ xTB := xtb_of (N := 1216) (by decide +kernel) (by decide +kernel)
theorem tb1217 : (Jvm.Cond.code ({ cls := "ReceivablesBookModel", name := "openByLedger", desc := "(I)I" } : Jvm.MethodName) prog_9_method_55_code (4 : Nat) (Option.some Jvm.ClassFile.FieldType.int)) ∈ xTB := xtb_of (N := 1217) (by decide +kernel) (by decide +kernel)
theorem tb1218 : (Jvm.Cond.methodLink "ReceivablesBookLaw" (218 : Nat) ({ cls := "ReceivablesBookModel", name := "disputedOf", desc := "(I)I" } : Jvm.MethodName)) ∈ xTB := xtb_of (N := 1218) (by decide +kernel) (by decide +kernel)
theorem tb1219 : (Jvm.Cond.instanceMethod ({ cls := "ReceivablesBookModel", name := "disputedOf", desc := "(I)I" } : Jvm.MethodName)) ∈ xTB := xtb_of (N := 1219) (by decide +kernel) (by decide +kernel)
theorem tb1220 : (Jvm.Cond.selects "ReceivablesBookModel" ({ cls := "ReceivablesBookModel", name := "disputedOf", desc := "(I)I" } : Jvm.MethodName) ({ cls := "ReceivablesBookModel", name := "disputedOf", desc := "(I)I" } : Jvm.MethodName)) ∈ xTB := xtb_of (N := 1220) (by decide +kernel) (by decide +kernel)
theorem tb1221 : (Jvm.Cond.code ({ cls := "ReceivablesBookModel", name := "disputedOf", desc := "(I)I" } : Jvm.MethodName) prog_9_method_56_code (2 : Nat) (Option.some Jvm.ClassFile.FieldType.int)) ∈ xTB := xtb_of (N := 1221) (by decide +kernel) (by decide +kernel)
theorem tb1222 : (Jvm.Cond.methodLink "ReceivablesBookLaw" (221 : Nat) ({ cls := "ReceivablesBookModel", name := "allocated", desc := "(II)I" } : Jvm.MethodName)) ∈ xTB := xtb_of (N := 1222) (by decide +kernel) (by decide +kernel)
theorem tb1223 : (Jvm.Cond.instanceMethod ({ cls := "ReceivablesBookModel", name := "allocated", desc := "(II)I" } : Jvm.MethodName)) ∈ xTB := xtb_of (N := 1223) (by decide +kernel) (by decide +kernel)
theorem tb1224 : (Jvm.Cond.selects "ReceivablesBookModel" ({ cls := "ReceivablesBookModel", name := "allocated", desc := "(II)I" } : Jvm.MethodName) ({ cls := "ReceivablesBookModel", name := "allocated", desc := "(II)I" } : Jvm.MethodName)) ∈ xTB := xtb_of (N := 1224) (by decide +kernel) (by decide +kernel)
theorem tb1225 : (Jvm.Cond.code ({ cls := "ReceivablesBookModel", name := "allocated", desc := "(II)I" } : Jvm.MethodName) prog_9_method_57_code (3 : Nat) (Option.some Jvm.ClassFile.FieldType.int)) ∈ xTB := xtb_of (N := 1225) (by decide +kernel) (by decide +kernel)
theorem tb1226 : (Jvm.Cond.methodLink "ReceivablesBookLaw" (224 : Nat) ({ cls := "ReceivablesBookModel", name := "unallocated", desc := "(I)I" } : Jvm.MethodName)) ∈ xTB := xtb_of (N := 1226) (by decide +kernel) (by decide +kernel)
theorem tb1227 : (Jvm.Cond.instanceMethod ({ cls := "ReceivablesBookModel", name := "unallocated", desc := "(I)I" } : Jvm.MethodName)) ∈ xTB := xtb_of (N := 1227) (by decide +kernel) (by decide +kernel)
theorem tb1228 : (Jvm.Cond.selects "ReceivablesBookModel" ({ cls := "ReceivablesBookModel", name := "unallocated", desc := "(I)I" } : Jvm.MethodName) ({ cls := "ReceivablesBookModel", name := "unallocated", desc := "(I)I" } : Jvm.MethodName)) ∈ xTB := xtb_of (N := 1228) (by decide +kernel) (by decide +kernel)
theorem tb1229 : (Jvm.Cond.code ({ cls := "ReceivablesBookModel", name := "unallocated", desc := "(I)I" } : Jvm.MethodName) prog_9_method_58_code (2 : Nat) (Option.some Jvm.ClassFile.FieldType.int)) ∈ xTB := xtb_of (N := 1229) (by decide +kernel) (by decide +kernel)
theorem tb1230 : (Jvm.Cond.methodLink "ReceivablesBookLaw" (227 : Nat) ({ cls := "ReceivablesBookModel", name := "balance", desc := "(I)I" } : Jvm.MethodName)) ∈ xTB := xtb_of (N := 1230) (by decide +kernel) (by decide +kernel)
theorem tb1231 : (Jvm.Cond.instanceMethod ({ cls := "ReceivablesBookModel", name := "balance", desc := "(I)I" } : Jvm.MethodName)) ∈ xTB := xtb_of (N := 1231) (by decide +kernel) (by decide +kernel)
theorem tb1232 : (Jvm.Cond.selects "ReceivablesBookModel" ({ cls := "ReceivablesBookModel", name := "balance", desc := "(I)I" } : Jvm.MethodName) ({ cls := "ReceivablesBookModel", name := "balance", desc := "(I)I" } : Jvm.MethodName)) ∈ xTB := xtb_of (N := 1232) (by decide +kernel) (by decide +kernel)
theorem tb1233 : (Jvm.Cond.code ({ cls := "ReceivablesBookModel", name := "balance", desc := "(I)I" } : Jvm.MethodName) prog_9_method_59_code (4 : Nat) (Option.some Jvm.ClassFile.FieldType.int)) ∈ xTB := xtb_of (N := 1233) (by decide +kernel) (by decide +kernel)
theorem tb1234 : (Jvm.Cond.methodLink "ReceivablesBookLaw" (230 : Nat) ({ cls := "ReceivablesBookModel", name := "bucketOf", desc := "(I)I" } : Jvm.MethodName)) ∈ xTB := xtb_of (N := 1234) (by decide +kernel) (by decide +kernel)
theorem tb1235 : (Jvm.Cond.instanceMethod ({ cls := "ReceivablesBookModel", name := "bucketOf", desc := "(I)I" } : Jvm.MethodName)) ∈ xTB := xtb_of (N := 1235) (by decide +kernel) (by decide +kernel)
theorem tb1236 : (Jvm.Cond.selects "ReceivablesBookModel" ({ cls := "ReceivablesBookModel", name := "bucketOf", desc := "(I)I" } : Jvm.MethodName) ({ cls := "ReceivablesBookModel", name := "bucketOf", desc := "(I)I" } : Jvm.MethodName)) ∈ xTB := xtb_of (N := 1236) (by decide +kernel) (by decide +kernel)
theorem tb1237 : (Jvm.Cond.code ({ cls := "ReceivablesBookModel", name := "bucketOf", desc := "(I)I" } : Jvm.MethodName) prog_9_method_61_code (2 : Nat) (Option.some Jvm.ClassFile.FieldType.int)) ∈ xTB := xtb_of (N := 1237) (by decide +kernel) (by decide +kernel)
theorem tb1238 : (Jvm.Cond.methodLink "ReceivablesBookModel" (184 : Nat) ({ cls := "ReceivablesBookModel", name := "bucket", desc := "(I)I" } : Jvm.MethodName)) ∈ xTB := xtb_of (N := 1238) (by decide +kernel) (by decide +kernel)
theorem tb1240 : (Jvm.Cond.instanceMethod ({ cls := "ReceivablesBookModel", name := "bucket", desc := "(I)I" } : Jvm.MethodName)) ∈ xTB := xtb_of (N := 1240) (by decide +kernel) (by decide +kernel)
theorem tb1241 : (Jvm.Cond.code ({ cls := "ReceivablesBookModel", name := "bucket", desc := "(I)I" } : Jvm.MethodName) prog_9_method_60_code (3 : Nat) (Option.some Jvm.ClassFile.FieldType.int)) ∈ xTB := xtb_of (N := 1241) (by decide +kernel) (by decide +kernel)
theorem tb1242 : (Jvm.Cond.methodLink "ReceivablesBookLaw" (233 : Nat) ({ cls := "ReceivablesBookModel", name := "ageing", desc := "(II)I" } : Jvm.MethodName)) ∈ xTB := xtb_of (N := 1242) (by decide +kernel) (by decide +kernel)
theorem tb1243 : (Jvm.Cond.instanceMethod ({ cls := "ReceivablesBookModel", name := "ageing", desc := "(II)I" } : Jvm.MethodName)) ∈ xTB := xtb_of (N := 1243) (by decide +kernel) (by decide +kernel)
theorem tb1244 : (Jvm.Cond.selects "ReceivablesBookModel" ({ cls := "ReceivablesBookModel", name := "ageing", desc := "(II)I" } : Jvm.MethodName) ({ cls := "ReceivablesBookModel", name := "ageing", desc := "(II)I" } : Jvm.MethodName)) ∈ xTB := xtb_of (N := 1244) (by decide +kernel) (by decide +kernel)
theorem tb1245 : (Jvm.Cond.code ({ cls := "ReceivablesBookModel", name := "ageing", desc := "(II)I" } : Jvm.MethodName) prog_9_method_62_code (5 : Nat) (Option.some Jvm.ClassFile.FieldType.int)) ∈ xTB := xtb_of (N := 1245) (by decide +kernel) (by decide +kernel)
theorem tb1246 : (Jvm.Cond.methodLink "ReceivablesBookLaw" (236 : Nat) ({ cls := "ReceivablesBookModel", name := "oldest", desc := "(I)I" } : Jvm.MethodName)) ∈ xTB := xtb_of (N := 1246) (by decide +kernel) (by decide +kernel)
theorem tb1247 : (Jvm.Cond.instanceMethod ({ cls := "ReceivablesBookModel", name := "oldest", desc := "(I)I" } : Jvm.MethodName)) ∈ xTB := xtb_of (N := 1247) (by decide +kernel) (by decide +kernel)
theorem tb1248 : (Jvm.Cond.selects "ReceivablesBookModel" ({ cls := "ReceivablesBookModel", name := "oldest", desc := "(I)I" } : Jvm.MethodName) ({ cls := "ReceivablesBookModel", name := "oldest", desc := "(I)I" } : Jvm.MethodName)) ∈ xTB := xtb_of (N := 1248) (by decide +kernel) (by decide +kernel)
theorem tb1249 : (Jvm.Cond.code ({ cls := "ReceivablesBookModel", name := "oldest", desc := "(I)I" } : Jvm.MethodName) prog_9_method_63_code (2 : Nat) (Option.some Jvm.ClassFile.FieldType.int)) ∈ xTB := xtb_of (N := 1249) (by decide +kernel) (by decide +kernel)
theorem tb1250 : (Jvm.Cond.methodLink "ReceivablesBookModel" (187 : Nat) ({ cls := "ReceivablesBookModel", name := "oldestOf", desc := "(I)I" } : Jvm.MethodName)) ∈ xTB := xtb_of (N := 1250) (by decide +kernel) (by decide +kernel)
theorem tb1252 : (Jvm.Cond.instanceMethod ({ cls := "ReceivablesBookModel", name := "oldestOf", desc := "(I)I" } : Jvm.MethodName)) ∈ xTB := xtb_of (N := 1252) (by decide +kernel) (by decide +kernel)
theorem tb1253 : (Jvm.Cond.code ({ cls := "ReceivablesBookModel", name := "oldestOf", desc := "(I)I" } : Jvm.MethodName) prog_9_method_32_code (4 : Nat) (Option.some Jvm.ClassFile.FieldType.int)) ∈ xTB := xtb_of (N := 1253) (by decide +kernel) (by decide +kernel)
theorem tb1254 : (Jvm.Cond.methodLink "ReceivablesBookLaw" (239 : Nat) ({ cls := "ReceivablesBookModel", name := "levelOf", desc := "(I)I" } : Jvm.MethodName)) ∈ xTB := xtb_of (N := 1254) (by decide +kernel) (by decide +kernel)
theorem tb1255 : (Jvm.Cond.instanceMethod ({ cls := "ReceivablesBookModel", name := "levelOf", desc := "(I)I" } : Jvm.MethodName)) ∈ xTB := xtb_of (N := 1255) (by decide +kernel) (by decide +kernel)
theorem tb1256 : (Jvm.Cond.selects "ReceivablesBookModel" ({ cls := "ReceivablesBookModel", name := "levelOf", desc := "(I)I" } : Jvm.MethodName) ({ cls := "ReceivablesBookModel", name := "levelOf", desc := "(I)I" } : Jvm.MethodName)) ∈ xTB := xtb_of (N := 1256) (by decide +kernel) (by decide +kernel)
theorem tb1257 : (Jvm.Cond.code ({ cls := "ReceivablesBookModel", name := "levelOf", desc := "(I)I" } : Jvm.MethodName) prog_9_method_64_code (2 : Nat) (Option.some Jvm.ClassFile.FieldType.int)) ∈ xTB := xtb_of (N := 1257) (by decide +kernel) (by decide +kernel)
theorem tb1258 : (Jvm.Cond.methodLink "ReceivablesBookLaw" (242 : Nat) ({ cls := "ReceivablesBookModel", name := "daysToReminder", desc := "(I)I" } : Jvm.MethodName)) ∈ xTB := xtb_of (N := 1258) (by decide +kernel) (by decide +kernel)
theorem tb1259 : (Jvm.Cond.instanceMethod ({ cls := "ReceivablesBookModel", name := "daysToReminder", desc := "(I)I" } : Jvm.MethodName)) ∈ xTB := xtb_of (N := 1259) (by decide +kernel) (by decide +kernel)
theorem tb1260 : (Jvm.Cond.selects "ReceivablesBookModel" ({ cls := "ReceivablesBookModel", name := "daysToReminder", desc := "(I)I" } : Jvm.MethodName) ({ cls := "ReceivablesBookModel", name := "daysToReminder", desc := "(I)I" } : Jvm.MethodName)) ∈ xTB := xtb_of (N := 1260) (by decide +kernel) (by decide +kernel)
theorem tb1261 : (Jvm.Cond.code ({ cls := "ReceivablesBookModel", name := "daysToReminder", desc := "(I)I" } : Jvm.MethodName) prog_9_method_65_code (3 : Nat) (Option.some Jvm.ClassFile.FieldType.int)) ∈ xTB := xtb_of (N := 1261) (by decide +kernel) (by decide +kernel)
theorem tb1262 : (Jvm.Cond.methodLink "ReceivablesBookLaw" (245 : Nat) ({ cls := "ReceivablesBookModel", name := "invoicesAt", desc := "(I)I" } : Jvm.MethodName)) ∈ xTB := xtb_of (N := 1262) (by decide +kernel) (by decide +kernel)
theorem tb1263 : (Jvm.Cond.instanceMethod ({ cls := "ReceivablesBookModel", name := "invoicesAt", desc := "(I)I" } : Jvm.MethodName)) ∈ xTB := xtb_of (N := 1263) (by decide +kernel) (by decide +kernel)
theorem tb1264 : (Jvm.Cond.selects "ReceivablesBookModel" ({ cls := "ReceivablesBookModel", name := "invoicesAt", desc := "(I)I" } : Jvm.MethodName) ({ cls := "ReceivablesBookModel", name := "invoicesAt", desc := "(I)I" } : Jvm.MethodName)) ∈ xTB := xtb_of (N := 1264) (by decide +kernel) (by decide +kernel)
theorem tb1265 : (Jvm.Cond.code ({ cls := "ReceivablesBookModel", name := "invoicesAt", desc := "(I)I" } : Jvm.MethodName) prog_9_method_66_code (4 : Nat) (Option.some Jvm.ClassFile.FieldType.int)) ∈ xTB := xtb_of (N := 1265) (by decide +kernel) (by decide +kernel)
theorem tb1266 : (Jvm.Cond.methodLink "ReceivablesBookLaw" (249 : Nat) ({ cls := "ReceivablesBookModel", name := "ledgerLines", desc := "()I" } : Jvm.MethodName)) ∈ xTB := xtb_of (N := 1266) (by decide +kernel) (by decide +kernel)
theorem tb1267 : (Jvm.Cond.instanceMethod ({ cls := "ReceivablesBookModel", name := "ledgerLines", desc := "()I" } : Jvm.MethodName)) ∈ xTB := xtb_of (N := 1267) (by decide +kernel) (by decide +kernel)
theorem tb1268 : (Jvm.Cond.selects "ReceivablesBookModel" ({ cls := "ReceivablesBookModel", name := "ledgerLines", desc := "()I" } : Jvm.MethodName) ({ cls := "ReceivablesBookModel", name := "ledgerLines", desc := "()I" } : Jvm.MethodName)) ∈ xTB := xtb_of (N := 1268) (by decide +kernel) (by decide +kernel)
theorem tb1269 : (Jvm.Cond.code ({ cls := "ReceivablesBookModel", name := "ledgerLines", desc := "()I" } : Jvm.MethodName) prog_9_method_67_code (1 : Nat) (Option.some Jvm.ClassFile.FieldType.int)) ∈ xTB := xtb_of (N := 1269) (by decide +kernel) (by decide +kernel)
theorem tb1270 : (Jvm.Cond.methodLink "ReceivablesBookLaw" (252 : Nat) ({ cls := "ReceivablesBookModel", name := "lineInvoice", desc := "(I)I" } : Jvm.MethodName)) ∈ xTB := xtb_of (N := 1270) (by decide +kernel) (by decide +kernel)
theorem tb1271 : (Jvm.Cond.instanceMethod ({ cls := "ReceivablesBookModel", name := "lineInvoice", desc := "(I)I" } : Jvm.MethodName)) ∈ xTB := xtb_of (N := 1271) (by decide +kernel) (by decide +kernel)
theorem tb1272 : (Jvm.Cond.selects "ReceivablesBookModel" ({ cls := "ReceivablesBookModel", name := "lineInvoice", desc := "(I)I" } : Jvm.MethodName) ({ cls := "ReceivablesBookModel", name := "lineInvoice", desc := "(I)I" } : Jvm.MethodName)) ∈ xTB := xtb_of (N := 1272) (by decide +kernel) (by decide +kernel)
theorem tb1273 : (Jvm.Cond.code ({ cls := "ReceivablesBookModel", name := "lineInvoice", desc := "(I)I" } : Jvm.MethodName) prog_9_method_69_code (2 : Nat) (Option.some Jvm.ClassFile.FieldType.int)) ∈ xTB := xtb_of (N := 1273) (by decide +kernel) (by decide +kernel)
theorem tb1274 : (Jvm.Cond.methodLink "ReceivablesBookModel" (190 : Nat) ({ cls := "ReceivablesBookModel", name := "noLine", desc := "(I)Z" } : Jvm.MethodName)) ∈ xTB := xtb_of (N := 1274) (by decide +kernel) (by decide +kernel)
theorem tb1276 : (Jvm.Cond.instanceMethod ({ cls := "ReceivablesBookModel", name := "noLine", desc := "(I)Z" } : Jvm.MethodName)) ∈ xTB := xtb_of (N := 1276) (by decide +kernel) (by decide +kernel)
theorem tb1277 : (Jvm.Cond.code ({ cls := "ReceivablesBookModel", name := "noLine", desc := "(I)Z" } : Jvm.MethodName) prog_9_method_68_code (2 : Nat) (Option.some Jvm.ClassFile.FieldType.boolean)) ∈ xTB := xtb_of (N := 1277) (by decide +kernel) (by decide +kernel)
theorem tb1278 : (Jvm.Cond.methodLink "ReceivablesBookLaw" (255 : Nat) ({ cls := "ReceivablesBookModel", name := "lineAmount", desc := "(I)I" } : Jvm.MethodName)) ∈ xTB := xtb_of (N := 1278) (by decide +kernel) (by decide +kernel)
theorem tb1279 : (Jvm.Cond.instanceMethod ({ cls := "ReceivablesBookModel", name := "lineAmount", desc := "(I)I" } : Jvm.MethodName)) ∈ xTB := xtb_of (N := 1279) (by decide +kernel) (by decide +kernel)
theorem tb1280 : (Jvm.Cond.selects "ReceivablesBookModel" ({ cls := "ReceivablesBookModel", name := "lineAmount", desc := "(I)I" } : Jvm.MethodName) ({ cls := "ReceivablesBookModel", name := "lineAmount", desc := "(I)I" } : Jvm.MethodName)) ∈ xTB := xtb_of (N := 1280) (by decide +kernel) (by decide +kernel)
theorem tb1281 : (Jvm.Cond.code ({ cls := "ReceivablesBookModel", name := "lineAmount", desc := "(I)I" } : Jvm.MethodName) prog_9_method_70_code (2 : Nat) (Option.some Jvm.ClassFile.FieldType.int)) ∈ xTB := xtb_of (N := 1281) (by decide +kernel) (by decide +kernel)
theorem tb1282 : (Jvm.Cond.sameMethod "java/lang/Throwable" "java/lang/Throwable" "fillInStackTrace" "(I)Ljava/lang/Throwable;") ∈ xTB := xtb_of (N := 1282) (by decide +kernel) (by decide +kernel)
theorem tb1283 : (Jvm.Cond.castable "ReceivablesBook" "java/lang/Object") ∈ xTN := xtn_of (N := 1283) (by decide +kernel) (by decide +kernel)
theorem tb1284 : (Jvm.Cond.castable "java/util/ArrayList" "java/lang/Object") ∈ xTN := xtn_of (N := 1284) (by decide +kernel) (by decide +kernel)
theorem tb1285 : (Jvm.Cond.castable "ReceivablesBook$Ledger" "java/lang/Object") ∈ xTN := xtn_of (N := 1285) (by decide +kernel) (by decide +kernel)
theorem tb1286 : (Jvm.Cond.castable "ReceivablesBook$Shares" "java/lang/Object") ∈ xTN := xtn_of (N := 1286) (by decide +kernel) (by decide +kernel)
theorem tb1287 : (Jvm.Cond.castable "ReceivablesBookModel" "java/lang/Object") ∈ xTN := xtn_of (N := 1287) (by decide +kernel) (by decide +kernel)
theorem tb1288 : (Jvm.Cond.castable "java/lang/IllegalArgumentException" "java/lang/Object") ∈ xTN := xtn_of (N := 1288) (by decide +kernel) (by decide +kernel)
theorem tb1289 : (Jvm.Cond.castable "java/lang/IllegalStateException" "java/lang/Object") ∈ xTN := xtn_of (N := 1289) (by decide +kernel) (by decide +kernel)
theorem tb1290 : (Jvm.Cond.castable "ReceivablesBook$Customer" "java/lang/Object") ∈ xTN := xtn_of (N := 1290) (by decide +kernel) (by decide +kernel)
theorem tb1291 : (Jvm.Cond.castable "java/lang/IndexOutOfBoundsException" "java/lang/Object") ∈ xTN := xtn_of (N := 1291) (by decide +kernel) (by decide +kernel)
theorem tb1292 : (Jvm.Cond.castable "ReceivablesBook$Invoice" "java/lang/Object") ∈ xTN := xtn_of (N := 1292) (by decide +kernel) (by decide +kernel)
theorem tb1293 : (Jvm.Cond.castable "ReceivablesBook$Payment" "java/lang/Object") ∈ xTN := xtn_of (N := 1293) (by decide +kernel) (by decide +kernel)
theorem tb1294 : (Jvm.Cond.castable "java/lang/Throwable" "java/lang/Object") ∈ xTN := xtn_of (N := 1294) (by decide +kernel) (by decide +kernel)
theorem tb1295 : (Jvm.Cond.castable "java/lang/String" "java/lang/Object") ∈ xTN := xtn_of (N := 1295) (by decide +kernel) (by decide +kernel)
theorem tb1296 : (Jvm.Cond.sameMethod "[Ljava/lang/Object;" "java/lang/Object" "getClass" "()Ljava/lang/Class;") ∈ xTB := xtb_of (N := 1296) (by decide +kernel) (by decide +kernel)
theorem tb1297 : (Jvm.Cond.selects "[Ljava/lang/Object;" ({ cls := "java/lang/Object", name := "getClass", desc := "()Ljava/lang/Class;" } : Jvm.MethodName) ({ cls := "java/lang/Object", name := "getClass", desc := "()Ljava/lang/Class;" } : Jvm.MethodName)) ∈ xTB := xtb_of (N := 1297) (by decide +kernel) (by decide +kernel)
theorem tb1298 : (Jvm.Cond.declares ({ cls := "java/lang/Object", name := "getClass", desc := "()Ljava/lang/Class;" } : Jvm.MethodName)) ∈ xTN := xtn_of (N := 1298) (by decide +kernel) (by decide +kernel)
theorem tb1299 : (Jvm.Cond.castable "[I" "java/lang/Object") ∈ xTN := xtn_of (N := 1299) (by decide +kernel) (by decide +kernel)
theorem tb1300 : (Jvm.Cond.castable "[J" "java/lang/Object") ∈ xTN := xtn_of (N := 1300) (by decide +kernel) (by decide +kernel)
theorem tb1301 : (Jvm.Cond.castable "[B" "java/lang/Object") ∈ xTN := xtn_of (N := 1301) (by decide +kernel) (by decide +kernel)
theorem tb1302 : (Jvm.Cond.castable "[Ljava/lang/Object;" "java/lang/Object") ∈ xTN := xtn_of (N := 1302) (by decide +kernel) (by decide +kernel)
theorem tb1303 : (Jvm.Cond.castable "[Z" "java/lang/Object") ∈ xTN := xtn_of (N := 1303) (by decide +kernel) (by decide +kernel)
end
section
theorem dX0_init_0 : decode cX0_init 0 = .ok (.aload_n 0, 1) := by decide +kernel
theorem dX0_init_1 : decode cX0_init 1 = .ok (.invokespecial 3, 3) := by decide +kernel
theorem dX0_init_4 : decode cX0_init 4 = .ok (.aload_n 0, 1) := by decide +kernel
theorem dX0_init_5 : decode cX0_init 5 = .ok (.iload_n 1, 1) := by decide +kernel
theorem dX0_init_6 : decode cX0_init 6 = .ok (.putfield 9, 3) := by decide +kernel
theorem dX0_init_9 : decode cX0_init 9 = .ok (.aload_n 0, 1) := by decide +kernel
theorem dX0_init_10 : decode cX0_init 10 = .ok (.iload_n 2, 1) := by decide +kernel
theorem dX0_init_11 : decode cX0_init 11 = .ok (.putfield 15, 3) := by decide +kernel
theorem dX0_init_14 : decode cX0_init 14 = .ok (.aload_n 0, 1) := by decide +kernel
theorem dX0_init_15 : decode cX0_init 15 = .ok (.iload_n 3, 1) := by decide +kernel
theorem dX0_init_16 : decode cX0_init 16 = .ok (.putfield 18, 3) := by decide +kernel
theorem dX0_init_19 : decode cX0_init 19 = .ok (.return_, 1) := by decide +kernel
theorem dX0_sumOfOneCent_0 : decode cX0_sumOfOneCent 0 = .ok (.ldc2_w 21, 3) := by decide +kernel
theorem dX0_sumOfOneCent_3 : decode cX0_sumOfOneCent 3 = .ok (.aload_n 0, 1) := by decide +kernel
theorem dX0_sumOfOneCent_4 : decode cX0_sumOfOneCent 4 = .ok (.getfield 15, 3) := by decide +kernel
theorem dX0_sumOfOneCent_7 : decode cX0_sumOfOneCent 7 = .ok (.invokestatic 23, 3) := by decide +kernel
theorem dX0_sumOfOneCent_10 : decode cX0_sumOfOneCent 10 = .ok (.i2l, 1) := by decide +kernel
theorem dX0_sumOfOneCent_11 : decode cX0_sumOfOneCent 11 = .ok (.lmul, 1) := by decide +kernel
theorem dX0_sumOfOneCent_12 : decode cX0_sumOfOneCent 12 = .ok (.lreturn, 1) := by decide +kernel
theorem dX1_daysOfYear_0 : decode cX1_daysOfYear 0 = .ok (.iload_n 0, 1) := by decide +kernel
theorem dX1_daysOfYear_1 : decode cX1_daysOfYear 1 = .ok (.ifCond .ne 9, 3) := by decide +kernel
theorem dX1_daysOfYear_4 : decode cX1_daysOfYear 4 = .ok (.sipush 365, 3) := by decide +kernel
theorem dX1_daysOfYear_7 : decode cX1_daysOfYear 7 = .ok (.goto 6, 3) := by decide +kernel
theorem dX1_daysOfYear_10 : decode cX1_daysOfYear 10 = .ok (.sipush 360, 3) := by decide +kernel
theorem dX1_daysOfYear_13 : decode cX1_daysOfYear 13 = .ok (.ireturn, 1) := by decide +kernel
theorem dX1_daysBetween_0 : decode cX1_daysBetween 0 = .ok (.iload_n 0, 1) := by decide +kernel
theorem dX1_daysBetween_1 : decode cX1_daysBetween 1 = .ok (.iconst 2, 1) := by decide +kernel
theorem dX1_daysBetween_2 : decode cX1_daysBetween 2 = .ok (.if_icmp .ne 13, 3) := by decide +kernel
theorem dX1_daysBetween_5 : decode cX1_daysBetween 5 = .ok (.iload_n 2, 1) := by decide +kernel
theorem dX1_daysBetween_6 : decode cX1_daysBetween 6 = .ok (.invokestatic 9, 3) := by decide +kernel
theorem dX1_daysBetween_9 : decode cX1_daysBetween 9 = .ok (.iload_n 1, 1) := by decide +kernel
theorem dX1_daysBetween_10 : decode cX1_daysBetween 10 = .ok (.invokestatic 9, 3) := by decide +kernel
theorem dX1_daysBetween_13 : decode cX1_daysBetween 13 = .ok (.isub, 1) := by decide +kernel
theorem dX1_daysBetween_14 : decode cX1_daysBetween 14 = .ok (.ireturn, 1) := by decide +kernel
theorem dX1_daysBetween_15 : decode cX1_daysBetween 15 = .ok (.iload_n 2, 1) := by decide +kernel
theorem dX1_daysBetween_16 : decode cX1_daysBetween 16 = .ok (.iload_n 1, 1) := by decide +kernel
theorem dX1_daysBetween_17 : decode cX1_daysBetween 17 = .ok (.isub, 1) := by decide +kernel
theorem dX1_daysBetween_18 : decode cX1_daysBetween 18 = .ok (.ireturn, 1) := by decide +kernel
theorem dX1_thirtyDayNumber_0 : decode cX1_thirtyDayNumber 0 = .ok (.iload_n 0, 1) := by decide +kernel
theorem dX1_thirtyDayNumber_1 : decode cX1_thirtyDayNumber 1 = .ok (.sipush 365, 3) := by decide +kernel
theorem dX1_thirtyDayNumber_4 : decode cX1_thirtyDayNumber 4 = .ok (.idiv, 1) := by decide +kernel
theorem dX1_thirtyDayNumber_5 : decode cX1_thirtyDayNumber 5 = .ok (.iconst 3, 1) := by decide +kernel
theorem dX1_thirtyDayNumber_6 : decode cX1_thirtyDayNumber 6 = .ok (.invokestatic 13, 3) := by decide +kernel
theorem dX1_thirtyDayNumber_9 : decode cX1_thirtyDayNumber 9 = .ok (.istore_n 1, 1) := by decide +kernel
theorem dX1_thirtyDayNumber_10 : decode cX1_thirtyDayNumber 10 = .ok (.iload_n 0, 1) := by decide +kernel
theorem dX1_thirtyDayNumber_11 : decode cX1_thirtyDayNumber 11 = .ok (.iload_n 1, 1) := by decide +kernel
theorem dX1_thirtyDayNumber_12 : decode cX1_thirtyDayNumber 12 = .ok (.sipush 365, 3) := by decide +kernel
theorem dX1_thirtyDayNumber_15 : decode cX1_thirtyDayNumber 15 = .ok (.imul, 1) := by decide +kernel
theorem dX1_thirtyDayNumber_16 : decode cX1_thirtyDayNumber 16 = .ok (.isub, 1) := by decide +kernel
theorem dX1_thirtyDayNumber_17 : decode cX1_thirtyDayNumber 17 = .ok (.istore_n 2, 1) := by decide +kernel
theorem dX1_thirtyDayNumber_18 : decode cX1_thirtyDayNumber 18 = .ok (.iconst 0, 1) := by decide +kernel
theorem dX1_thirtyDayNumber_19 : decode cX1_thirtyDayNumber 19 = .ok (.istore_n 3, 1) := by decide +kernel
theorem dX1_thirtyDayNumber_20 : decode cX1_thirtyDayNumber 20 = .ok (.iload_n 3, 1) := by decide +kernel
theorem dX1_thirtyDayNumber_21 : decode cX1_thirtyDayNumber 21 = .ok (.getstatic 19, 3) := by decide +kernel
theorem dX1_thirtyDayNumber_24 : decode cX1_thirtyDayNumber 24 = .ok (.arraylength, 1) := by decide +kernel
theorem dX1_thirtyDayNumber_25 : decode cX1_thirtyDayNumber 25 = .ok (.iconst 1, 1) := by decide +kernel
theorem dX1_thirtyDayNumber_26 : decode cX1_thirtyDayNumber 26 = .ok (.isub, 1) := by decide +kernel
theorem dX1_thirtyDayNumber_27 : decode cX1_thirtyDayNumber 27 = .ok (.if_icmp .ge 26, 3) := by decide +kernel
theorem dX1_thirtyDayNumber_30 : decode cX1_thirtyDayNumber 30 = .ok (.iload_n 2, 1) := by decide +kernel
theorem dX1_thirtyDayNumber_31 : decode cX1_thirtyDayNumber 31 = .ok (.iload_n 1, 1) := by decide +kernel
theorem dX1_thirtyDayNumber_32 : decode cX1_thirtyDayNumber 32 = .ok (.iload_n 3, 1) := by decide +kernel
theorem dX1_thirtyDayNumber_33 : decode cX1_thirtyDayNumber 33 = .ok (.invokestatic 23, 3) := by decide +kernel
theorem dX1_thirtyDayNumber_36 : decode cX1_thirtyDayNumber 36 = .ok (.if_icmp .lt 17, 3) := by decide +kernel
theorem dX1_thirtyDayNumber_39 : decode cX1_thirtyDayNumber 39 = .ok (.iload_n 2, 1) := by decide +kernel
theorem dX1_thirtyDayNumber_40 : decode cX1_thirtyDayNumber 40 = .ok (.iload_n 1, 1) := by decide +kernel
theorem dX1_thirtyDayNumber_41 : decode cX1_thirtyDayNumber 41 = .ok (.iload_n 3, 1) := by decide +kernel
theorem dX1_thirtyDayNumber_42 : decode cX1_thirtyDayNumber 42 = .ok (.invokestatic 23, 3) := by decide +kernel
theorem dX1_thirtyDayNumber_45 : decode cX1_thirtyDayNumber 45 = .ok (.isub, 1) := by decide +kernel
theorem dX1_thirtyDayNumber_46 : decode cX1_thirtyDayNumber 46 = .ok (.istore_n 2, 1) := by decide +kernel
theorem dX1_thirtyDayNumber_47 : decode cX1_thirtyDayNumber 47 = .ok (.iinc 3 1, 3) := by decide +kernel
theorem dX1_thirtyDayNumber_50 : decode cX1_thirtyDayNumber 50 = .ok (.goto (-30), 3) := by decide +kernel
theorem dX1_thirtyDayNumber_53 : decode cX1_thirtyDayNumber 53 = .ok (.sipush 360, 3) := by decide +kernel
theorem dX1_thirtyDayNumber_56 : decode cX1_thirtyDayNumber 56 = .ok (.iload_n 1, 1) := by decide +kernel
theorem dX1_thirtyDayNumber_57 : decode cX1_thirtyDayNumber 57 = .ok (.imul, 1) := by decide +kernel
theorem dX1_thirtyDayNumber_58 : decode cX1_thirtyDayNumber 58 = .ok (.bipush 30, 2) := by decide +kernel
theorem dX1_thirtyDayNumber_60 : decode cX1_thirtyDayNumber 60 = .ok (.iload_n 3, 1) := by decide +kernel
theorem dX1_thirtyDayNumber_61 : decode cX1_thirtyDayNumber 61 = .ok (.imul, 1) := by decide +kernel
theorem dX1_thirtyDayNumber_62 : decode cX1_thirtyDayNumber 62 = .ok (.iadd, 1) := by decide +kernel
theorem dX1_thirtyDayNumber_63 : decode cX1_thirtyDayNumber 63 = .ok (.iload_n 2, 1) := by decide +kernel
theorem dX1_thirtyDayNumber_64 : decode cX1_thirtyDayNumber 64 = .ok (.iconst 1, 1) := by decide +kernel
theorem dX1_thirtyDayNumber_65 : decode cX1_thirtyDayNumber 65 = .ok (.iadd, 1) := by decide +kernel
theorem dX1_thirtyDayNumber_66 : decode cX1_thirtyDayNumber 66 = .ok (.bipush 30, 2) := by decide +kernel
theorem dX1_thirtyDayNumber_68 : decode cX1_thirtyDayNumber 68 = .ok (.invokestatic 13, 3) := by decide +kernel
theorem dX1_thirtyDayNumber_71 : decode cX1_thirtyDayNumber 71 = .ok (.iadd, 1) := by decide +kernel
theorem dX1_thirtyDayNumber_72 : decode cX1_thirtyDayNumber 72 = .ok (.ireturn, 1) := by decide +kernel
theorem dX1_monthLength_0 : decode cX1_monthLength 0 = .ok (.iload_n 1, 1) := by decide +kernel
theorem dX1_monthLength_1 : decode cX1_monthLength 1 = .ok (.ifCond .lt 11, 3) := by decide +kernel
theorem dX1_monthLength_4 : decode cX1_monthLength 4 = .ok (.iload_n 1, 1) := by decide +kernel
theorem dX1_monthLength_5 : decode cX1_monthLength 5 = .ok (.getstatic 19, 3) := by decide +kernel
theorem dX1_monthLength_8 : decode cX1_monthLength 8 = .ok (.arraylength, 1) := by decide +kernel
theorem dX1_monthLength_9 : decode cX1_monthLength 9 = .ok (.if_icmp .lt 5, 3) := by decide +kernel
theorem dX1_monthLength_12 : decode cX1_monthLength 12 = .ok (.iconst 0, 1) := by decide +kernel
theorem dX1_monthLength_13 : decode cX1_monthLength 13 = .ok (.ireturn, 1) := by decide +kernel
theorem dX1_monthLength_14 : decode cX1_monthLength 14 = .ok (.iload_n 0, 1) := by decide +kernel
theorem dX1_monthLength_15 : decode cX1_monthLength 15 = .ok (.iconst 3, 1) := by decide +kernel
theorem dX1_monthLength_16 : decode cX1_monthLength 16 = .ok (.if_icmp .ne 12, 3) := by decide +kernel
theorem dX1_monthLength_19 : decode cX1_monthLength 19 = .ok (.iload_n 1, 1) := by decide +kernel
theorem dX1_monthLength_20 : decode cX1_monthLength 20 = .ok (.iconst 1, 1) := by decide +kernel
theorem dX1_monthLength_21 : decode cX1_monthLength 21 = .ok (.if_icmp .ne 7, 3) := by decide +kernel
theorem dX1_monthLength_24 : decode cX1_monthLength 24 = .ok (.iconst 1, 1) := by decide +kernel
theorem dX1_monthLength_25 : decode cX1_monthLength 25 = .ok (.goto 4, 3) := by decide +kernel
theorem dX1_monthLength_28 : decode cX1_monthLength 28 = .ok (.iconst 0, 1) := by decide +kernel
theorem dX1_monthLength_29 : decode cX1_monthLength 29 = .ok (.istore_n 2, 1) := by decide +kernel
theorem dX1_monthLength_30 : decode cX1_monthLength 30 = .ok (.iload_n 2, 1) := by decide +kernel
theorem dX1_monthLength_31 : decode cX1_monthLength 31 = .ok (.ifCond .eq 13, 3) := by decide +kernel
theorem dX1_monthLength_34 : decode cX1_monthLength 34 = .ok (.getstatic 19, 3) := by decide +kernel
theorem dX1_monthLength_37 : decode cX1_monthLength 37 = .ok (.iload_n 1, 1) := by decide +kernel
theorem dX1_monthLength_38 : decode cX1_monthLength 38 = .ok (.iaload, 1) := by decide +kernel
theorem dX1_monthLength_39 : decode cX1_monthLength 39 = .ok (.iconst 1, 1) := by decide +kernel
theorem dX1_monthLength_40 : decode cX1_monthLength 40 = .ok (.iadd, 1) := by decide +kernel
theorem dX1_monthLength_41 : decode cX1_monthLength 41 = .ok (.goto 8, 3) := by decide +kernel
theorem dX1_monthLength_44 : decode cX1_monthLength 44 = .ok (.getstatic 19, 3) := by decide +kernel
theorem dX1_monthLength_47 : decode cX1_monthLength 47 = .ok (.iload_n 1, 1) := by decide +kernel
theorem dX1_monthLength_48 : decode cX1_monthLength 48 = .ok (.iaload, 1) := by decide +kernel
theorem dX1_monthLength_49 : decode cX1_monthLength 49 = .ok (.ireturn, 1) := by decide +kernel
theorem dX2_init_0 : decode cX2_init 0 = .ok (.aload_n 0, 1) := by decide +kernel
theorem dX2_init_1 : decode cX2_init 1 = .ok (.invokespecial 3, 3) := by decide +kernel
theorem dX2_init_4 : decode cX2_init 4 = .ok (.aload_n 0, 1) := by decide +kernel
theorem dX2_init_5 : decode cX2_init 5 = .ok (.aload_n 1, 1) := by decide +kernel
theorem dX2_init_6 : decode cX2_init 6 = .ok (.putfield 9, 3) := by decide +kernel
theorem dX2_init_9 : decode cX2_init 9 = .ok (.aload_n 0, 1) := by decide +kernel
theorem dX2_init_10 : decode cX2_init 10 = .ok (.iload_n 2, 1) := by decide +kernel
theorem dX2_init_11 : decode cX2_init 11 = .ok (.putfield 15, 3) := by decide +kernel
theorem dX2_init_14 : decode cX2_init 14 = .ok (.aload_n 0, 1) := by decide +kernel
theorem dX2_init_15 : decode cX2_init 15 = .ok (.iload_n 3, 1) := by decide +kernel
theorem dX2_init_16 : decode cX2_init 16 = .ok (.putfield 19, 3) := by decide +kernel
theorem dX2_init_19 : decode cX2_init 19 = .ok (.aload_n 0, 1) := by decide +kernel
theorem dX2_init_20 : decode cX2_init 20 = .ok (.iload 4, 2) := by decide +kernel
theorem dX2_init_22 : decode cX2_init 22 = .ok (.putfield 22, 3) := by decide +kernel
theorem dX2_init_25 : decode cX2_init 25 = .ok (.return_, 1) := by decide +kernel
theorem dX2_openAmount_0 : decode cX2_openAmount 0 = .ok (.aload_n 0, 1) := by decide +kernel
theorem dX2_openAmount_1 : decode cX2_openAmount 1 = .ok (.getfield 15, 3) := by decide +kernel
theorem dX2_openAmount_4 : decode cX2_openAmount 4 = .ok (.aload_n 0, 1) := by decide +kernel
theorem dX2_openAmount_5 : decode cX2_openAmount 5 = .ok (.getfield 26, 3) := by decide +kernel
theorem dX2_openAmount_8 : decode cX2_openAmount 8 = .ok (.isub, 1) := by decide +kernel
theorem dX2_openAmount_9 : decode cX2_openAmount 9 = .ok (.aload_n 0, 1) := by decide +kernel
theorem dX2_openAmount_10 : decode cX2_openAmount 10 = .ok (.getfield 29, 3) := by decide +kernel
theorem dX2_openAmount_13 : decode cX2_openAmount 13 = .ok (.isub, 1) := by decide +kernel
theorem dX2_openAmount_14 : decode cX2_openAmount 14 = .ok (.ireturn, 1) := by decide +kernel
theorem dX2_clearAmount_0 : decode cX2_clearAmount 0 = .ok (.aload_n 0, 1) := by decide +kernel
theorem dX2_clearAmount_1 : decode cX2_clearAmount 1 = .ok (.invokevirtual 32, 3) := by decide +kernel
theorem dX2_clearAmount_4 : decode cX2_clearAmount 4 = .ok (.aload_n 0, 1) := by decide +kernel
theorem dX2_clearAmount_5 : decode cX2_clearAmount 5 = .ok (.getfield 36, 3) := by decide +kernel
theorem dX2_clearAmount_8 : decode cX2_clearAmount 8 = .ok (.isub, 1) := by decide +kernel
theorem dX2_clearAmount_9 : decode cX2_clearAmount 9 = .ok (.ireturn, 1) := by decide +kernel
theorem dX2_pay_0 : decode cX2_pay 0 = .ok (.aload_n 0, 1) := by decide +kernel
theorem dX2_pay_1 : decode cX2_pay 1 = .ok (.dup, 1) := by decide +kernel
theorem dX2_pay_2 : decode cX2_pay 2 = .ok (.getfield 29, 3) := by decide +kernel
theorem dX2_pay_5 : decode cX2_pay 5 = .ok (.iload_n 1, 1) := by decide +kernel
theorem dX2_pay_6 : decode cX2_pay 6 = .ok (.iadd, 1) := by decide +kernel
theorem dX2_pay_7 : decode cX2_pay 7 = .ok (.putfield 29, 3) := by decide +kernel
theorem dX2_pay_10 : decode cX2_pay 10 = .ok (.aload_n 0, 1) := by decide +kernel
theorem dX2_pay_11 : decode cX2_pay 11 = .ok (.aload_n 0, 1) := by decide +kernel
theorem dX2_pay_12 : decode cX2_pay 12 = .ok (.getfield 36, 3) := by decide +kernel
theorem dX2_pay_15 : decode cX2_pay 15 = .ok (.aload_n 0, 1) := by decide +kernel
theorem dX2_pay_16 : decode cX2_pay 16 = .ok (.invokevirtual 32, 3) := by decide +kernel
theorem dX2_pay_19 : decode cX2_pay 19 = .ok (.invokestatic 39, 3) := by decide +kernel
theorem dX2_pay_22 : decode cX2_pay 22 = .ok (.putfield 36, 3) := by decide +kernel
theorem dX2_pay_25 : decode cX2_pay 25 = .ok (.aload_n 0, 1) := by decide +kernel
theorem dX2_pay_26 : decode cX2_pay 26 = .ok (.iconst 0, 1) := by decide +kernel
theorem dX2_pay_27 : decode cX2_pay 27 = .ok (.putfield 45, 3) := by decide +kernel
theorem dX2_pay_30 : decode cX2_pay 30 = .ok (.aload_n 0, 1) := by decide +kernel
theorem dX2_pay_31 : decode cX2_pay 31 = .ok (.invokevirtual 48, 3) := by decide +kernel
theorem dX2_pay_34 : decode cX2_pay 34 = .ok (.return_, 1) := by decide +kernel
theorem dX2_unpay_0 : decode cX2_unpay 0 = .ok (.aload_n 0, 1) := by decide +kernel
theorem dX2_unpay_1 : decode cX2_unpay 1 = .ok (.dup, 1) := by decide +kernel
theorem dX2_unpay_2 : decode cX2_unpay 2 = .ok (.getfield 29, 3) := by decide +kernel
theorem dX2_unpay_5 : decode cX2_unpay 5 = .ok (.iload_n 1, 1) := by decide +kernel
theorem dX2_unpay_6 : decode cX2_unpay 6 = .ok (.isub, 1) := by decide +kernel
theorem dX2_unpay_7 : decode cX2_unpay 7 = .ok (.putfield 29, 3) := by decide +kernel
theorem dX2_unpay_10 : decode cX2_unpay 10 = .ok (.return_, 1) := by decide +kernel
theorem dX2_settleWith_0 : decode cX2_settleWith 0 = .ok (.aload_n 0, 1) := by decide +kernel
theorem dX2_settleWith_1 : decode cX2_settleWith 1 = .ok (.dup, 1) := by decide +kernel
theorem dX2_settleWith_2 : decode cX2_settleWith 2 = .ok (.getfield 26, 3) := by decide +kernel
theorem dX2_settleWith_5 : decode cX2_settleWith 5 = .ok (.iload_n 1, 1) := by decide +kernel
theorem dX2_settleWith_6 : decode cX2_settleWith 6 = .ok (.iadd, 1) := by decide +kernel
theorem dX2_settleWith_7 : decode cX2_settleWith 7 = .ok (.putfield 26, 3) := by decide +kernel
theorem dX2_settleWith_10 : decode cX2_settleWith 10 = .ok (.aload_n 0, 1) := by decide +kernel
theorem dX2_settleWith_11 : decode cX2_settleWith 11 = .ok (.iconst 0, 1) := by decide +kernel
theorem dX2_settleWith_12 : decode cX2_settleWith 12 = .ok (.putfield 36, 3) := by decide +kernel
theorem dX2_settleWith_15 : decode cX2_settleWith 15 = .ok (.aload_n 0, 1) := by decide +kernel
theorem dX2_settleWith_16 : decode cX2_settleWith 16 = .ok (.invokevirtual 48, 3) := by decide +kernel
theorem dX2_settleWith_19 : decode cX2_settleWith 19 = .ok (.return_, 1) := by decide +kernel
theorem dX2_forgetRemindersIfPaid_0 : decode cX2_forgetRemindersIfPaid 0 = .ok (.aload_n 0, 1) := by decide +kernel
theorem dX2_forgetRemindersIfPaid_1 : decode cX2_forgetRemindersIfPaid 1 = .ok (.invokevirtual 32, 3) := by decide +kernel
theorem dX2_forgetRemindersIfPaid_4 : decode cX2_forgetRemindersIfPaid 4 = .ok (.ifCond .ne 13, 3) := by decide +kernel
theorem dX2_forgetRemindersIfPaid_7 : decode cX2_forgetRemindersIfPaid 7 = .ok (.aload_n 0, 1) := by decide +kernel
theorem dX2_forgetRemindersIfPaid_8 : decode cX2_forgetRemindersIfPaid 8 = .ok (.iconst 0, 1) := by decide +kernel
theorem dX2_forgetRemindersIfPaid_9 : decode cX2_forgetRemindersIfPaid 9 = .ok (.putfield 51, 3) := by decide +kernel
theorem dX2_forgetRemindersIfPaid_12 : decode cX2_forgetRemindersIfPaid 12 = .ok (.aload_n 0, 1) := by decide +kernel
theorem dX2_forgetRemindersIfPaid_13 : decode cX2_forgetRemindersIfPaid 13 = .ok (.iconst 0, 1) := by decide +kernel
theorem dX2_forgetRemindersIfPaid_14 : decode cX2_forgetRemindersIfPaid 14 = .ok (.putfield 45, 3) := by decide +kernel
theorem dX2_forgetRemindersIfPaid_17 : decode cX2_forgetRemindersIfPaid 17 = .ok (.return_, 1) := by decide +kernel
theorem dX2_accrueOn_0 : decode cX2_accrueOn 0 = .ok (.aload_n 0, 1) := by decide +kernel
theorem dX2_accrueOn_1 : decode cX2_accrueOn 1 = .ok (.getfield 22, 3) := by decide +kernel
theorem dX2_accrueOn_4 : decode cX2_accrueOn 4 = .ok (.ifCond .ne 52, 3) := by decide +kernel
theorem dX2_accrueOn_7 : decode cX2_accrueOn 7 = .ok (.aload_n 0, 1) := by decide +kernel
theorem dX2_accrueOn_8 : decode cX2_accrueOn 8 = .ok (.getfield 19, 3) := by decide +kernel
theorem dX2_accrueOn_11 : decode cX2_accrueOn 11 = .ok (.iload_n 1, 1) := by decide +kernel
theorem dX2_accrueOn_12 : decode cX2_accrueOn 12 = .ok (.if_icmp .gt 44, 3) := by decide +kernel
theorem dX2_accrueOn_15 : decode cX2_accrueOn 15 = .ok (.aload_n 0, 1) := by decide +kernel
theorem dX2_accrueOn_16 : decode cX2_accrueOn 16 = .ok (.getfield 9, 3) := by decide +kernel
theorem dX2_accrueOn_19 : decode cX2_accrueOn 19 = .ok (.getfield 54, 3) := by decide +kernel
theorem dX2_accrueOn_22 : decode cX2_accrueOn 22 = .ok (.iload_n 1, 1) := by decide +kernel
theorem dX2_accrueOn_23 : decode cX2_accrueOn 23 = .ok (.iload_n 1, 1) := by decide +kernel
theorem dX2_accrueOn_24 : decode cX2_accrueOn 24 = .ok (.iconst 1, 1) := by decide +kernel
theorem dX2_accrueOn_25 : decode cX2_accrueOn 25 = .ok (.iadd, 1) := by decide +kernel
theorem dX2_accrueOn_26 : decode cX2_accrueOn 26 = .ok (.invokestatic 59, 3) := by decide +kernel
theorem dX2_accrueOn_29 : decode cX2_accrueOn 29 = .ok (.istore_n 2, 1) := by decide +kernel
theorem dX2_accrueOn_30 : decode cX2_accrueOn 30 = .ok (.aload_n 0, 1) := by decide +kernel
theorem dX2_accrueOn_31 : decode cX2_accrueOn 31 = .ok (.dup, 1) := by decide +kernel
theorem dX2_accrueOn_32 : decode cX2_accrueOn 32 = .ok (.getfield 65, 3) := by decide +kernel
theorem dX2_accrueOn_35 : decode cX2_accrueOn 35 = .ok (.aload_n 0, 1) := by decide +kernel
theorem dX2_accrueOn_36 : decode cX2_accrueOn 36 = .ok (.invokevirtual 69, 3) := by decide +kernel
theorem dX2_accrueOn_39 : decode cX2_accrueOn 39 = .ok (.i2l, 1) := by decide +kernel
theorem dX2_accrueOn_40 : decode cX2_accrueOn 40 = .ok (.aload_n 0, 1) := by decide +kernel
theorem dX2_accrueOn_41 : decode cX2_accrueOn 41 = .ok (.getfield 9, 3) := by decide +kernel
theorem dX2_accrueOn_44 : decode cX2_accrueOn 44 = .ok (.getfield 72, 3) := by decide +kernel
theorem dX2_accrueOn_47 : decode cX2_accrueOn 47 = .ok (.i2l, 1) := by decide +kernel
theorem dX2_accrueOn_48 : decode cX2_accrueOn 48 = .ok (.lmul, 1) := by decide +kernel
theorem dX2_accrueOn_49 : decode cX2_accrueOn 49 = .ok (.iload_n 2, 1) := by decide +kernel
theorem dX2_accrueOn_50 : decode cX2_accrueOn 50 = .ok (.i2l, 1) := by decide +kernel
theorem dX2_accrueOn_51 : decode cX2_accrueOn 51 = .ok (.lmul, 1) := by decide +kernel
theorem dX2_accrueOn_52 : decode cX2_accrueOn 52 = .ok (.ladd, 1) := by decide +kernel
theorem dX2_accrueOn_53 : decode cX2_accrueOn 53 = .ok (.putfield 65, 3) := by decide +kernel
theorem dX2_accrueOn_56 : decode cX2_accrueOn 56 = .ok (.return_, 1) := by decide +kernel
theorem dX2_accruedCents_0 : decode cX2_accruedCents 0 = .ok (.aload_n 0, 1) := by decide +kernel
theorem dX2_accruedCents_1 : decode cX2_accruedCents 1 = .ok (.getfield 9, 3) := by decide +kernel
theorem dX2_accruedCents_4 : decode cX2_accruedCents 4 = .ok (.invokevirtual 75, 3) := by decide +kernel
theorem dX2_accruedCents_7 : decode cX2_accruedCents 7 = .ok (.lstore_n 1, 1) := by decide +kernel
theorem dX2_accruedCents_8 : decode cX2_accruedCents 8 = .ok (.lload_n 1, 1) := by decide +kernel
theorem dX2_accruedCents_9 : decode cX2_accruedCents 9 = .ok (.lconst 0, 1) := by decide +kernel
theorem dX2_accruedCents_10 : decode cX2_accruedCents 10 = .ok (.lcmp, 1) := by decide +kernel
theorem dX2_accruedCents_11 : decode cX2_accruedCents 11 = .ok (.ifCond .le 13, 3) := by decide +kernel
theorem dX2_accruedCents_14 : decode cX2_accruedCents 14 = .ok (.aload_n 0, 1) := by decide +kernel
theorem dX2_accruedCents_15 : decode cX2_accruedCents 15 = .ok (.getfield 65, 3) := by decide +kernel
theorem dX2_accruedCents_18 : decode cX2_accruedCents 18 = .ok (.lload_n 1, 1) := by decide +kernel
theorem dX2_accruedCents_19 : decode cX2_accruedCents 19 = .ok (.ldiv, 1) := by decide +kernel
theorem dX2_accruedCents_20 : decode cX2_accruedCents 20 = .ok (.l2i, 1) := by decide +kernel
theorem dX2_accruedCents_21 : decode cX2_accruedCents 21 = .ok (.goto 4, 3) := by decide +kernel
theorem dX2_accruedCents_24 : decode cX2_accruedCents 24 = .ok (.iconst 0, 1) := by decide +kernel
theorem dX2_accruedCents_25 : decode cX2_accruedCents 25 = .ok (.ireturn, 1) := by decide +kernel
theorem dX2_dropAccruedCents_0 : decode cX2_dropAccruedCents 0 = .ok (.aload_n 0, 1) := by decide +kernel
theorem dX2_dropAccruedCents_1 : decode cX2_dropAccruedCents 1 = .ok (.dup, 1) := by decide +kernel
theorem dX2_dropAccruedCents_2 : decode cX2_dropAccruedCents 2 = .ok (.getfield 65, 3) := by decide +kernel
theorem dX2_dropAccruedCents_5 : decode cX2_dropAccruedCents 5 = .ok (.aload_n 0, 1) := by decide +kernel
theorem dX2_dropAccruedCents_6 : decode cX2_dropAccruedCents 6 = .ok (.invokevirtual 79, 3) := by decide +kernel
theorem dX2_dropAccruedCents_9 : decode cX2_dropAccruedCents 9 = .ok (.i2l, 1) := by decide +kernel
theorem dX2_dropAccruedCents_10 : decode cX2_dropAccruedCents 10 = .ok (.aload_n 0, 1) := by decide +kernel
theorem dX2_dropAccruedCents_11 : decode cX2_dropAccruedCents 11 = .ok (.getfield 9, 3) := by decide +kernel
theorem dX2_dropAccruedCents_14 : decode cX2_dropAccruedCents 14 = .ok (.invokevirtual 75, 3) := by decide +kernel
theorem dX2_dropAccruedCents_17 : decode cX2_dropAccruedCents 17 = .ok (.lmul, 1) := by decide +kernel
theorem dX2_dropAccruedCents_18 : decode cX2_dropAccruedCents 18 = .ok (.lsub, 1) := by decide +kernel
theorem dX2_dropAccruedCents_19 : decode cX2_dropAccruedCents 19 = .ok (.putfield 65, 3) := by decide +kernel
theorem dX2_dropAccruedCents_22 : decode cX2_dropAccruedCents 22 = .ok (.return_, 1) := by decide +kernel
theorem dX2_waitOn_0 : decode cX2_waitOn 0 = .ok (.aload_n 0, 1) := by decide +kernel
theorem dX2_waitOn_1 : decode cX2_waitOn 1 = .ok (.invokevirtual 82, 3) := by decide +kernel
theorem dX2_waitOn_4 : decode cX2_waitOn 4 = .ok (.ifCond .eq 58, 3) := by decide +kernel
theorem dX2_waitOn_7 : decode cX2_waitOn 7 = .ok (.aload_n 0, 1) := by decide +kernel
theorem dX2_waitOn_8 : decode cX2_waitOn 8 = .ok (.getfield 19, 3) := by decide +kernel
theorem dX2_waitOn_11 : decode cX2_waitOn 11 = .ok (.iload_n 1, 1) := by decide +kernel
theorem dX2_waitOn_12 : decode cX2_waitOn 12 = .ok (.if_icmp .gt 50, 3) := by decide +kernel
theorem dX2_waitOn_15 : decode cX2_waitOn 15 = .ok (.aload_n 0, 1) := by decide +kernel
theorem dX2_waitOn_16 : decode cX2_waitOn 16 = .ok (.getfield 9, 3) := by decide +kernel
theorem dX2_waitOn_19 : decode cX2_waitOn 19 = .ok (.getfield 86, 3) := by decide +kernel
theorem dX2_waitOn_22 : decode cX2_waitOn 22 = .ok (.iload_n 1, 1) := by decide +kernel
theorem dX2_waitOn_23 : decode cX2_waitOn 23 = .ok (.if_icmp .gt 39, 3) := by decide +kernel
theorem dX2_waitOn_26 : decode cX2_waitOn 26 = .ok (.aload_n 0, 1) := by decide +kernel
theorem dX2_waitOn_27 : decode cX2_waitOn 27 = .ok (.dup, 1) := by decide +kernel
theorem dX2_waitOn_28 : decode cX2_waitOn 28 = .ok (.getfield 45, 3) := by decide +kernel
theorem dX2_waitOn_31 : decode cX2_waitOn 31 = .ok (.iconst 1, 1) := by decide +kernel
theorem dX2_waitOn_32 : decode cX2_waitOn 32 = .ok (.iadd, 1) := by decide +kernel
theorem dX2_waitOn_33 : decode cX2_waitOn 33 = .ok (.putfield 45, 3) := by decide +kernel
theorem dX2_waitOn_36 : decode cX2_waitOn 36 = .ok (.aload_n 0, 1) := by decide +kernel
theorem dX2_waitOn_37 : decode cX2_waitOn 37 = .ok (.getfield 45, 3) := by decide +kernel
theorem dX2_waitOn_40 : decode cX2_waitOn 40 = .ok (.aload_n 0, 1) := by decide +kernel
theorem dX2_waitOn_41 : decode cX2_waitOn 41 = .ok (.invokevirtual 89, 3) := by decide +kernel
theorem dX2_waitOn_44 : decode cX2_waitOn 44 = .ok (.if_icmp .lt 18, 3) := by decide +kernel
theorem dX2_waitOn_47 : decode cX2_waitOn 47 = .ok (.aload_n 0, 1) := by decide +kernel
theorem dX2_waitOn_48 : decode cX2_waitOn 48 = .ok (.dup, 1) := by decide +kernel
theorem dX2_waitOn_49 : decode cX2_waitOn 49 = .ok (.getfield 51, 3) := by decide +kernel
theorem dX2_waitOn_52 : decode cX2_waitOn 52 = .ok (.iconst 1, 1) := by decide +kernel
theorem dX2_waitOn_53 : decode cX2_waitOn 53 = .ok (.iadd, 1) := by decide +kernel
theorem dX2_waitOn_54 : decode cX2_waitOn 54 = .ok (.putfield 51, 3) := by decide +kernel
theorem dX2_waitOn_57 : decode cX2_waitOn 57 = .ok (.aload_n 0, 1) := by decide +kernel
theorem dX2_waitOn_58 : decode cX2_waitOn 58 = .ok (.iconst 0, 1) := by decide +kernel
theorem dX2_waitOn_59 : decode cX2_waitOn 59 = .ok (.putfield 45, 3) := by decide +kernel
theorem dX2_waitOn_62 : decode cX2_waitOn 62 = .ok (.return_, 1) := by decide +kernel
theorem dX2_daysToNextLevel_0 : decode cX2_daysToNextLevel 0 = .ok (.aload_n 0, 1) := by decide +kernel
theorem dX2_daysToNextLevel_1 : decode cX2_daysToNextLevel 1 = .ok (.invokevirtual 82, 3) := by decide +kernel
theorem dX2_daysToNextLevel_4 : decode cX2_daysToNextLevel 4 = .ok (.ifCond .ne 5, 3) := by decide +kernel
theorem dX2_daysToNextLevel_7 : decode cX2_daysToNextLevel 7 = .ok (.iconst (-1), 1) := by decide +kernel
theorem dX2_daysToNextLevel_8 : decode cX2_daysToNextLevel 8 = .ok (.ireturn, 1) := by decide +kernel
theorem dX2_daysToNextLevel_9 : decode cX2_daysToNextLevel 9 = .ok (.iload_n 1, 1) := by decide +kernel
theorem dX2_daysToNextLevel_10 : decode cX2_daysToNextLevel 10 = .ok (.aload_n 0, 1) := by decide +kernel
theorem dX2_daysToNextLevel_11 : decode cX2_daysToNextLevel 11 = .ok (.getfield 19, 3) := by decide +kernel
theorem dX2_daysToNextLevel_14 : decode cX2_daysToNextLevel 14 = .ok (.aload_n 0, 1) := by decide +kernel
theorem dX2_daysToNextLevel_15 : decode cX2_daysToNextLevel 15 = .ok (.getfield 9, 3) := by decide +kernel
theorem dX2_daysToNextLevel_18 : decode cX2_daysToNextLevel 18 = .ok (.getfield 86, 3) := by decide +kernel
theorem dX2_daysToNextLevel_21 : decode cX2_daysToNextLevel 21 = .ok (.invokestatic 92, 3) := by decide +kernel
theorem dX2_daysToNextLevel_24 : decode cX2_daysToNextLevel 24 = .ok (.invokestatic 92, 3) := by decide +kernel
theorem dX2_daysToNextLevel_27 : decode cX2_daysToNextLevel 27 = .ok (.istore_n 2, 1) := by decide +kernel
theorem dX2_daysToNextLevel_28 : decode cX2_daysToNextLevel 28 = .ok (.iload_n 2, 1) := by decide +kernel
theorem dX2_daysToNextLevel_29 : decode cX2_daysToNextLevel 29 = .ok (.iload_n 1, 1) := by decide +kernel
theorem dX2_daysToNextLevel_30 : decode cX2_daysToNextLevel 30 = .ok (.isub, 1) := by decide +kernel
theorem dX2_daysToNextLevel_31 : decode cX2_daysToNextLevel 31 = .ok (.aload_n 0, 1) := by decide +kernel
theorem dX2_daysToNextLevel_32 : decode cX2_daysToNextLevel 32 = .ok (.invokevirtual 89, 3) := by decide +kernel
theorem dX2_daysToNextLevel_35 : decode cX2_daysToNextLevel 35 = .ok (.iadd, 1) := by decide +kernel
theorem dX2_daysToNextLevel_36 : decode cX2_daysToNextLevel 36 = .ok (.aload_n 0, 1) := by decide +kernel
theorem dX2_daysToNextLevel_37 : decode cX2_daysToNextLevel 37 = .ok (.getfield 45, 3) := by decide +kernel
theorem dX2_daysToNextLevel_40 : decode cX2_daysToNextLevel 40 = .ok (.isub, 1) := by decide +kernel
theorem dX2_daysToNextLevel_41 : decode cX2_daysToNextLevel 41 = .ok (.ireturn, 1) := by decide +kernel
theorem dX2_canBeReminded_0 : decode cX2_canBeReminded 0 = .ok (.aload_n 0, 1) := by decide +kernel
theorem dX2_canBeReminded_1 : decode cX2_canBeReminded 1 = .ok (.getfield 51, 3) := by decide +kernel
theorem dX2_canBeReminded_4 : decode cX2_canBeReminded 4 = .ok (.iconst 4, 1) := by decide +kernel
theorem dX2_canBeReminded_5 : decode cX2_canBeReminded 5 = .ok (.if_icmp .ge 21, 3) := by decide +kernel
theorem dX2_canBeReminded_8 : decode cX2_canBeReminded 8 = .ok (.aload_n 0, 1) := by decide +kernel
theorem dX2_canBeReminded_9 : decode cX2_canBeReminded 9 = .ok (.invokevirtual 32, 3) := by decide +kernel
theorem dX2_canBeReminded_12 : decode cX2_canBeReminded 12 = .ok (.ifCond .le 14, 3) := by decide +kernel
theorem dX2_canBeReminded_15 : decode cX2_canBeReminded 15 = .ok (.aload_n 0, 1) := by decide +kernel
theorem dX2_canBeReminded_16 : decode cX2_canBeReminded 16 = .ok (.getfield 36, 3) := by decide +kernel
theorem dX2_canBeReminded_19 : decode cX2_canBeReminded 19 = .ok (.ifCond .ne 7, 3) := by decide +kernel
theorem dX2_canBeReminded_22 : decode cX2_canBeReminded 22 = .ok (.iconst 1, 1) := by decide +kernel
theorem dX2_canBeReminded_23 : decode cX2_canBeReminded 23 = .ok (.goto 4, 3) := by decide +kernel
theorem dX2_canBeReminded_26 : decode cX2_canBeReminded 26 = .ok (.iconst 0, 1) := by decide +kernel
theorem dX2_canBeReminded_27 : decode cX2_canBeReminded 27 = .ok (.ireturn, 1) := by decide +kernel
theorem dX2_waitOfLevel_0 : decode cX2_waitOfLevel 0 = .ok (.aload_n 0, 1) := by decide +kernel
theorem dX2_waitOfLevel_1 : decode cX2_waitOfLevel 1 = .ok (.getfield 51, 3) := by decide +kernel
theorem dX2_waitOfLevel_4 : decode cX2_waitOfLevel 4 = .ok (.ifCond .ne 6, 3) := by decide +kernel
theorem dX2_waitOfLevel_7 : decode cX2_waitOfLevel 7 = .ok (.bipush 7, 2) := by decide +kernel
theorem dX2_waitOfLevel_9 : decode cX2_waitOfLevel 9 = .ok (.ireturn, 1) := by decide +kernel
theorem dX2_waitOfLevel_10 : decode cX2_waitOfLevel 10 = .ok (.aload_n 0, 1) := by decide +kernel
theorem dX2_waitOfLevel_11 : decode cX2_waitOfLevel 11 = .ok (.getfield 51, 3) := by decide +kernel
theorem dX2_waitOfLevel_14 : decode cX2_waitOfLevel 14 = .ok (.iconst 3, 1) := by decide +kernel
theorem dX2_waitOfLevel_15 : decode cX2_waitOfLevel 15 = .ok (.if_icmp .ge 8, 3) := by decide +kernel
theorem dX2_waitOfLevel_18 : decode cX2_waitOfLevel 18 = .ok (.bipush 14, 2) := by decide +kernel
theorem dX2_waitOfLevel_20 : decode cX2_waitOfLevel 20 = .ok (.goto 5, 3) := by decide +kernel
theorem dX2_waitOfLevel_23 : decode cX2_waitOfLevel 23 = .ok (.bipush 21, 2) := by decide +kernel
theorem dX2_waitOfLevel_25 : decode cX2_waitOfLevel 25 = .ok (.ireturn, 1) := by decide +kernel
theorem dX2_bucketOn_0 : decode cX2_bucketOn 0 = .ok (.iload_n 1, 1) := by decide +kernel
theorem dX2_bucketOn_1 : decode cX2_bucketOn 1 = .ok (.aload_n 0, 1) := by decide +kernel
theorem dX2_bucketOn_2 : decode cX2_bucketOn 2 = .ok (.getfield 19, 3) := by decide +kernel
theorem dX2_bucketOn_5 : decode cX2_bucketOn 5 = .ok (.isub, 1) := by decide +kernel
theorem dX2_bucketOn_6 : decode cX2_bucketOn 6 = .ok (.istore_n 2, 1) := by decide +kernel
theorem dX2_bucketOn_7 : decode cX2_bucketOn 7 = .ok (.iload_n 2, 1) := by decide +kernel
theorem dX2_bucketOn_8 : decode cX2_bucketOn 8 = .ok (.ifCond .gt 5, 3) := by decide +kernel
theorem dX2_bucketOn_11 : decode cX2_bucketOn 11 = .ok (.iconst 0, 1) := by decide +kernel
theorem dX2_bucketOn_12 : decode cX2_bucketOn 12 = .ok (.ireturn, 1) := by decide +kernel
theorem dX2_bucketOn_13 : decode cX2_bucketOn 13 = .ok (.iload_n 2, 1) := by decide +kernel
theorem dX2_bucketOn_14 : decode cX2_bucketOn 14 = .ok (.bipush 30, 2) := by decide +kernel
theorem dX2_bucketOn_16 : decode cX2_bucketOn 16 = .ok (.if_icmp .gt 5, 3) := by decide +kernel
theorem dX2_bucketOn_19 : decode cX2_bucketOn 19 = .ok (.iconst 1, 1) := by decide +kernel
theorem dX2_bucketOn_20 : decode cX2_bucketOn 20 = .ok (.ireturn, 1) := by decide +kernel
theorem dX2_bucketOn_21 : decode cX2_bucketOn 21 = .ok (.iload_n 2, 1) := by decide +kernel
theorem dX2_bucketOn_22 : decode cX2_bucketOn 22 = .ok (.bipush 60, 2) := by decide +kernel
theorem dX2_bucketOn_24 : decode cX2_bucketOn 24 = .ok (.if_icmp .gt 5, 3) := by decide +kernel
theorem dX2_bucketOn_27 : decode cX2_bucketOn 27 = .ok (.iconst 2, 1) := by decide +kernel
theorem dX2_bucketOn_28 : decode cX2_bucketOn 28 = .ok (.ireturn, 1) := by decide +kernel
theorem dX2_bucketOn_29 : decode cX2_bucketOn 29 = .ok (.iload_n 2, 1) := by decide +kernel
theorem dX2_bucketOn_30 : decode cX2_bucketOn 30 = .ok (.bipush 90, 2) := by decide +kernel
theorem dX2_bucketOn_32 : decode cX2_bucketOn 32 = .ok (.if_icmp .gt 7, 3) := by decide +kernel
theorem dX2_bucketOn_35 : decode cX2_bucketOn 35 = .ok (.iconst 3, 1) := by decide +kernel
theorem dX2_bucketOn_36 : decode cX2_bucketOn 36 = .ok (.goto 4, 3) := by decide +kernel
theorem dX2_bucketOn_39 : decode cX2_bucketOn 39 = .ok (.iconst 4, 1) := by decide +kernel
theorem dX2_bucketOn_40 : decode cX2_bucketOn 40 = .ok (.ireturn, 1) := by decide +kernel
theorem dX3_init_0 : decode cX3_init 0 = .ok (.aload_n 0, 1) := by decide +kernel
theorem dX3_init_1 : decode cX3_init 1 = .ok (.invokespecial 1, 3) := by decide +kernel
theorem dX3_init_4 : decode cX3_init 4 = .ok (.aload_n 0, 1) := by decide +kernel
theorem dX3_init_5 : decode cX3_init 5 = .ok (.bipush 64, 2) := by decide +kernel
theorem dX3_init_7 : decode cX3_init 7 = .ok (.newarray .int, 2) := by decide +kernel
theorem dX3_init_9 : decode cX3_init 9 = .ok (.putfield 9, 3) := by decide +kernel
theorem dX3_init_12 : decode cX3_init 12 = .ok (.aload_n 0, 1) := by decide +kernel
theorem dX3_init_13 : decode cX3_init 13 = .ok (.bipush 64, 2) := by decide +kernel
theorem dX3_init_15 : decode cX3_init 15 = .ok (.newarray .int, 2) := by decide +kernel
theorem dX3_init_17 : decode cX3_init 17 = .ok (.putfield 13, 3) := by decide +kernel
theorem dX3_init_20 : decode cX3_init 20 = .ok (.return_, 1) := by decide +kernel
theorem dX3_write_0 : decode cX3_write 0 = .ok (.iload_n 2, 1) := by decide +kernel
theorem dX3_write_1 : decode cX3_write 1 = .ok (.ifCond .eq 13, 3) := by decide +kernel
theorem dX3_write_4 : decode cX3_write 4 = .ok (.aload_n 0, 1) := by decide +kernel
theorem dX3_write_5 : decode cX3_write 5 = .ok (.getfield 16, 3) := by decide +kernel
theorem dX3_write_8 : decode cX3_write 8 = .ok (.sipush 16384, 3) := by decide +kernel
theorem dX3_write_11 : decode cX3_write 11 = .ok (.if_icmp .lt 4, 3) := by decide +kernel
theorem dX3_write_14 : decode cX3_write 14 = .ok (.return_, 1) := by decide +kernel
theorem dX3_write_15 : decode cX3_write 15 = .ok (.aload_n 0, 1) := by decide +kernel
theorem dX3_write_16 : decode cX3_write 16 = .ok (.getfield 16, 3) := by decide +kernel
theorem dX3_write_19 : decode cX3_write 19 = .ok (.aload_n 0, 1) := by decide +kernel
theorem dX3_write_20 : decode cX3_write 20 = .ok (.getfield 13, 3) := by decide +kernel
theorem dX3_write_23 : decode cX3_write 23 = .ok (.arraylength, 1) := by decide +kernel
theorem dX3_write_24 : decode cX3_write 24 = .ok (.if_icmp .lt 7, 3) := by decide +kernel
theorem dX3_write_27 : decode cX3_write 27 = .ok (.aload_n 0, 1) := by decide +kernel
theorem dX3_write_28 : decode cX3_write 28 = .ok (.invokevirtual 20, 3) := by decide +kernel
theorem dX3_write_31 : decode cX3_write 31 = .ok (.aload_n 0, 1) := by decide +kernel
theorem dX3_write_32 : decode cX3_write 32 = .ok (.getfield 9, 3) := by decide +kernel
theorem dX3_write_35 : decode cX3_write 35 = .ok (.aload_n 0, 1) := by decide +kernel
theorem dX3_write_36 : decode cX3_write 36 = .ok (.getfield 16, 3) := by decide +kernel
theorem dX3_write_39 : decode cX3_write 39 = .ok (.iload_n 1, 1) := by decide +kernel
theorem dX3_write_40 : decode cX3_write 40 = .ok (.iastore, 1) := by decide +kernel
theorem dX3_write_41 : decode cX3_write 41 = .ok (.aload_n 0, 1) := by decide +kernel
theorem dX3_write_42 : decode cX3_write 42 = .ok (.getfield 13, 3) := by decide +kernel
theorem dX3_write_45 : decode cX3_write 45 = .ok (.aload_n 0, 1) := by decide +kernel
theorem dX3_write_46 : decode cX3_write 46 = .ok (.getfield 16, 3) := by decide +kernel
theorem dX3_write_49 : decode cX3_write 49 = .ok (.iload_n 2, 1) := by decide +kernel
theorem dX3_write_50 : decode cX3_write 50 = .ok (.iastore, 1) := by decide +kernel
theorem dX3_write_51 : decode cX3_write 51 = .ok (.aload_n 0, 1) := by decide +kernel
theorem dX3_write_52 : decode cX3_write 52 = .ok (.dup, 1) := by decide +kernel
theorem dX3_write_53 : decode cX3_write 53 = .ok (.getfield 16, 3) := by decide +kernel
theorem dX3_write_56 : decode cX3_write 56 = .ok (.iconst 1, 1) := by decide +kernel
theorem dX3_write_57 : decode cX3_write 57 = .ok (.iadd, 1) := by decide +kernel
theorem dX3_write_58 : decode cX3_write 58 = .ok (.putfield 16, 3) := by decide +kernel
theorem dX3_write_61 : decode cX3_write 61 = .ok (.return_, 1) := by decide +kernel
theorem dX3_doubleRoom_0 : decode cX3_doubleRoom 0 = .ok (.aload_n 0, 1) := by decide +kernel
theorem dX3_doubleRoom_1 : decode cX3_doubleRoom 1 = .ok (.aload_n 0, 1) := by decide +kernel
theorem dX3_doubleRoom_2 : decode cX3_doubleRoom 2 = .ok (.getfield 9, 3) := by decide +kernel
theorem dX3_doubleRoom_5 : decode cX3_doubleRoom 5 = .ok (.iconst 2, 1) := by decide +kernel
theorem dX3_doubleRoom_6 : decode cX3_doubleRoom 6 = .ok (.aload_n 0, 1) := by decide +kernel
theorem dX3_doubleRoom_7 : decode cX3_doubleRoom 7 = .ok (.getfield 9, 3) := by decide +kernel
theorem dX3_doubleRoom_10 : decode cX3_doubleRoom 10 = .ok (.arraylength, 1) := by decide +kernel
theorem dX3_doubleRoom_11 : decode cX3_doubleRoom 11 = .ok (.imul, 1) := by decide +kernel
theorem dX3_doubleRoom_12 : decode cX3_doubleRoom 12 = .ok (.invokestatic 23, 3) := by decide +kernel
theorem dX3_doubleRoom_15 : decode cX3_doubleRoom 15 = .ok (.putfield 9, 3) := by decide +kernel
theorem dX3_doubleRoom_18 : decode cX3_doubleRoom 18 = .ok (.aload_n 0, 1) := by decide +kernel
theorem dX3_doubleRoom_19 : decode cX3_doubleRoom 19 = .ok (.aload_n 0, 1) := by decide +kernel
theorem dX3_doubleRoom_20 : decode cX3_doubleRoom 20 = .ok (.getfield 13, 3) := by decide +kernel
theorem dX3_doubleRoom_23 : decode cX3_doubleRoom 23 = .ok (.iconst 2, 1) := by decide +kernel
theorem dX3_doubleRoom_24 : decode cX3_doubleRoom 24 = .ok (.aload_n 0, 1) := by decide +kernel
theorem dX3_doubleRoom_25 : decode cX3_doubleRoom 25 = .ok (.getfield 13, 3) := by decide +kernel
theorem dX3_doubleRoom_28 : decode cX3_doubleRoom 28 = .ok (.arraylength, 1) := by decide +kernel
theorem dX3_doubleRoom_29 : decode cX3_doubleRoom 29 = .ok (.imul, 1) := by decide +kernel
theorem dX3_doubleRoom_30 : decode cX3_doubleRoom 30 = .ok (.invokestatic 23, 3) := by decide +kernel
theorem dX3_doubleRoom_33 : decode cX3_doubleRoom 33 = .ok (.putfield 13, 3) := by decide +kernel
theorem dX3_doubleRoom_36 : decode cX3_doubleRoom 36 = .ok (.return_, 1) := by decide +kernel
theorem dX3_sumOf_0 : decode cX3_sumOf 0 = .ok (.iconst 0, 1) := by decide +kernel
theorem dX3_sumOf_1 : decode cX3_sumOf 1 = .ok (.istore_n 2, 1) := by decide +kernel
theorem dX3_sumOf_2 : decode cX3_sumOf 2 = .ok (.iconst 0, 1) := by decide +kernel
theorem dX3_sumOf_3 : decode cX3_sumOf 3 = .ok (.istore_n 3, 1) := by decide +kernel
theorem dX3_sumOf_4 : decode cX3_sumOf 4 = .ok (.iload_n 3, 1) := by decide +kernel
theorem dX3_sumOf_5 : decode cX3_sumOf 5 = .ok (.aload_n 0, 1) := by decide +kernel
theorem dX3_sumOf_6 : decode cX3_sumOf 6 = .ok (.getfield 16, 3) := by decide +kernel
theorem dX3_sumOf_9 : decode cX3_sumOf 9 = .ok (.if_icmp .ge 26, 3) := by decide +kernel
theorem dX3_sumOf_12 : decode cX3_sumOf 12 = .ok (.aload_n 0, 1) := by decide +kernel
theorem dX3_sumOf_13 : decode cX3_sumOf 13 = .ok (.iload_n 3, 1) := by decide +kernel
theorem dX3_sumOf_14 : decode cX3_sumOf 14 = .ok (.invokevirtual 29, 3) := by decide +kernel
theorem dX3_sumOf_17 : decode cX3_sumOf 17 = .ok (.iload_n 1, 1) := by decide +kernel
theorem dX3_sumOf_18 : decode cX3_sumOf 18 = .ok (.if_icmp .ne 11, 3) := by decide +kernel
theorem dX3_sumOf_21 : decode cX3_sumOf 21 = .ok (.iload_n 2, 1) := by decide +kernel
theorem dX3_sumOf_22 : decode cX3_sumOf 22 = .ok (.aload_n 0, 1) := by decide +kernel
theorem dX3_sumOf_23 : decode cX3_sumOf 23 = .ok (.iload_n 3, 1) := by decide +kernel
theorem dX3_sumOf_24 : decode cX3_sumOf 24 = .ok (.invokevirtual 33, 3) := by decide +kernel
theorem dX3_sumOf_27 : decode cX3_sumOf 27 = .ok (.iadd, 1) := by decide +kernel
theorem dX3_sumOf_28 : decode cX3_sumOf 28 = .ok (.istore_n 2, 1) := by decide +kernel
theorem dX3_sumOf_29 : decode cX3_sumOf 29 = .ok (.iinc 3 1, 3) := by decide +kernel
theorem dX3_sumOf_32 : decode cX3_sumOf 32 = .ok (.goto (-28), 3) := by decide +kernel
theorem dX3_sumOf_35 : decode cX3_sumOf 35 = .ok (.iload_n 2, 1) := by decide +kernel
theorem dX3_sumOf_36 : decode cX3_sumOf 36 = .ok (.ireturn, 1) := by decide +kernel
theorem dX3_invoiceIn_0 : decode cX3_invoiceIn 0 = .ok (.iload_n 1, 1) := by decide +kernel
theorem dX3_invoiceIn_1 : decode cX3_invoiceIn 1 = .ok (.ifCond .lt 21, 3) := by decide +kernel
theorem dX3_invoiceIn_4 : decode cX3_invoiceIn 4 = .ok (.iload_n 1, 1) := by decide +kernel
theorem dX3_invoiceIn_5 : decode cX3_invoiceIn 5 = .ok (.aload_n 0, 1) := by decide +kernel
theorem dX3_invoiceIn_6 : decode cX3_invoiceIn 6 = .ok (.getfield 9, 3) := by decide +kernel
theorem dX3_invoiceIn_9 : decode cX3_invoiceIn 9 = .ok (.arraylength, 1) := by decide +kernel
theorem dX3_invoiceIn_10 : decode cX3_invoiceIn 10 = .ok (.if_icmp .ge 12, 3) := by decide +kernel
theorem dX3_invoiceIn_13 : decode cX3_invoiceIn 13 = .ok (.aload_n 0, 1) := by decide +kernel
theorem dX3_invoiceIn_14 : decode cX3_invoiceIn 14 = .ok (.getfield 9, 3) := by decide +kernel
theorem dX3_invoiceIn_17 : decode cX3_invoiceIn 17 = .ok (.iload_n 1, 1) := by decide +kernel
theorem dX3_invoiceIn_18 : decode cX3_invoiceIn 18 = .ok (.iaload, 1) := by decide +kernel
theorem dX3_invoiceIn_19 : decode cX3_invoiceIn 19 = .ok (.goto 4, 3) := by decide +kernel
theorem dX3_invoiceIn_22 : decode cX3_invoiceIn 22 = .ok (.iconst 0, 1) := by decide +kernel
theorem dX3_invoiceIn_23 : decode cX3_invoiceIn 23 = .ok (.ireturn, 1) := by decide +kernel
theorem dX3_amountIn_0 : decode cX3_amountIn 0 = .ok (.iload_n 1, 1) := by decide +kernel
theorem dX3_amountIn_1 : decode cX3_amountIn 1 = .ok (.ifCond .lt 21, 3) := by decide +kernel
theorem dX3_amountIn_4 : decode cX3_amountIn 4 = .ok (.iload_n 1, 1) := by decide +kernel
theorem dX3_amountIn_5 : decode cX3_amountIn 5 = .ok (.aload_n 0, 1) := by decide +kernel
theorem dX3_amountIn_6 : decode cX3_amountIn 6 = .ok (.getfield 13, 3) := by decide +kernel
theorem dX3_amountIn_9 : decode cX3_amountIn 9 = .ok (.arraylength, 1) := by decide +kernel
theorem dX3_amountIn_10 : decode cX3_amountIn 10 = .ok (.if_icmp .ge 12, 3) := by decide +kernel
theorem dX3_amountIn_13 : decode cX3_amountIn 13 = .ok (.aload_n 0, 1) := by decide +kernel
theorem dX3_amountIn_14 : decode cX3_amountIn 14 = .ok (.getfield 13, 3) := by decide +kernel
theorem dX3_amountIn_17 : decode cX3_amountIn 17 = .ok (.iload_n 1, 1) := by decide +kernel
theorem dX3_amountIn_18 : decode cX3_amountIn 18 = .ok (.iaload, 1) := by decide +kernel
theorem dX3_amountIn_19 : decode cX3_amountIn 19 = .ok (.goto 4, 3) := by decide +kernel
theorem dX3_amountIn_22 : decode cX3_amountIn 22 = .ok (.iconst 0, 1) := by decide +kernel
theorem dX3_amountIn_23 : decode cX3_amountIn 23 = .ok (.ireturn, 1) := by decide +kernel
theorem dX4_init_0 : decode cX4_init 0 = .ok (.aload_n 0, 1) := by decide +kernel
theorem dX4_init_1 : decode cX4_init 1 = .ok (.invokespecial 3, 3) := by decide +kernel
theorem dX4_init_4 : decode cX4_init 4 = .ok (.aload_n 0, 1) := by decide +kernel
theorem dX4_init_5 : decode cX4_init 5 = .ok (.bipush 24, 2) := by decide +kernel
theorem dX4_init_7 : decode cX4_init 7 = .ok (.newarray .int, 2) := by decide +kernel
theorem dX4_init_9 : decode cX4_init 9 = .ok (.putfield 9, 3) := by decide +kernel
theorem dX4_init_12 : decode cX4_init 12 = .ok (.aload_n 0, 1) := by decide +kernel
theorem dX4_init_13 : decode cX4_init 13 = .ok (.aload_n 1, 1) := by decide +kernel
theorem dX4_init_14 : decode cX4_init 14 = .ok (.putfield 15, 3) := by decide +kernel
theorem dX4_init_17 : decode cX4_init 17 = .ok (.aload_n 0, 1) := by decide +kernel
theorem dX4_init_18 : decode cX4_init 18 = .ok (.iload_n 2, 1) := by decide +kernel
theorem dX4_init_19 : decode cX4_init 19 = .ok (.putfield 19, 3) := by decide +kernel
theorem dX4_init_22 : decode cX4_init 22 = .ok (.return_, 1) := by decide +kernel
theorem dX4_unspent_0 : decode cX4_unspent 0 = .ok (.aload_n 0, 1) := by decide +kernel
theorem dX4_unspent_1 : decode cX4_unspent 1 = .ok (.getfield 23, 3) := by decide +kernel
theorem dX4_unspent_4 : decode cX4_unspent 4 = .ok (.ifCond .eq 7, 3) := by decide +kernel
theorem dX4_unspent_7 : decode cX4_unspent 7 = .ok (.iconst 0, 1) := by decide +kernel
theorem dX4_unspent_8 : decode cX4_unspent 8 = .ok (.goto 12, 3) := by decide +kernel
theorem dX4_unspent_11 : decode cX4_unspent 11 = .ok (.aload_n 0, 1) := by decide +kernel
theorem dX4_unspent_12 : decode cX4_unspent 12 = .ok (.getfield 19, 3) := by decide +kernel
theorem dX4_unspent_15 : decode cX4_unspent 15 = .ok (.aload_n 0, 1) := by decide +kernel
theorem dX4_unspent_16 : decode cX4_unspent 16 = .ok (.getfield 27, 3) := by decide +kernel
theorem dX4_unspent_19 : decode cX4_unspent 19 = .ok (.isub, 1) := by decide +kernel
theorem dX4_unspent_20 : decode cX4_unspent 20 = .ok (.ireturn, 1) := by decide +kernel
theorem dX4_spentOn_0 : decode cX4_spentOn 0 = .ok (.iload_n 1, 1) := by decide +kernel
theorem dX4_spentOn_1 : decode cX4_spentOn 1 = .ok (.ifCond .lt 12, 3) := by decide +kernel
theorem dX4_spentOn_4 : decode cX4_spentOn 4 = .ok (.iload_n 1, 1) := by decide +kernel
theorem dX4_spentOn_5 : decode cX4_spentOn 5 = .ok (.aload_n 0, 1) := by decide +kernel
theorem dX4_spentOn_6 : decode cX4_spentOn 6 = .ok (.getfield 9, 3) := by decide +kernel
theorem dX4_spentOn_9 : decode cX4_spentOn 9 = .ok (.arraylength, 1) := by decide +kernel
theorem dX4_spentOn_10 : decode cX4_spentOn 10 = .ok (.if_icmp .lt 5, 3) := by decide +kernel
theorem dX4_spentOn_13 : decode cX4_spentOn 13 = .ok (.iconst 0, 1) := by decide +kernel
theorem dX4_spentOn_14 : decode cX4_spentOn 14 = .ok (.ireturn, 1) := by decide +kernel
theorem dX4_spentOn_15 : decode cX4_spentOn 15 = .ok (.aload_n 0, 1) := by decide +kernel
theorem dX4_spentOn_16 : decode cX4_spentOn 16 = .ok (.getfield 9, 3) := by decide +kernel
theorem dX4_spentOn_19 : decode cX4_spentOn 19 = .ok (.iload_n 1, 1) := by decide +kernel
theorem dX4_spentOn_20 : decode cX4_spentOn 20 = .ok (.iaload, 1) := by decide +kernel
theorem dX4_spentOn_21 : decode cX4_spentOn 21 = .ok (.ireturn, 1) := by decide +kernel
theorem dX4_spend_0 : decode cX4_spend 0 = .ok (.iload_n 1, 1) := by decide +kernel
theorem dX4_spend_1 : decode cX4_spend 1 = .ok (.ifCond .lt 32, 3) := by decide +kernel
theorem dX4_spend_4 : decode cX4_spend 4 = .ok (.iload_n 1, 1) := by decide +kernel
theorem dX4_spend_5 : decode cX4_spend 5 = .ok (.aload_n 0, 1) := by decide +kernel
theorem dX4_spend_6 : decode cX4_spend 6 = .ok (.getfield 9, 3) := by decide +kernel
theorem dX4_spend_9 : decode cX4_spend 9 = .ok (.arraylength, 1) := by decide +kernel
theorem dX4_spend_10 : decode cX4_spend 10 = .ok (.if_icmp .ge 23, 3) := by decide +kernel
theorem dX4_spend_13 : decode cX4_spend 13 = .ok (.aload_n 0, 1) := by decide +kernel
theorem dX4_spend_14 : decode cX4_spend 14 = .ok (.getfield 9, 3) := by decide +kernel
theorem dX4_spend_17 : decode cX4_spend 17 = .ok (.iload_n 1, 1) := by decide +kernel
theorem dX4_spend_18 : decode cX4_spend 18 = .ok (.dup2, 1) := by decide +kernel
theorem dX4_spend_19 : decode cX4_spend 19 = .ok (.iaload, 1) := by decide +kernel
theorem dX4_spend_20 : decode cX4_spend 20 = .ok (.iload_n 2, 1) := by decide +kernel
theorem dX4_spend_21 : decode cX4_spend 21 = .ok (.iadd, 1) := by decide +kernel
theorem dX4_spend_22 : decode cX4_spend 22 = .ok (.iastore, 1) := by decide +kernel
theorem dX4_spend_23 : decode cX4_spend 23 = .ok (.aload_n 0, 1) := by decide +kernel
theorem dX4_spend_24 : decode cX4_spend 24 = .ok (.dup, 1) := by decide +kernel
theorem dX4_spend_25 : decode cX4_spend 25 = .ok (.getfield 27, 3) := by decide +kernel
theorem dX4_spend_28 : decode cX4_spend 28 = .ok (.iload_n 2, 1) := by decide +kernel
theorem dX4_spend_29 : decode cX4_spend 29 = .ok (.iadd, 1) := by decide +kernel
theorem dX4_spend_30 : decode cX4_spend 30 = .ok (.putfield 27, 3) := by decide +kernel
theorem dX4_spend_33 : decode cX4_spend 33 = .ok (.return_, 1) := by decide +kernel
theorem dX5_init_0 : decode cX5_init 0 = .ok (.aload_n 0, 1) := by decide +kernel
theorem dX5_init_1 : decode cX5_init 1 = .ok (.invokespecial 3, 3) := by decide +kernel
theorem dX5_init_4 : decode cX5_init 4 = .ok (.aload_n 0, 1) := by decide +kernel
theorem dX5_init_5 : decode cX5_init 5 = .ok (.bipush 24, 2) := by decide +kernel
theorem dX5_init_7 : decode cX5_init 7 = .ok (.newarray .int, 2) := by decide +kernel
theorem dX5_init_9 : decode cX5_init 9 = .ok (.putfield 9, 3) := by decide +kernel
theorem dX5_init_12 : decode cX5_init 12 = .ok (.aload_n 0, 1) := by decide +kernel
theorem dX5_init_13 : decode cX5_init 13 = .ok (.bipush 24, 2) := by decide +kernel
theorem dX5_init_15 : decode cX5_init 15 = .ok (.newarray .int, 2) := by decide +kernel
theorem dX5_init_17 : decode cX5_init 17 = .ok (.putfield 15, 3) := by decide +kernel
theorem dX5_init_20 : decode cX5_init 20 = .ok (.aload_n 0, 1) := by decide +kernel
theorem dX5_init_21 : decode cX5_init 21 = .ok (.bipush 24, 2) := by decide +kernel
theorem dX5_init_23 : decode cX5_init 23 = .ok (.newarray .long, 2) := by decide +kernel
theorem dX5_init_25 : decode cX5_init 25 = .ok (.putfield 18, 3) := by decide +kernel
theorem dX5_init_28 : decode cX5_init 28 = .ok (.return_, 1) := by decide +kernel
theorem dX5_reset_0 : decode cX5_reset 0 = .ok (.aload_n 0, 1) := by decide +kernel
theorem dX5_reset_1 : decode cX5_reset 1 = .ok (.getfield 9, 3) := by decide +kernel
theorem dX5_reset_4 : decode cX5_reset 4 = .ok (.iconst 0, 1) := by decide +kernel
theorem dX5_reset_5 : decode cX5_reset 5 = .ok (.invokestatic 22, 3) := by decide +kernel
theorem dX5_reset_8 : decode cX5_reset 8 = .ok (.aload_n 0, 1) := by decide +kernel
theorem dX5_reset_9 : decode cX5_reset 9 = .ok (.getfield 15, 3) := by decide +kernel
theorem dX5_reset_12 : decode cX5_reset 12 = .ok (.iconst 0, 1) := by decide +kernel
theorem dX5_reset_13 : decode cX5_reset 13 = .ok (.invokestatic 22, 3) := by decide +kernel
theorem dX5_reset_16 : decode cX5_reset 16 = .ok (.return_, 1) := by decide +kernel
theorem dX5_setWeight_0 : decode cX5_setWeight 0 = .ok (.iload_n 1, 1) := by decide +kernel
theorem dX5_setWeight_1 : decode cX5_setWeight 1 = .ok (.ifCond .lt 19, 3) := by decide +kernel
theorem dX5_setWeight_4 : decode cX5_setWeight 4 = .ok (.iload_n 1, 1) := by decide +kernel
theorem dX5_setWeight_5 : decode cX5_setWeight 5 = .ok (.aload_n 0, 1) := by decide +kernel
theorem dX5_setWeight_6 : decode cX5_setWeight 6 = .ok (.getfield 9, 3) := by decide +kernel
theorem dX5_setWeight_9 : decode cX5_setWeight 9 = .ok (.arraylength, 1) := by decide +kernel
theorem dX5_setWeight_10 : decode cX5_setWeight 10 = .ok (.if_icmp .ge 10, 3) := by decide +kernel
theorem dX5_setWeight_13 : decode cX5_setWeight 13 = .ok (.aload_n 0, 1) := by decide +kernel
theorem dX5_setWeight_14 : decode cX5_setWeight 14 = .ok (.getfield 9, 3) := by decide +kernel
theorem dX5_setWeight_17 : decode cX5_setWeight 17 = .ok (.iload_n 1, 1) := by decide +kernel
theorem dX5_setWeight_18 : decode cX5_setWeight 18 = .ok (.iload_n 2, 1) := by decide +kernel
theorem dX5_setWeight_19 : decode cX5_setWeight 19 = .ok (.iastore, 1) := by decide +kernel
theorem dX5_setWeight_20 : decode cX5_setWeight 20 = .ok (.return_, 1) := by decide +kernel
theorem dX5_partOf_0 : decode cX5_partOf 0 = .ok (.iload_n 1, 1) := by decide +kernel
theorem dX5_partOf_1 : decode cX5_partOf 1 = .ok (.ifCond .lt 21, 3) := by decide +kernel
theorem dX5_partOf_4 : decode cX5_partOf 4 = .ok (.iload_n 1, 1) := by decide +kernel
theorem dX5_partOf_5 : decode cX5_partOf 5 = .ok (.aload_n 0, 1) := by decide +kernel
theorem dX5_partOf_6 : decode cX5_partOf 6 = .ok (.getfield 15, 3) := by decide +kernel
theorem dX5_partOf_9 : decode cX5_partOf 9 = .ok (.arraylength, 1) := by decide +kernel
theorem dX5_partOf_10 : decode cX5_partOf 10 = .ok (.if_icmp .ge 12, 3) := by decide +kernel
theorem dX5_partOf_13 : decode cX5_partOf 13 = .ok (.aload_n 0, 1) := by decide +kernel
theorem dX5_partOf_14 : decode cX5_partOf 14 = .ok (.getfield 15, 3) := by decide +kernel
theorem dX5_partOf_17 : decode cX5_partOf 17 = .ok (.iload_n 1, 1) := by decide +kernel
theorem dX5_partOf_18 : decode cX5_partOf 18 = .ok (.iaload, 1) := by decide +kernel
theorem dX5_partOf_19 : decode cX5_partOf 19 = .ok (.goto 4, 3) := by decide +kernel
theorem dX5_partOf_22 : decode cX5_partOf 22 = .ok (.iconst 0, 1) := by decide +kernel
theorem dX5_partOf_23 : decode cX5_partOf 23 = .ok (.ireturn, 1) := by decide +kernel
theorem dX5_wantsPart_0 : decode cX5_wantsPart 0 = .ok (.iload_n 1, 1) := by decide +kernel
theorem dX5_wantsPart_1 : decode cX5_wantsPart 1 = .ok (.ifCond .lt 34, 3) := by decide +kernel
theorem dX5_wantsPart_4 : decode cX5_wantsPart 4 = .ok (.iload_n 1, 1) := by decide +kernel
theorem dX5_wantsPart_5 : decode cX5_wantsPart 5 = .ok (.aload_n 0, 1) := by decide +kernel
theorem dX5_wantsPart_6 : decode cX5_wantsPart 6 = .ok (.getfield 15, 3) := by decide +kernel
theorem dX5_wantsPart_9 : decode cX5_wantsPart 9 = .ok (.arraylength, 1) := by decide +kernel
theorem dX5_wantsPart_10 : decode cX5_wantsPart 10 = .ok (.if_icmp .ge 25, 3) := by decide +kernel
theorem dX5_wantsPart_13 : decode cX5_wantsPart 13 = .ok (.aload_n 0, 1) := by decide +kernel
theorem dX5_wantsPart_14 : decode cX5_wantsPart 14 = .ok (.getfield 9, 3) := by decide +kernel
theorem dX5_wantsPart_17 : decode cX5_wantsPart 17 = .ok (.iload_n 1, 1) := by decide +kernel
theorem dX5_wantsPart_18 : decode cX5_wantsPart 18 = .ok (.iaload, 1) := by decide +kernel
theorem dX5_wantsPart_19 : decode cX5_wantsPart 19 = .ok (.ifCond .le 16, 3) := by decide +kernel
theorem dX5_wantsPart_22 : decode cX5_wantsPart 22 = .ok (.aload_n 0, 1) := by decide +kernel
theorem dX5_wantsPart_23 : decode cX5_wantsPart 23 = .ok (.getfield 15, 3) := by decide +kernel
theorem dX5_wantsPart_26 : decode cX5_wantsPart 26 = .ok (.iload_n 1, 1) := by decide +kernel
theorem dX5_wantsPart_27 : decode cX5_wantsPart 27 = .ok (.iaload, 1) := by decide +kernel
theorem dX5_wantsPart_28 : decode cX5_wantsPart 28 = .ok (.ifCond .ne 7, 3) := by decide +kernel
theorem dX5_wantsPart_31 : decode cX5_wantsPart 31 = .ok (.iconst 1, 1) := by decide +kernel
theorem dX5_wantsPart_32 : decode cX5_wantsPart 32 = .ok (.goto 4, 3) := by decide +kernel
theorem dX5_wantsPart_35 : decode cX5_wantsPart 35 = .ok (.iconst 0, 1) := by decide +kernel
theorem dX5_wantsPart_36 : decode cX5_wantsPart 36 = .ok (.ireturn, 1) := by decide +kernel
theorem dX5_fill_0 : decode cX5_fill 0 = .ok (.iload_n 1, 1) := by decide +kernel
theorem dX5_fill_1 : decode cX5_fill 1 = .ok (.ifCond .lt 12, 3) := by decide +kernel
theorem dX5_fill_4 : decode cX5_fill 4 = .ok (.iload_n 1, 1) := by decide +kernel
theorem dX5_fill_5 : decode cX5_fill 5 = .ok (.aload_n 0, 1) := by decide +kernel
theorem dX5_fill_6 : decode cX5_fill 6 = .ok (.getfield 15, 3) := by decide +kernel
theorem dX5_fill_9 : decode cX5_fill 9 = .ok (.arraylength, 1) := by decide +kernel
theorem dX5_fill_10 : decode cX5_fill 10 = .ok (.if_icmp .lt 5, 3) := by decide +kernel
theorem dX5_fill_13 : decode cX5_fill 13 = .ok (.iconst 0, 1) := by decide +kernel
theorem dX5_fill_14 : decode cX5_fill 14 = .ok (.ireturn, 1) := by decide +kernel
theorem dX5_fill_15 : decode cX5_fill 15 = .ok (.aload_n 0, 1) := by decide +kernel
theorem dX5_fill_16 : decode cX5_fill 16 = .ok (.getfield 15, 3) := by decide +kernel
theorem dX5_fill_19 : decode cX5_fill 19 = .ok (.iload_n 1, 1) := by decide +kernel
theorem dX5_fill_20 : decode cX5_fill 20 = .ok (.aload_n 0, 1) := by decide +kernel
theorem dX5_fill_21 : decode cX5_fill 21 = .ok (.getfield 9, 3) := by decide +kernel
theorem dX5_fill_24 : decode cX5_fill 24 = .ok (.iload_n 1, 1) := by decide +kernel
theorem dX5_fill_25 : decode cX5_fill 25 = .ok (.iaload, 1) := by decide +kernel
theorem dX5_fill_26 : decode cX5_fill 26 = .ok (.iload_n 2, 1) := by decide +kernel
theorem dX5_fill_27 : decode cX5_fill 27 = .ok (.invokestatic 28, 3) := by decide +kernel
theorem dX5_fill_30 : decode cX5_fill 30 = .ok (.iastore, 1) := by decide +kernel
theorem dX5_fill_31 : decode cX5_fill 31 = .ok (.aload_n 0, 1) := by decide +kernel
theorem dX5_fill_32 : decode cX5_fill 32 = .ok (.getfield 15, 3) := by decide +kernel
theorem dX5_fill_35 : decode cX5_fill 35 = .ok (.iload_n 1, 1) := by decide +kernel
theorem dX5_fill_36 : decode cX5_fill 36 = .ok (.iaload, 1) := by decide +kernel
theorem dX5_fill_37 : decode cX5_fill 37 = .ok (.ireturn, 1) := by decide +kernel
theorem dX5_sumOfWeights_0 : decode cX5_sumOfWeights 0 = .ok (.lconst 0, 1) := by decide +kernel
theorem dX5_sumOfWeights_1 : decode cX5_sumOfWeights 1 = .ok (.lstore_n 1, 1) := by decide +kernel
theorem dX5_sumOfWeights_2 : decode cX5_sumOfWeights 2 = .ok (.iconst 0, 1) := by decide +kernel
theorem dX5_sumOfWeights_3 : decode cX5_sumOfWeights 3 = .ok (.istore_n 3, 1) := by decide +kernel
theorem dX5_sumOfWeights_4 : decode cX5_sumOfWeights 4 = .ok (.iload_n 3, 1) := by decide +kernel
theorem dX5_sumOfWeights_5 : decode cX5_sumOfWeights 5 = .ok (.aload_n 0, 1) := by decide +kernel
theorem dX5_sumOfWeights_6 : decode cX5_sumOfWeights 6 = .ok (.getfield 9, 3) := by decide +kernel
theorem dX5_sumOfWeights_9 : decode cX5_sumOfWeights 9 = .ok (.arraylength, 1) := by decide +kernel
theorem dX5_sumOfWeights_10 : decode cX5_sumOfWeights 10 = .ok (.if_icmp .ge 19, 3) := by decide +kernel
theorem dX5_sumOfWeights_13 : decode cX5_sumOfWeights 13 = .ok (.lload_n 1, 1) := by decide +kernel
theorem dX5_sumOfWeights_14 : decode cX5_sumOfWeights 14 = .ok (.aload_n 0, 1) := by decide +kernel
theorem dX5_sumOfWeights_15 : decode cX5_sumOfWeights 15 = .ok (.getfield 9, 3) := by decide +kernel
theorem dX5_sumOfWeights_18 : decode cX5_sumOfWeights 18 = .ok (.iload_n 3, 1) := by decide +kernel
theorem dX5_sumOfWeights_19 : decode cX5_sumOfWeights 19 = .ok (.iaload, 1) := by decide +kernel
theorem dX5_sumOfWeights_20 : decode cX5_sumOfWeights 20 = .ok (.i2l, 1) := by decide +kernel
theorem dX5_sumOfWeights_21 : decode cX5_sumOfWeights 21 = .ok (.ladd, 1) := by decide +kernel
theorem dX5_sumOfWeights_22 : decode cX5_sumOfWeights 22 = .ok (.lstore_n 1, 1) := by decide +kernel
theorem dX5_sumOfWeights_23 : decode cX5_sumOfWeights 23 = .ok (.iinc 3 1, 3) := by decide +kernel
theorem dX5_sumOfWeights_26 : decode cX5_sumOfWeights 26 = .ok (.goto (-22), 3) := by decide +kernel
theorem dX5_sumOfWeights_29 : decode cX5_sumOfWeights 29 = .ok (.lload_n 1, 1) := by decide +kernel
theorem dX5_sumOfWeights_30 : decode cX5_sumOfWeights 30 = .ok (.lreturn, 1) := by decide +kernel
theorem dX5_splitUpToWeights_0 : decode cX5_splitUpToWeights 0 = .ok (.aload_n 0, 1) := by decide +kernel
theorem dX5_splitUpToWeights_1 : decode cX5_splitUpToWeights 1 = .ok (.iload_n 1, 1) := by decide +kernel
theorem dX5_splitUpToWeights_2 : decode cX5_splitUpToWeights 2 = .ok (.i2l, 1) := by decide +kernel
theorem dX5_splitUpToWeights_3 : decode cX5_splitUpToWeights 3 = .ok (.aload_n 0, 1) := by decide +kernel
theorem dX5_splitUpToWeights_4 : decode cX5_splitUpToWeights 4 = .ok (.invokevirtual 34, 3) := by decide +kernel
theorem dX5_splitUpToWeights_7 : decode cX5_splitUpToWeights 7 = .ok (.invokestatic 38, 3) := by decide +kernel
theorem dX5_splitUpToWeights_10 : decode cX5_splitUpToWeights 10 = .ok (.l2i, 1) := by decide +kernel
theorem dX5_splitUpToWeights_11 : decode cX5_splitUpToWeights 11 = .ok (.invokevirtual 41, 3) := by decide +kernel
theorem dX5_splitUpToWeights_14 : decode cX5_splitUpToWeights 14 = .ok (.return_, 1) := by decide +kernel
theorem dX5_splitInProportion_0 : decode cX5_splitInProportion 0 = .ok (.aload_n 0, 1) := by decide +kernel
theorem dX5_splitInProportion_1 : decode cX5_splitInProportion 1 = .ok (.invokevirtual 34, 3) := by decide +kernel
theorem dX5_splitInProportion_4 : decode cX5_splitInProportion 4 = .ok (.lstore_n 2, 1) := by decide +kernel
theorem dX5_splitInProportion_5 : decode cX5_splitInProportion 5 = .ok (.lload_n 2, 1) := by decide +kernel
theorem dX5_splitInProportion_6 : decode cX5_splitInProportion 6 = .ok (.lconst 0, 1) := by decide +kernel
theorem dX5_splitInProportion_7 : decode cX5_splitInProportion 7 = .ok (.lcmp, 1) := by decide +kernel
theorem dX5_splitInProportion_8 : decode cX5_splitInProportion 8 = .ok (.ifCond .gt 4, 3) := by decide +kernel
theorem dX5_splitInProportion_11 : decode cX5_splitInProportion 11 = .ok (.return_, 1) := by decide +kernel
theorem dX5_splitInProportion_12 : decode cX5_splitInProportion 12 = .ok (.iload_n 1, 1) := by decide +kernel
theorem dX5_splitInProportion_13 : decode cX5_splitInProportion 13 = .ok (.istore 4, 2) := by decide +kernel
theorem dX5_splitInProportion_15 : decode cX5_splitInProportion 15 = .ok (.iconst 0, 1) := by decide +kernel
theorem dX5_splitInProportion_16 : decode cX5_splitInProportion 16 = .ok (.istore 5, 2) := by decide +kernel
theorem dX5_splitInProportion_18 : decode cX5_splitInProportion 18 = .ok (.iload 5, 2) := by decide +kernel
theorem dX5_splitInProportion_20 : decode cX5_splitInProportion 20 = .ok (.aload_n 0, 1) := by decide +kernel
theorem dX5_splitInProportion_21 : decode cX5_splitInProportion 21 = .ok (.getfield 9, 3) := by decide +kernel
theorem dX5_splitInProportion_24 : decode cX5_splitInProportion 24 = .ok (.arraylength, 1) := by decide +kernel
theorem dX5_splitInProportion_25 : decode cX5_splitInProportion 25 = .ok (.if_icmp .ge 57, 3) := by decide +kernel
theorem dX5_splitInProportion_28 : decode cX5_splitInProportion 28 = .ok (.iload_n 1, 1) := by decide +kernel
theorem dX5_splitInProportion_29 : decode cX5_splitInProportion 29 = .ok (.i2l, 1) := by decide +kernel
theorem dX5_splitInProportion_30 : decode cX5_splitInProportion 30 = .ok (.aload_n 0, 1) := by decide +kernel
theorem dX5_splitInProportion_31 : decode cX5_splitInProportion 31 = .ok (.getfield 9, 3) := by decide +kernel
theorem dX5_splitInProportion_34 : decode cX5_splitInProportion 34 = .ok (.iload 5, 2) := by decide +kernel
theorem dX5_splitInProportion_36 : decode cX5_splitInProportion 36 = .ok (.iaload, 1) := by decide +kernel
theorem dX5_splitInProportion_37 : decode cX5_splitInProportion 37 = .ok (.i2l, 1) := by decide +kernel
theorem dX5_splitInProportion_38 : decode cX5_splitInProportion 38 = .ok (.lmul, 1) := by decide +kernel
theorem dX5_splitInProportion_39 : decode cX5_splitInProportion 39 = .ok (.lstore 6, 2) := by decide +kernel
theorem dX5_splitInProportion_41 : decode cX5_splitInProportion 41 = .ok (.aload_n 0, 1) := by decide +kernel
theorem dX5_splitInProportion_42 : decode cX5_splitInProportion 42 = .ok (.getfield 15, 3) := by decide +kernel
theorem dX5_splitInProportion_45 : decode cX5_splitInProportion 45 = .ok (.iload 5, 2) := by decide +kernel
theorem dX5_splitInProportion_47 : decode cX5_splitInProportion 47 = .ok (.lload 6, 2) := by decide +kernel
theorem dX5_splitInProportion_49 : decode cX5_splitInProportion 49 = .ok (.lload_n 2, 1) := by decide +kernel
theorem dX5_splitInProportion_50 : decode cX5_splitInProportion 50 = .ok (.ldiv, 1) := by decide +kernel
theorem dX5_splitInProportion_51 : decode cX5_splitInProportion 51 = .ok (.l2i, 1) := by decide +kernel
theorem dX5_splitInProportion_52 : decode cX5_splitInProportion 52 = .ok (.iastore, 1) := by decide +kernel
theorem dX5_splitInProportion_53 : decode cX5_splitInProportion 53 = .ok (.aload_n 0, 1) := by decide +kernel
theorem dX5_splitInProportion_54 : decode cX5_splitInProportion 54 = .ok (.getfield 18, 3) := by decide +kernel
theorem dX5_splitInProportion_57 : decode cX5_splitInProportion 57 = .ok (.iload 5, 2) := by decide +kernel
theorem dX5_splitInProportion_59 : decode cX5_splitInProportion 59 = .ok (.lload 6, 2) := by decide +kernel
theorem dX5_splitInProportion_61 : decode cX5_splitInProportion 61 = .ok (.lload_n 2, 1) := by decide +kernel
theorem dX5_splitInProportion_62 : decode cX5_splitInProportion 62 = .ok (.lrem, 1) := by decide +kernel
theorem dX5_splitInProportion_63 : decode cX5_splitInProportion 63 = .ok (.lastore, 1) := by decide +kernel
theorem dX5_splitInProportion_64 : decode cX5_splitInProportion 64 = .ok (.iload 4, 2) := by decide +kernel
theorem dX5_splitInProportion_66 : decode cX5_splitInProportion 66 = .ok (.aload_n 0, 1) := by decide +kernel
theorem dX5_splitInProportion_67 : decode cX5_splitInProportion 67 = .ok (.getfield 15, 3) := by decide +kernel
theorem dX5_splitInProportion_70 : decode cX5_splitInProportion 70 = .ok (.iload 5, 2) := by decide +kernel
theorem dX5_splitInProportion_72 : decode cX5_splitInProportion 72 = .ok (.iaload, 1) := by decide +kernel
theorem dX5_splitInProportion_73 : decode cX5_splitInProportion 73 = .ok (.isub, 1) := by decide +kernel
theorem dX5_splitInProportion_74 : decode cX5_splitInProportion 74 = .ok (.istore 4, 2) := by decide +kernel
theorem dX5_splitInProportion_76 : decode cX5_splitInProportion 76 = .ok (.iinc 5 1, 3) := by decide +kernel
theorem dX5_splitInProportion_79 : decode cX5_splitInProportion 79 = .ok (.goto (-61), 3) := by decide +kernel
theorem dX5_splitInProportion_82 : decode cX5_splitInProportion 82 = .ok (.iconst 0, 1) := by decide +kernel
theorem dX5_splitInProportion_83 : decode cX5_splitInProportion 83 = .ok (.istore 5, 2) := by decide +kernel
theorem dX5_splitInProportion_85 : decode cX5_splitInProportion 85 = .ok (.iload 5, 2) := by decide +kernel
theorem dX5_splitInProportion_87 : decode cX5_splitInProportion 87 = .ok (.iload 4, 2) := by decide +kernel
theorem dX5_splitInProportion_89 : decode cX5_splitInProportion 89 = .ok (.if_icmp .ge 13, 3) := by decide +kernel
theorem dX5_splitInProportion_92 : decode cX5_splitInProportion 92 = .ok (.aload_n 0, 1) := by decide +kernel
theorem dX5_splitInProportion_93 : decode cX5_splitInProportion 93 = .ok (.invokevirtual 45, 3) := by decide +kernel
theorem dX5_splitInProportion_96 : decode cX5_splitInProportion 96 = .ok (.iinc 5 1, 3) := by decide +kernel
theorem dX5_splitInProportion_99 : decode cX5_splitInProportion 99 = .ok (.goto (-14), 3) := by decide +kernel
theorem dX5_splitInProportion_102 : decode cX5_splitInProportion 102 = .ok (.return_, 1) := by decide +kernel
theorem dX5_giveCentToGreatestRemainder_0 : decode cX5_giveCentToGreatestRemainder 0 = .ok (.iconst (-1), 1) := by decide +kernel
theorem dX5_giveCentToGreatestRemainder_1 : decode cX5_giveCentToGreatestRemainder 1 = .ok (.istore_n 1, 1) := by decide +kernel
theorem dX5_giveCentToGreatestRemainder_2 : decode cX5_giveCentToGreatestRemainder 2 = .ok (.lconst 0, 1) := by decide +kernel
theorem dX5_giveCentToGreatestRemainder_3 : decode cX5_giveCentToGreatestRemainder 3 = .ok (.lstore_n 2, 1) := by decide +kernel
theorem dX5_giveCentToGreatestRemainder_4 : decode cX5_giveCentToGreatestRemainder 4 = .ok (.iconst 0, 1) := by decide +kernel
theorem dX5_giveCentToGreatestRemainder_5 : decode cX5_giveCentToGreatestRemainder 5 = .ok (.istore 4, 2) := by decide +kernel
theorem dX5_giveCentToGreatestRemainder_7 : decode cX5_giveCentToGreatestRemainder 7 = .ok (.iload 4, 2) := by decide +kernel
theorem dX5_giveCentToGreatestRemainder_9 : decode cX5_giveCentToGreatestRemainder 9 = .ok (.aload_n 0, 1) := by decide +kernel
theorem dX5_giveCentToGreatestRemainder_10 : decode cX5_giveCentToGreatestRemainder 10 = .ok (.getfield 18, 3) := by decide +kernel
theorem dX5_giveCentToGreatestRemainder_13 : decode cX5_giveCentToGreatestRemainder 13 = .ok (.arraylength, 1) := by decide +kernel
theorem dX5_giveCentToGreatestRemainder_14 : decode cX5_giveCentToGreatestRemainder 14 = .ok (.if_icmp .ge 32, 3) := by decide +kernel
theorem dX5_giveCentToGreatestRemainder_17 : decode cX5_giveCentToGreatestRemainder 17 = .ok (.aload_n 0, 1) := by decide +kernel
theorem dX5_giveCentToGreatestRemainder_18 : decode cX5_giveCentToGreatestRemainder 18 = .ok (.getfield 18, 3) := by decide +kernel
theorem dX5_giveCentToGreatestRemainder_21 : decode cX5_giveCentToGreatestRemainder 21 = .ok (.iload 4, 2) := by decide +kernel
theorem dX5_giveCentToGreatestRemainder_23 : decode cX5_giveCentToGreatestRemainder 23 = .ok (.laload, 1) := by decide +kernel
theorem dX5_giveCentToGreatestRemainder_24 : decode cX5_giveCentToGreatestRemainder 24 = .ok (.lload_n 2, 1) := by decide +kernel
theorem dX5_giveCentToGreatestRemainder_25 : decode cX5_giveCentToGreatestRemainder 25 = .ok (.lcmp, 1) := by decide +kernel
theorem dX5_giveCentToGreatestRemainder_26 : decode cX5_giveCentToGreatestRemainder 26 = .ok (.ifCond .le 14, 3) := by decide +kernel
theorem dX5_giveCentToGreatestRemainder_29 : decode cX5_giveCentToGreatestRemainder 29 = .ok (.iload 4, 2) := by decide +kernel
theorem dX5_giveCentToGreatestRemainder_31 : decode cX5_giveCentToGreatestRemainder 31 = .ok (.istore_n 1, 1) := by decide +kernel
theorem dX5_giveCentToGreatestRemainder_32 : decode cX5_giveCentToGreatestRemainder 32 = .ok (.aload_n 0, 1) := by decide +kernel
theorem dX5_giveCentToGreatestRemainder_33 : decode cX5_giveCentToGreatestRemainder 33 = .ok (.getfield 18, 3) := by decide +kernel
theorem dX5_giveCentToGreatestRemainder_36 : decode cX5_giveCentToGreatestRemainder 36 = .ok (.iload 4, 2) := by decide +kernel
theorem dX5_giveCentToGreatestRemainder_38 : decode cX5_giveCentToGreatestRemainder 38 = .ok (.laload, 1) := by decide +kernel
theorem dX5_giveCentToGreatestRemainder_39 : decode cX5_giveCentToGreatestRemainder 39 = .ok (.lstore_n 2, 1) := by decide +kernel
theorem dX5_giveCentToGreatestRemainder_40 : decode cX5_giveCentToGreatestRemainder 40 = .ok (.iinc 4 1, 3) := by decide +kernel
theorem dX5_giveCentToGreatestRemainder_43 : decode cX5_giveCentToGreatestRemainder 43 = .ok (.goto (-36), 3) := by decide +kernel
theorem dX5_giveCentToGreatestRemainder_46 : decode cX5_giveCentToGreatestRemainder 46 = .ok (.iload_n 1, 1) := by decide +kernel
theorem dX5_giveCentToGreatestRemainder_47 : decode cX5_giveCentToGreatestRemainder 47 = .ok (.ifCond .lt 20, 3) := by decide +kernel
theorem dX5_giveCentToGreatestRemainder_50 : decode cX5_giveCentToGreatestRemainder 50 = .ok (.aload_n 0, 1) := by decide +kernel
theorem dX5_giveCentToGreatestRemainder_51 : decode cX5_giveCentToGreatestRemainder 51 = .ok (.getfield 15, 3) := by decide +kernel
theorem dX5_giveCentToGreatestRemainder_54 : decode cX5_giveCentToGreatestRemainder 54 = .ok (.iload_n 1, 1) := by decide +kernel
theorem dX5_giveCentToGreatestRemainder_55 : decode cX5_giveCentToGreatestRemainder 55 = .ok (.dup2, 1) := by decide +kernel
theorem dX5_giveCentToGreatestRemainder_56 : decode cX5_giveCentToGreatestRemainder 56 = .ok (.iaload, 1) := by decide +kernel
theorem dX5_giveCentToGreatestRemainder_57 : decode cX5_giveCentToGreatestRemainder 57 = .ok (.iconst 1, 1) := by decide +kernel
theorem dX5_giveCentToGreatestRemainder_58 : decode cX5_giveCentToGreatestRemainder 58 = .ok (.iadd, 1) := by decide +kernel
theorem dX5_giveCentToGreatestRemainder_59 : decode cX5_giveCentToGreatestRemainder 59 = .ok (.iastore, 1) := by decide +kernel
theorem dX5_giveCentToGreatestRemainder_60 : decode cX5_giveCentToGreatestRemainder 60 = .ok (.aload_n 0, 1) := by decide +kernel
theorem dX5_giveCentToGreatestRemainder_61 : decode cX5_giveCentToGreatestRemainder 61 = .ok (.getfield 18, 3) := by decide +kernel
theorem dX5_giveCentToGreatestRemainder_64 : decode cX5_giveCentToGreatestRemainder 64 = .ok (.iload_n 1, 1) := by decide +kernel
theorem dX5_giveCentToGreatestRemainder_65 : decode cX5_giveCentToGreatestRemainder 65 = .ok (.lconst 0, 1) := by decide +kernel
theorem dX5_giveCentToGreatestRemainder_66 : decode cX5_giveCentToGreatestRemainder 66 = .ok (.lastore, 1) := by decide +kernel
theorem dX5_giveCentToGreatestRemainder_67 : decode cX5_giveCentToGreatestRemainder 67 = .ok (.return_, 1) := by decide +kernel
theorem dJ9_max_7cf53_0 : decode cJ9_max_7cf53 0 = .ok (.iload_n 0, 1) := by decide +kernel
theorem dJ9_max_7cf53_1 : decode cJ9_max_7cf53 1 = .ok (.iload_n 1, 1) := by decide +kernel
theorem dJ9_max_7cf53_2 : decode cJ9_max_7cf53 2 = .ok (.if_icmp .lt 7, 3) := by decide +kernel
theorem dJ9_max_7cf53_5 : decode cJ9_max_7cf53 5 = .ok (.iload_n 0, 1) := by decide +kernel
theorem dJ9_max_7cf53_6 : decode cJ9_max_7cf53 6 = .ok (.goto 4, 3) := by decide +kernel
theorem dJ9_max_7cf53_9 : decode cJ9_max_7cf53 9 = .ok (.iload_n 1, 1) := by decide +kernel
theorem dJ9_max_7cf53_10 : decode cJ9_max_7cf53 10 = .ok (.ireturn, 1) := by decide +kernel
theorem dJ9_min_7cf53_0 : decode cJ9_min_7cf53 0 = .ok (.iload_n 0, 1) := by decide +kernel
theorem dJ9_min_7cf53_1 : decode cJ9_min_7cf53 1 = .ok (.iload_n 1, 1) := by decide +kernel
theorem dJ9_min_7cf53_2 : decode cJ9_min_7cf53 2 = .ok (.if_icmp .gt 7, 3) := by decide +kernel
theorem dJ9_min_7cf53_5 : decode cJ9_min_7cf53 5 = .ok (.iload_n 0, 1) := by decide +kernel
theorem dJ9_min_7cf53_6 : decode cJ9_min_7cf53 6 = .ok (.goto 4, 3) := by decide +kernel
theorem dJ9_min_7cf53_9 : decode cJ9_min_7cf53 9 = .ok (.iload_n 1, 1) := by decide +kernel
theorem dJ9_min_7cf53_10 : decode cJ9_min_7cf53 10 = .ok (.ireturn, 1) := by decide +kernel
theorem dJ9_min_f86c9_0 : decode cJ9_min_f86c9 0 = .ok (.lload_n 0, 1) := by decide +kernel
theorem dJ9_min_f86c9_1 : decode cJ9_min_f86c9 1 = .ok (.lload_n 2, 1) := by decide +kernel
theorem dJ9_min_f86c9_2 : decode cJ9_min_f86c9 2 = .ok (.lcmp, 1) := by decide +kernel
theorem dJ9_min_f86c9_3 : decode cJ9_min_f86c9 3 = .ok (.ifCond .gt 7, 3) := by decide +kernel
theorem dJ9_min_f86c9_6 : decode cJ9_min_f86c9 6 = .ok (.lload_n 0, 1) := by decide +kernel
theorem dJ9_min_f86c9_7 : decode cJ9_min_f86c9 7 = .ok (.goto 4, 3) := by decide +kernel
theorem dJ9_min_f86c9_10 : decode cJ9_min_f86c9 10 = .ok (.lload_n 2, 1) := by decide +kernel
theorem dJ9_min_f86c9_11 : decode cJ9_min_f86c9 11 = .ok (.lreturn, 1) := by decide +kernel
theorem dJxa1e45_init_da8c8_0 : decode cJxa1e45_init_da8c8 0 = .ok (.aload_n 0, 1) := by decide +kernel
theorem dJxa1e45_init_da8c8_1 : decode cJxa1e45_init_da8c8 1 = .ok (.invokespecial 1, 3) := by decide +kernel
theorem dJxa1e45_init_da8c8_4 : decode cJxa1e45_init_da8c8 4 = .ok (.return_, 1) := by decide +kernel
theorem dJxc12de_init_da8c8_0 : decode cJxc12de_init_da8c8 0 = .ok (.aload_n 0, 1) := by decide +kernel
theorem dJxc12de_init_da8c8_1 : decode cJxc12de_init_da8c8 1 = .ok (.invokespecial 1, 3) := by decide +kernel
theorem dJxc12de_init_da8c8_4 : decode cJxc12de_init_da8c8 4 = .ok (.aload_n 0, 1) := by decide +kernel
theorem dJxc12de_init_da8c8_5 : decode cJxc12de_init_da8c8 5 = .ok (.iconst 0, 1) := by decide +kernel
theorem dJxc12de_init_da8c8_6 : decode cJxc12de_init_da8c8 6 = .ok (.putfield 7, 3) := by decide +kernel
theorem dJxc12de_init_da8c8_9 : decode cJxc12de_init_da8c8 9 = .ok (.return_, 1) := by decide +kernel
theorem dJx4a65c_init_da8c8_0 : decode cJx4a65c_init_da8c8 0 = .ok (.aload_n 0, 1) := by decide +kernel
theorem dJx4a65c_init_da8c8_1 : decode cJx4a65c_init_da8c8 1 = .ok (.invokespecial 1, 3) := by decide +kernel
theorem dJx4a65c_init_da8c8_4 : decode cJx4a65c_init_da8c8 4 = .ok (.aload_n 0, 1) := by decide +kernel
theorem dJx4a65c_init_da8c8_5 : decode cJx4a65c_init_da8c8 5 = .ok (.getstatic 39, 3) := by decide +kernel
theorem dJx4a65c_init_da8c8_8 : decode cJx4a65c_init_da8c8 8 = .ok (.putfield 9, 3) := by decide +kernel
theorem dJx4a65c_init_da8c8_11 : decode cJx4a65c_init_da8c8 11 = .ok (.return_, 1) := by decide +kernel
theorem dJx4a65c_grow_92f84_0 : decode cJx4a65c_grow_92f84 0 = .ok (.aload_n 0, 1) := by decide +kernel
theorem dJx4a65c_grow_92f84_1 : decode cJx4a65c_grow_92f84 1 = .ok (.getfield 9, 3) := by decide +kernel
theorem dJx4a65c_grow_92f84_4 : decode cJx4a65c_grow_92f84 4 = .ok (.arraylength, 1) := by decide +kernel
theorem dJx4a65c_grow_92f84_5 : decode cJx4a65c_grow_92f84 5 = .ok (.istore_n 2, 1) := by decide +kernel
theorem dJx4a65c_grow_92f84_6 : decode cJx4a65c_grow_92f84 6 = .ok (.iload_n 2, 1) := by decide +kernel
theorem dJx4a65c_grow_92f84_7 : decode cJx4a65c_grow_92f84 7 = .ok (.ifCond .gt 13, 3) := by decide +kernel
theorem dJx4a65c_grow_92f84_10 : decode cJx4a65c_grow_92f84 10 = .ok (.aload_n 0, 1) := by decide +kernel
theorem dJx4a65c_grow_92f84_11 : decode cJx4a65c_grow_92f84 11 = .ok (.getfield 9, 3) := by decide +kernel
theorem dJx4a65c_grow_92f84_14 : decode cJx4a65c_grow_92f84 14 = .ok (.getstatic 39, 3) := by decide +kernel
theorem dJx4a65c_grow_92f84_17 : decode cJx4a65c_grow_92f84 17 = .ok (.if_acmp .eq 28, 3) := by decide +kernel
theorem dJx4a65c_grow_92f84_20 : decode cJx4a65c_grow_92f84 20 = .ok (.iload_n 2, 1) := by decide +kernel
theorem dJx4a65c_grow_92f84_21 : decode cJx4a65c_grow_92f84 21 = .ok (.iload_n 1, 1) := by decide +kernel
theorem dJx4a65c_grow_92f84_22 : decode cJx4a65c_grow_92f84 22 = .ok (.iload_n 2, 1) := by decide +kernel
theorem dJx4a65c_grow_92f84_23 : decode cJx4a65c_grow_92f84 23 = .ok (.isub, 1) := by decide +kernel
theorem dJx4a65c_grow_92f84_24 : decode cJx4a65c_grow_92f84 24 = .ok (.iload_n 2, 1) := by decide +kernel
theorem dJx4a65c_grow_92f84_25 : decode cJx4a65c_grow_92f84 25 = .ok (.iconst 1, 1) := by decide +kernel
theorem dJx4a65c_grow_92f84_26 : decode cJx4a65c_grow_92f84 26 = .ok (.ishr, 1) := by decide +kernel
theorem dJx4a65c_grow_92f84_27 : decode cJx4a65c_grow_92f84 27 = .ok (.invokestatic 73, 3) := by decide +kernel
theorem dJx4a65c_grow_92f84_30 : decode cJx4a65c_grow_92f84 30 = .ok (.istore_n 3, 1) := by decide +kernel
theorem dJx4a65c_grow_92f84_31 : decode cJx4a65c_grow_92f84 31 = .ok (.aload_n 0, 1) := by decide +kernel
theorem dJx4a65c_grow_92f84_32 : decode cJx4a65c_grow_92f84 32 = .ok (.aload_n 0, 1) := by decide +kernel
theorem dJx4a65c_grow_92f84_33 : decode cJx4a65c_grow_92f84 33 = .ok (.getfield 9, 3) := by decide +kernel
theorem dJx4a65c_grow_92f84_36 : decode cJx4a65c_grow_92f84 36 = .ok (.iload_n 3, 1) := by decide +kernel
theorem dJx4a65c_grow_92f84_37 : decode cJx4a65c_grow_92f84 37 = .ok (.invokestatic 66, 3) := by decide +kernel
theorem dJx4a65c_grow_92f84_40 : decode cJx4a65c_grow_92f84 40 = .ok (.dup_x1, 1) := by decide +kernel
theorem dJx4a65c_grow_92f84_41 : decode cJx4a65c_grow_92f84 41 = .ok (.putfield 9, 3) := by decide +kernel
theorem dJx4a65c_grow_92f84_44 : decode cJx4a65c_grow_92f84 44 = .ok (.areturn, 1) := by decide +kernel
theorem dJx4a65c_grow_92f84_45 : decode cJx4a65c_grow_92f84 45 = .ok (.aload_n 0, 1) := by decide +kernel
theorem dJx4a65c_grow_92f84_46 : decode cJx4a65c_grow_92f84 46 = .ok (.bipush 10, 2) := by decide +kernel
theorem dJx4a65c_grow_92f84_48 : decode cJx4a65c_grow_92f84 48 = .ok (.iload_n 1, 1) := by decide +kernel
theorem dJx4a65c_grow_92f84_49 : decode cJx4a65c_grow_92f84 49 = .ok (.invokestatic 79, 3) := by decide +kernel
theorem dJx4a65c_grow_92f84_52 : decode cJx4a65c_grow_92f84 52 = .ok (.anewarray 7, 3) := by decide +kernel
theorem dJx4a65c_grow_92f84_55 : decode cJx4a65c_grow_92f84 55 = .ok (.dup_x1, 1) := by decide +kernel
theorem dJx4a65c_grow_92f84_56 : decode cJx4a65c_grow_92f84 56 = .ok (.putfield 9, 3) := by decide +kernel
theorem dJx4a65c_grow_92f84_59 : decode cJx4a65c_grow_92f84 59 = .ok (.areturn, 1) := by decide +kernel
theorem dJx4a65c_grow_d5877_0 : decode cJx4a65c_grow_d5877 0 = .ok (.aload_n 0, 1) := by decide +kernel
theorem dJx4a65c_grow_d5877_1 : decode cJx4a65c_grow_d5877 1 = .ok (.aload_n 0, 1) := by decide +kernel
theorem dJx4a65c_grow_d5877_2 : decode cJx4a65c_grow_d5877 2 = .ok (.getfield 48, 3) := by decide +kernel
theorem dJx4a65c_grow_d5877_5 : decode cJx4a65c_grow_d5877 5 = .ok (.iconst 1, 1) := by decide +kernel
theorem dJx4a65c_grow_d5877_6 : decode cJx4a65c_grow_d5877 6 = .ok (.iadd, 1) := by decide +kernel
theorem dJx4a65c_grow_d5877_7 : decode cJx4a65c_grow_d5877 7 = .ok (.invokevirtual 69, 3) := by decide +kernel
theorem dJx4a65c_grow_d5877_10 : decode cJx4a65c_grow_d5877 10 = .ok (.areturn, 1) := by decide +kernel
theorem dJx4a65c_size_8abf5_0 : decode cJx4a65c_size_8abf5 0 = .ok (.aload_n 0, 1) := by decide +kernel
theorem dJx4a65c_size_8abf5_1 : decode cJx4a65c_size_8abf5 1 = .ok (.getfield 48, 3) := by decide +kernel
theorem dJx4a65c_size_8abf5_4 : decode cJx4a65c_size_8abf5 4 = .ok (.ireturn, 1) := by decide +kernel
theorem dJx4a65c_elementData_915e3_0 : decode cJx4a65c_elementData_915e3 0 = .ok (.aload_n 0, 1) := by decide +kernel
theorem dJx4a65c_elementData_915e3_1 : decode cJx4a65c_elementData_915e3 1 = .ok (.getfield 9, 3) := by decide +kernel
theorem dJx4a65c_elementData_915e3_4 : decode cJx4a65c_elementData_915e3 4 = .ok (.iload_n 1, 1) := by decide +kernel
theorem dJx4a65c_elementData_915e3_5 : decode cJx4a65c_elementData_915e3 5 = .ok (.aaload, 1) := by decide +kernel
theorem dJx4a65c_elementData_915e3_6 : decode cJx4a65c_elementData_915e3 6 = .ok (.areturn, 1) := by decide +kernel
theorem dJx4a65c_get_915e3_0 : decode cJx4a65c_get_915e3 0 = .ok (.iload_n 1, 1) := by decide +kernel
theorem dJx4a65c_get_915e3_1 : decode cJx4a65c_get_915e3 1 = .ok (.aload_n 0, 1) := by decide +kernel
theorem dJx4a65c_get_915e3_2 : decode cJx4a65c_get_915e3 2 = .ok (.getfield 48, 3) := by decide +kernel
theorem dJx4a65c_get_915e3_5 : decode cJx4a65c_get_915e3 5 = .ok (.invokestatic 118, 3) := by decide +kernel
theorem dJx4a65c_get_915e3_8 : decode cJx4a65c_get_915e3 8 = .ok (.pop, 1) := by decide +kernel
theorem dJx4a65c_get_915e3_9 : decode cJx4a65c_get_915e3 9 = .ok (.aload_n 0, 1) := by decide +kernel
theorem dJx4a65c_get_915e3_10 : decode cJx4a65c_get_915e3 10 = .ok (.iload_n 1, 1) := by decide +kernel
theorem dJx4a65c_get_915e3_11 : decode cJx4a65c_get_915e3 11 = .ok (.invokevirtual 123, 3) := by decide +kernel
theorem dJx4a65c_get_915e3_14 : decode cJx4a65c_get_915e3 14 = .ok (.areturn, 1) := by decide +kernel
theorem dJx4a65c_add_72be8_0 : decode cJx4a65c_add_72be8 0 = .ok (.iload_n 3, 1) := by decide +kernel
theorem dJx4a65c_add_72be8_1 : decode cJx4a65c_add_72be8 1 = .ok (.aload_n 2, 1) := by decide +kernel
theorem dJx4a65c_add_72be8_2 : decode cJx4a65c_add_72be8 2 = .ok (.arraylength, 1) := by decide +kernel
theorem dJx4a65c_add_72be8_3 : decode cJx4a65c_add_72be8 3 = .ok (.if_icmp .ne 8, 3) := by decide +kernel
theorem dJx4a65c_add_72be8_6 : decode cJx4a65c_add_72be8 6 = .ok (.aload_n 0, 1) := by decide +kernel
theorem dJx4a65c_add_72be8_7 : decode cJx4a65c_add_72be8 7 = .ok (.invokevirtual 129, 3) := by decide +kernel
theorem dJx4a65c_add_72be8_10 : decode cJx4a65c_add_72be8 10 = .ok (.astore_n 2, 1) := by decide +kernel
theorem dJx4a65c_add_72be8_11 : decode cJx4a65c_add_72be8 11 = .ok (.aload_n 2, 1) := by decide +kernel
theorem dJx4a65c_add_72be8_12 : decode cJx4a65c_add_72be8 12 = .ok (.iload_n 3, 1) := by decide +kernel
theorem dJx4a65c_add_72be8_13 : decode cJx4a65c_add_72be8 13 = .ok (.aload_n 1, 1) := by decide +kernel
theorem dJx4a65c_add_72be8_14 : decode cJx4a65c_add_72be8 14 = .ok (.aastore, 1) := by decide +kernel
theorem dJx4a65c_add_72be8_15 : decode cJx4a65c_add_72be8 15 = .ok (.aload_n 0, 1) := by decide +kernel
theorem dJx4a65c_add_72be8_16 : decode cJx4a65c_add_72be8 16 = .ok (.iload_n 3, 1) := by decide +kernel
theorem dJx4a65c_add_72be8_17 : decode cJx4a65c_add_72be8 17 = .ok (.iconst 1, 1) := by decide +kernel
theorem dJx4a65c_add_72be8_18 : decode cJx4a65c_add_72be8 18 = .ok (.iadd, 1) := by decide +kernel
theorem dJx4a65c_add_72be8_19 : decode cJx4a65c_add_72be8 19 = .ok (.putfield 48, 3) := by decide +kernel
theorem dJx4a65c_add_72be8_22 : decode cJx4a65c_add_72be8 22 = .ok (.return_, 1) := by decide +kernel
theorem dJx4a65c_add_9ea2d_0 : decode cJx4a65c_add_9ea2d 0 = .ok (.aload_n 0, 1) := by decide +kernel
theorem dJx4a65c_add_9ea2d_1 : decode cJx4a65c_add_9ea2d 1 = .ok (.dup, 1) := by decide +kernel
theorem dJx4a65c_add_9ea2d_2 : decode cJx4a65c_add_9ea2d 2 = .ok (.getfield 63, 3) := by decide +kernel
theorem dJx4a65c_add_9ea2d_5 : decode cJx4a65c_add_9ea2d 5 = .ok (.iconst 1, 1) := by decide +kernel
theorem dJx4a65c_add_9ea2d_6 : decode cJx4a65c_add_9ea2d 6 = .ok (.iadd, 1) := by decide +kernel
theorem dJx4a65c_add_9ea2d_7 : decode cJx4a65c_add_9ea2d 7 = .ok (.putfield 63, 3) := by decide +kernel
theorem dJx4a65c_add_9ea2d_10 : decode cJx4a65c_add_9ea2d 10 = .ok (.aload_n 0, 1) := by decide +kernel
theorem dJx4a65c_add_9ea2d_11 : decode cJx4a65c_add_9ea2d 11 = .ok (.aload_n 1, 1) := by decide +kernel
theorem dJx4a65c_add_9ea2d_12 : decode cJx4a65c_add_9ea2d 12 = .ok (.aload_n 0, 1) := by decide +kernel
theorem dJx4a65c_add_9ea2d_13 : decode cJx4a65c_add_9ea2d 13 = .ok (.getfield 9, 3) := by decide +kernel
theorem dJx4a65c_add_9ea2d_16 : decode cJx4a65c_add_9ea2d 16 = .ok (.aload_n 0, 1) := by decide +kernel
theorem dJx4a65c_add_9ea2d_17 : decode cJx4a65c_add_9ea2d 17 = .ok (.getfield 48, 3) := by decide +kernel
theorem dJx4a65c_add_9ea2d_20 : decode cJx4a65c_add_9ea2d 20 = .ok (.invokevirtual 131, 3) := by decide +kernel
theorem dJx4a65c_add_9ea2d_23 : decode cJx4a65c_add_9ea2d 23 = .ok (.iconst 1, 1) := by decide +kernel
theorem dJx4a65c_add_9ea2d_24 : decode cJx4a65c_add_9ea2d 24 = .ok (.ireturn, 1) := by decide +kernel
theorem dJ7_fill_53178_0 : decode cJ7_fill_53178 0 = .ok (.iconst 0, 1) := by decide +kernel
theorem dJ7_fill_53178_1 : decode cJ7_fill_53178 1 = .ok (.istore_n 2, 1) := by decide +kernel
theorem dJ7_fill_53178_2 : decode cJ7_fill_53178 2 = .ok (.aload_n 0, 1) := by decide +kernel
theorem dJ7_fill_53178_3 : decode cJ7_fill_53178 3 = .ok (.arraylength, 1) := by decide +kernel
theorem dJ7_fill_53178_4 : decode cJ7_fill_53178 4 = .ok (.istore_n 3, 1) := by decide +kernel
theorem dJ7_fill_53178_5 : decode cJ7_fill_53178 5 = .ok (.iload_n 2, 1) := by decide +kernel
theorem dJ7_fill_53178_6 : decode cJ7_fill_53178 6 = .ok (.iload_n 3, 1) := by decide +kernel
theorem dJ7_fill_53178_7 : decode cJ7_fill_53178 7 = .ok (.if_icmp .ge 13, 3) := by decide +kernel
theorem dJ7_fill_53178_10 : decode cJ7_fill_53178 10 = .ok (.aload_n 0, 1) := by decide +kernel
theorem dJ7_fill_53178_11 : decode cJ7_fill_53178 11 = .ok (.iload_n 2, 1) := by decide +kernel
theorem dJ7_fill_53178_12 : decode cJ7_fill_53178 12 = .ok (.iload_n 1, 1) := by decide +kernel
theorem dJ7_fill_53178_13 : decode cJ7_fill_53178 13 = .ok (.iastore, 1) := by decide +kernel
theorem dJ7_fill_53178_14 : decode cJ7_fill_53178 14 = .ok (.iinc 2 1, 3) := by decide +kernel
theorem dJ7_fill_53178_17 : decode cJ7_fill_53178 17 = .ok (.goto (-12), 3) := by decide +kernel
theorem dJ7_fill_53178_20 : decode cJ7_fill_53178 20 = .ok (.return_, 1) := by decide +kernel
theorem dJ7_copyOf_1904c_0 : decode cJ7_copyOf_1904c 0 = .ok (.aload_n 0, 1) := by decide +kernel
theorem dJ7_copyOf_1904c_1 : decode cJ7_copyOf_1904c 1 = .ok (.iload_n 1, 1) := by decide +kernel
theorem dJ7_copyOf_1904c_2 : decode cJ7_copyOf_1904c 2 = .ok (.aload_n 0, 1) := by decide +kernel
theorem dJ7_copyOf_1904c_3 : decode cJ7_copyOf_1904c 3 = .ok (.invokevirtual 86, 3) := by decide +kernel
theorem dJ7_copyOf_1904c_6 : decode cJ7_copyOf_1904c 6 = .ok (.invokestatic 300, 3) := by decide +kernel
theorem dJ7_copyOf_1904c_9 : decode cJ7_copyOf_1904c 9 = .ok (.areturn, 1) := by decide +kernel
theorem dJ7_copyOf_6403c_0 : decode cJ7_copyOf_6403c 0 = .ok (.aload_n 2, 1) := by decide +kernel
theorem dJ7_copyOf_6403c_1 : decode cJ7_copyOf_6403c 1 = .ok (.ldc 110, 2) := by decide +kernel
theorem dJ7_copyOf_6403c_3 : decode cJ7_copyOf_6403c 3 = .ok (.if_acmp .ne 10, 3) := by decide +kernel
theorem dJ7_copyOf_6403c_6 : decode cJ7_copyOf_6403c 6 = .ok (.iload_n 1, 1) := by decide +kernel
theorem dJ7_copyOf_6403c_7 : decode cJ7_copyOf_6403c 7 = .ok (.anewarray 2, 3) := by decide +kernel
theorem dJ7_copyOf_6403c_10 : decode cJ7_copyOf_6403c 10 = .ok (.goto 14, 3) := by decide +kernel
theorem dJ7_copyOf_6403c_13 : decode cJ7_copyOf_6403c 13 = .ok (.aload_n 2, 1) := by decide +kernel
theorem dJ7_copyOf_6403c_14 : decode cJ7_copyOf_6403c 14 = .ok (.invokevirtual 90, 3) := by decide +kernel
theorem dJ7_copyOf_6403c_17 : decode cJ7_copyOf_6403c 17 = .ok (.iload_n 1, 1) := by decide +kernel
theorem dJ7_copyOf_6403c_18 : decode cJ7_copyOf_6403c 18 = .ok (.invokestatic 95, 3) := by decide +kernel
theorem dJ7_copyOf_6403c_21 : decode cJ7_copyOf_6403c 21 = .ok (.checkcast 110, 3) := by decide +kernel
theorem dJ7_copyOf_6403c_24 : decode cJ7_copyOf_6403c 24 = .ok (.astore_n 3, 1) := by decide +kernel
theorem dJ7_copyOf_6403c_25 : decode cJ7_copyOf_6403c 25 = .ok (.aload_n 0, 1) := by decide +kernel
theorem dJ7_copyOf_6403c_26 : decode cJ7_copyOf_6403c 26 = .ok (.iconst 0, 1) := by decide +kernel
theorem dJ7_copyOf_6403c_27 : decode cJ7_copyOf_6403c 27 = .ok (.aload_n 3, 1) := by decide +kernel
theorem dJ7_copyOf_6403c_28 : decode cJ7_copyOf_6403c 28 = .ok (.iconst 0, 1) := by decide +kernel
theorem dJ7_copyOf_6403c_29 : decode cJ7_copyOf_6403c 29 = .ok (.aload_n 0, 1) := by decide +kernel
theorem dJ7_copyOf_6403c_30 : decode cJ7_copyOf_6403c 30 = .ok (.arraylength, 1) := by decide +kernel
theorem dJ7_copyOf_6403c_31 : decode cJ7_copyOf_6403c 31 = .ok (.iload_n 1, 1) := by decide +kernel
theorem dJ7_copyOf_6403c_32 : decode cJ7_copyOf_6403c 32 = .ok (.invokestatic 304, 3) := by decide +kernel
theorem dJ7_copyOf_6403c_35 : decode cJ7_copyOf_6403c 35 = .ok (.invokestatic 150, 3) := by decide +kernel
theorem dJ7_copyOf_6403c_38 : decode cJ7_copyOf_6403c 38 = .ok (.aload_n 3, 1) := by decide +kernel
theorem dJ7_copyOf_6403c_39 : decode cJ7_copyOf_6403c 39 = .ok (.areturn, 1) := by decide +kernel
theorem dJ7_copyOf_59c91_0 : decode cJ7_copyOf_59c91 0 = .ok (.iload_n 1, 1) := by decide +kernel
theorem dJ7_copyOf_59c91_1 : decode cJ7_copyOf_59c91 1 = .ok (.aload_n 0, 1) := by decide +kernel
theorem dJ7_copyOf_59c91_2 : decode cJ7_copyOf_59c91 2 = .ok (.arraylength, 1) := by decide +kernel
theorem dJ7_copyOf_59c91_3 : decode cJ7_copyOf_59c91 3 = .ok (.if_icmp .ne 11, 3) := by decide +kernel
theorem dJ7_copyOf_59c91_6 : decode cJ7_copyOf_59c91 6 = .ok (.aload_n 0, 1) := by decide +kernel
theorem dJ7_copyOf_59c91_7 : decode cJ7_copyOf_59c91 7 = .ok (.invokevirtual 316, 3) := by decide +kernel
theorem dJ7_copyOf_59c91_10 : decode cJ7_copyOf_59c91 10 = .ok (.checkcast 317, 3) := by decide +kernel
theorem dJ7_copyOf_59c91_13 : decode cJ7_copyOf_59c91 13 = .ok (.areturn, 1) := by decide +kernel
theorem dJ7_copyOf_59c91_14 : decode cJ7_copyOf_59c91 14 = .ok (.iload_n 1, 1) := by decide +kernel
theorem dJ7_copyOf_59c91_15 : decode cJ7_copyOf_59c91 15 = .ok (.newarray .int, 2) := by decide +kernel
theorem dJ7_copyOf_59c91_17 : decode cJ7_copyOf_59c91 17 = .ok (.astore_n 2, 1) := by decide +kernel
theorem dJ7_copyOf_59c91_18 : decode cJ7_copyOf_59c91 18 = .ok (.aload_n 0, 1) := by decide +kernel
theorem dJ7_copyOf_59c91_19 : decode cJ7_copyOf_59c91 19 = .ok (.iconst 0, 1) := by decide +kernel
theorem dJ7_copyOf_59c91_20 : decode cJ7_copyOf_59c91 20 = .ok (.aload_n 2, 1) := by decide +kernel
theorem dJ7_copyOf_59c91_21 : decode cJ7_copyOf_59c91 21 = .ok (.iconst 0, 1) := by decide +kernel
theorem dJ7_copyOf_59c91_22 : decode cJ7_copyOf_59c91 22 = .ok (.aload_n 0, 1) := by decide +kernel
theorem dJ7_copyOf_59c91_23 : decode cJ7_copyOf_59c91 23 = .ok (.arraylength, 1) := by decide +kernel
theorem dJ7_copyOf_59c91_24 : decode cJ7_copyOf_59c91 24 = .ok (.iload_n 1, 1) := by decide +kernel
theorem dJ7_copyOf_59c91_25 : decode cJ7_copyOf_59c91 25 = .ok (.invokestatic 304, 3) := by decide +kernel
theorem dJ7_copyOf_59c91_28 : decode cJ7_copyOf_59c91 28 = .ok (.invokestatic 150, 3) := by decide +kernel
theorem dJ7_copyOf_59c91_31 : decode cJ7_copyOf_59c91 31 = .ok (.aload_n 2, 1) := by decide +kernel
theorem dJ7_copyOf_59c91_32 : decode cJ7_copyOf_59c91 32 = .ok (.areturn, 1) := by decide +kernel
theorem dJ15_checkIndex_7cf53_0 : decode cJ15_checkIndex_7cf53 0 = .ok (.iload_n 0, 1) := by decide +kernel
theorem dJ15_checkIndex_7cf53_1 : decode cJ15_checkIndex_7cf53 1 = .ok (.iload_n 1, 1) := by decide +kernel
theorem dJ15_checkIndex_7cf53_2 : decode cJ15_checkIndex_7cf53 2 = .ok (.aconst_null, 1) := by decide +kernel
theorem dJ15_checkIndex_7cf53_3 : decode cJ15_checkIndex_7cf53 3 = .ok (.invokestatic 105, 3) := by decide +kernel
theorem dJ15_checkIndex_7cf53_6 : decode cJ15_checkIndex_7cf53 6 = .ok (.ireturn, 1) := by decide +kernel
theorem dJ8_newLength_cabcc_0 : decode cJ8_newLength_cabcc 0 = .ok (.iload_n 0, 1) := by decide +kernel
theorem dJ8_newLength_cabcc_1 : decode cJ8_newLength_cabcc 1 = .ok (.iload_n 1, 1) := by decide +kernel
theorem dJ8_newLength_cabcc_2 : decode cJ8_newLength_cabcc 2 = .ok (.iload_n 2, 1) := by decide +kernel
theorem dJ8_newLength_cabcc_3 : decode cJ8_newLength_cabcc 3 = .ok (.invokestatic 194, 3) := by decide +kernel
theorem dJ8_newLength_cabcc_6 : decode cJ8_newLength_cabcc 6 = .ok (.iadd, 1) := by decide +kernel
theorem dJ8_newLength_cabcc_7 : decode cJ8_newLength_cabcc 7 = .ok (.istore_n 3, 1) := by decide +kernel
theorem dJ8_newLength_cabcc_8 : decode cJ8_newLength_cabcc 8 = .ok (.iconst 0, 1) := by decide +kernel
theorem dJ8_newLength_cabcc_9 : decode cJ8_newLength_cabcc 9 = .ok (.iload_n 3, 1) := by decide +kernel
theorem dJ8_newLength_cabcc_10 : decode cJ8_newLength_cabcc 10 = .ok (.if_icmp .ge 11, 3) := by decide +kernel
theorem dJ8_newLength_cabcc_13 : decode cJ8_newLength_cabcc 13 = .ok (.iload_n 3, 1) := by decide +kernel
theorem dJ8_newLength_cabcc_14 : decode cJ8_newLength_cabcc 14 = .ok (.ldc 200, 2) := by decide +kernel
theorem dJ8_newLength_cabcc_16 : decode cJ8_newLength_cabcc 16 = .ok (.if_icmp .gt 5, 3) := by decide +kernel
theorem dJ8_newLength_cabcc_19 : decode cJ8_newLength_cabcc 19 = .ok (.iload_n 3, 1) := by decide +kernel
theorem dJ8_newLength_cabcc_20 : decode cJ8_newLength_cabcc 20 = .ok (.ireturn, 1) := by decide +kernel
theorem dJ8_newLength_cabcc_21 : decode cJ8_newLength_cabcc 21 = .ok (.iload_n 0, 1) := by decide +kernel
theorem dJ8_newLength_cabcc_22 : decode cJ8_newLength_cabcc 22 = .ok (.iload_n 1, 1) := by decide +kernel
theorem dJ8_newLength_cabcc_23 : decode cJ8_newLength_cabcc 23 = .ok (.invokestatic 201, 3) := by decide +kernel
theorem dJ8_newLength_cabcc_26 : decode cJ8_newLength_cabcc 26 = .ok (.ireturn, 1) := by decide +kernel
theorem dJ8_hugeLength_7cf53_0 : decode cJ8_hugeLength_7cf53 0 = .ok (.iload_n 0, 1) := by decide +kernel
theorem dJ8_hugeLength_7cf53_1 : decode cJ8_hugeLength_7cf53 1 = .ok (.iload_n 1, 1) := by decide +kernel
theorem dJ8_hugeLength_7cf53_2 : decode cJ8_hugeLength_7cf53 2 = .ok (.iadd, 1) := by decide +kernel
theorem dJ8_hugeLength_7cf53_3 : decode cJ8_hugeLength_7cf53 3 = .ok (.istore_n 2, 1) := by decide +kernel
theorem dJ8_hugeLength_7cf53_4 : decode cJ8_hugeLength_7cf53 4 = .ok (.iload_n 2, 1) := by decide +kernel
theorem dJ8_hugeLength_7cf53_5 : decode cJ8_hugeLength_7cf53 5 = .ok (.ifCond .ge 44, 3) := by decide +kernel
theorem dJ8_hugeLength_7cf53_8 : decode cJ8_hugeLength_7cf53 8 = .ok (.new 204, 3) := by decide +kernel
theorem dJ8_hugeLength_7cf53_11 : decode cJ8_hugeLength_7cf53 11 = .ok (.dup, 1) := by decide +kernel
theorem dJ8_hugeLength_7cf53_12 : decode cJ8_hugeLength_7cf53 12 = .ok (.new 89, 3) := by decide +kernel
theorem dJ8_hugeLength_7cf53_15 : decode cJ8_hugeLength_7cf53 15 = .ok (.dup, 1) := by decide +kernel
theorem dJ8_hugeLength_7cf53_16 : decode cJ8_hugeLength_7cf53 16 = .ok (.invokespecial 91, 3) := by decide +kernel
theorem dJ8_hugeLength_7cf53_19 : decode cJ8_hugeLength_7cf53 19 = .ok (.ldc 206, 2) := by decide +kernel
theorem dJ8_hugeLength_7cf53_21 : decode cJ8_hugeLength_7cf53 21 = .ok (.invokevirtual 94, 3) := by decide +kernel
theorem dJ8_hugeLength_7cf53_24 : decode cJ8_hugeLength_7cf53 24 = .ok (.iload_n 0, 1) := by decide +kernel
theorem dJ8_hugeLength_7cf53_25 : decode cJ8_hugeLength_7cf53 25 = .ok (.invokevirtual 98, 3) := by decide +kernel
theorem dJ8_hugeLength_7cf53_28 : decode cJ8_hugeLength_7cf53 28 = .ok (.ldc 208, 2) := by decide +kernel
theorem dJ8_hugeLength_7cf53_30 : decode cJ8_hugeLength_7cf53 30 = .ok (.invokevirtual 94, 3) := by decide +kernel
theorem dJ8_hugeLength_7cf53_33 : decode cJ8_hugeLength_7cf53 33 = .ok (.iload_n 1, 1) := by decide +kernel
theorem dJ8_hugeLength_7cf53_34 : decode cJ8_hugeLength_7cf53 34 = .ok (.invokevirtual 98, 3) := by decide +kernel
theorem dJ8_hugeLength_7cf53_37 : decode cJ8_hugeLength_7cf53 37 = .ok (.ldc 210, 2) := by decide +kernel
theorem dJ8_hugeLength_7cf53_39 : decode cJ8_hugeLength_7cf53 39 = .ok (.invokevirtual 94, 3) := by decide +kernel
theorem dJ8_hugeLength_7cf53_42 : decode cJ8_hugeLength_7cf53 42 = .ok (.invokevirtual 101, 3) := by decide +kernel
theorem dJ8_hugeLength_7cf53_45 : decode cJ8_hugeLength_7cf53 45 = .ok (.invokespecial 212, 3) := by decide +kernel
theorem dJ8_hugeLength_7cf53_48 : decode cJ8_hugeLength_7cf53 48 = .ok (.athrow, 1) := by decide +kernel
theorem dJ8_hugeLength_7cf53_49 : decode cJ8_hugeLength_7cf53 49 = .ok (.iload_n 2, 1) := by decide +kernel
theorem dJ8_hugeLength_7cf53_50 : decode cJ8_hugeLength_7cf53 50 = .ok (.ldc 200, 2) := by decide +kernel
theorem dJ8_hugeLength_7cf53_52 : decode cJ8_hugeLength_7cf53 52 = .ok (.if_icmp .gt 6, 3) := by decide +kernel
theorem dJ8_hugeLength_7cf53_55 : decode cJ8_hugeLength_7cf53 55 = .ok (.ldc 200, 2) := by decide +kernel
theorem dJ8_hugeLength_7cf53_57 : decode cJ8_hugeLength_7cf53 57 = .ok (.ireturn, 1) := by decide +kernel
theorem dJ8_hugeLength_7cf53_58 : decode cJ8_hugeLength_7cf53 58 = .ok (.iload_n 2, 1) := by decide +kernel
theorem dJ8_hugeLength_7cf53_59 : decode cJ8_hugeLength_7cf53 59 = .ok (.ireturn, 1) := by decide +kernel
theorem dJ3_checkIndex_8e157_0 : decode cJ3_checkIndex_8e157 0 = .ok (.iload_n 0, 1) := by decide +kernel
theorem dJ3_checkIndex_8e157_1 : decode cJ3_checkIndex_8e157 1 = .ok (.ifCond .lt 8, 3) := by decide +kernel
theorem dJ3_checkIndex_8e157_4 : decode cJ3_checkIndex_8e157 4 = .ok (.iload_n 0, 1) := by decide +kernel
theorem dJ3_checkIndex_8e157_5 : decode cJ3_checkIndex_8e157 5 = .ok (.iload_n 1, 1) := by decide +kernel
theorem dJ3_checkIndex_8e157_6 : decode cJ3_checkIndex_8e157 6 = .ok (.if_icmp .lt 10, 3) := by decide +kernel
theorem dJ3_checkIndex_8e157_9 : decode cJ3_checkIndex_8e157 9 = .ok (.aload_n 2, 1) := by decide +kernel
theorem dJ3_checkIndex_8e157_10 : decode cJ3_checkIndex_8e157 10 = .ok (.iload_n 0, 1) := by decide +kernel
theorem dJ3_checkIndex_8e157_11 : decode cJ3_checkIndex_8e157 11 = .ok (.iload_n 1, 1) := by decide +kernel
theorem dJ3_checkIndex_8e157_12 : decode cJ3_checkIndex_8e157 12 = .ok (.invokestatic 95, 3) := by decide +kernel
theorem dJ3_checkIndex_8e157_15 : decode cJ3_checkIndex_8e157 15 = .ok (.athrow, 1) := by decide +kernel
theorem dJ3_checkIndex_8e157_16 : decode cJ3_checkIndex_8e157 16 = .ok (.iload_n 0, 1) := by decide +kernel
theorem dJ3_checkIndex_8e157_17 : decode cJ3_checkIndex_8e157 17 = .ok (.ireturn, 1) := by decide +kernel
end
section
theorem dX6_init_0 : decode cX6_init 0 = .ok (.aload_n 0, 1) := by decide +kernel
theorem dX6_init_1 : decode cX6_init 1 = .ok (.invokespecial 1, 3) := by decide +kernel
theorem dX6_init_4 : decode cX6_init 4 = .ok (.aload_n 0, 1) := by decide +kernel
theorem dX6_init_5 : decode cX6_init 5 = .ok (.new 7, 3) := by decide +kernel
theorem dX6_init_8 : decode cX6_init 8 = .ok (.dup, 1) := by decide +kernel
theorem dX6_init_9 : decode cX6_init 9 = .ok (.invokespecial 9, 3) := by decide +kernel
theorem dX6_init_12 : decode cX6_init 12 = .ok (.putfield 10, 3) := by decide +kernel
theorem dX6_init_15 : decode cX6_init 15 = .ok (.aload_n 0, 1) := by decide +kernel
theorem dX6_init_16 : decode cX6_init 16 = .ok (.new 7, 3) := by decide +kernel
theorem dX6_init_19 : decode cX6_init 19 = .ok (.dup, 1) := by decide +kernel
theorem dX6_init_20 : decode cX6_init 20 = .ok (.invokespecial 9, 3) := by decide +kernel
theorem dX6_init_23 : decode cX6_init 23 = .ok (.putfield 16, 3) := by decide +kernel
theorem dX6_init_26 : decode cX6_init 26 = .ok (.aload_n 0, 1) := by decide +kernel
theorem dX6_init_27 : decode cX6_init 27 = .ok (.new 7, 3) := by decide +kernel
theorem dX6_init_30 : decode cX6_init 30 = .ok (.dup, 1) := by decide +kernel
theorem dX6_init_31 : decode cX6_init 31 = .ok (.invokespecial 9, 3) := by decide +kernel
theorem dX6_init_34 : decode cX6_init 34 = .ok (.putfield 19, 3) := by decide +kernel
theorem dX6_init_37 : decode cX6_init 37 = .ok (.aload_n 0, 1) := by decide +kernel
theorem dX6_init_38 : decode cX6_init 38 = .ok (.new 22, 3) := by decide +kernel
theorem dX6_init_41 : decode cX6_init 41 = .ok (.dup, 1) := by decide +kernel
theorem dX6_init_42 : decode cX6_init 42 = .ok (.invokespecial 24, 3) := by decide +kernel
theorem dX6_init_45 : decode cX6_init 45 = .ok (.putfield 25, 3) := by decide +kernel
theorem dX6_init_48 : decode cX6_init 48 = .ok (.aload_n 0, 1) := by decide +kernel
theorem dX6_init_49 : decode cX6_init 49 = .ok (.new 29, 3) := by decide +kernel
theorem dX6_init_52 : decode cX6_init 52 = .ok (.dup, 1) := by decide +kernel
theorem dX6_init_53 : decode cX6_init 53 = .ok (.invokespecial 31, 3) := by decide +kernel
theorem dX6_init_56 : decode cX6_init 56 = .ok (.putfield 32, 3) := by decide +kernel
theorem dX6_init_59 : decode cX6_init 59 = .ok (.aload_n 0, 1) := by decide +kernel
theorem dX6_init_60 : decode cX6_init 60 = .ok (.iconst 0, 1) := by decide +kernel
theorem dX6_init_61 : decode cX6_init 61 = .ok (.putfield 36, 3) := by decide +kernel
theorem dX6_init_64 : decode cX6_init 64 = .ok (.return_, 1) := by decide +kernel
theorem dX6_addCustomer_0 : decode cX6_addCustomer 0 = .ok (.iload_n 1, 1) := by decide +kernel
theorem dX6_addCustomer_1 : decode cX6_addCustomer 1 = .ok (.iconst 0, 1) := by decide +kernel
theorem dX6_addCustomer_2 : decode cX6_addCustomer 2 = .ok (.iconst 2, 1) := by decide +kernel
theorem dX6_addCustomer_3 : decode cX6_addCustomer 3 = .ok (.invokestatic 40, 3) := by decide +kernel
theorem dX6_addCustomer_6 : decode cX6_addCustomer 6 = .ok (.iload_n 2, 1) := by decide +kernel
theorem dX6_addCustomer_7 : decode cX6_addCustomer 7 = .ok (.iconst 0, 1) := by decide +kernel
theorem dX6_addCustomer_8 : decode cX6_addCustomer 8 = .ok (.iconst 2, 1) := by decide +kernel
theorem dX6_addCustomer_9 : decode cX6_addCustomer 9 = .ok (.invokestatic 40, 3) := by decide +kernel
theorem dX6_addCustomer_12 : decode cX6_addCustomer 12 = .ok (.iload_n 3, 1) := by decide +kernel
theorem dX6_addCustomer_13 : decode cX6_addCustomer 13 = .ok (.iconst 0, 1) := by decide +kernel
theorem dX6_addCustomer_14 : decode cX6_addCustomer 14 = .ok (.sipush 3000, 3) := by decide +kernel
theorem dX6_addCustomer_17 : decode cX6_addCustomer 17 = .ok (.invokestatic 40, 3) := by decide +kernel
theorem dX6_addCustomer_20 : decode cX6_addCustomer 20 = .ok (.aload_n 0, 1) := by decide +kernel
theorem dX6_addCustomer_21 : decode cX6_addCustomer 21 = .ok (.getfield 10, 3) := by decide +kernel
theorem dX6_addCustomer_24 : decode cX6_addCustomer 24 = .ok (.invokevirtual 44, 3) := by decide +kernel
theorem dX6_addCustomer_27 : decode cX6_addCustomer 27 = .ok (.bipush 6, 2) := by decide +kernel
theorem dX6_addCustomer_29 : decode cX6_addCustomer 29 = .ok (.invokestatic 48, 3) := by decide +kernel
theorem dX6_addCustomer_32 : decode cX6_addCustomer 32 = .ok (.aload_n 0, 1) := by decide +kernel
theorem dX6_addCustomer_33 : decode cX6_addCustomer 33 = .ok (.getfield 10, 3) := by decide +kernel
theorem dX6_addCustomer_36 : decode cX6_addCustomer 36 = .ok (.new 52, 3) := by decide +kernel
theorem dX6_addCustomer_39 : decode cX6_addCustomer 39 = .ok (.dup, 1) := by decide +kernel
theorem dX6_addCustomer_40 : decode cX6_addCustomer 40 = .ok (.iload_n 1, 1) := by decide +kernel
theorem dX6_addCustomer_41 : decode cX6_addCustomer 41 = .ok (.iload_n 2, 1) := by decide +kernel
theorem dX6_addCustomer_42 : decode cX6_addCustomer 42 = .ok (.iload_n 3, 1) := by decide +kernel
theorem dX6_addCustomer_43 : decode cX6_addCustomer 43 = .ok (.invokespecial 54, 3) := by decide +kernel
theorem dX6_addCustomer_46 : decode cX6_addCustomer 46 = .ok (.invokevirtual 56, 3) := by decide +kernel
theorem dX6_addCustomer_49 : decode cX6_addCustomer 49 = .ok (.pop, 1) := by decide +kernel
theorem dX6_addCustomer_50 : decode cX6_addCustomer 50 = .ok (.aload_n 0, 1) := by decide +kernel
theorem dX6_addCustomer_51 : decode cX6_addCustomer 51 = .ok (.getfield 10, 3) := by decide +kernel
theorem dX6_addCustomer_54 : decode cX6_addCustomer 54 = .ok (.invokevirtual 44, 3) := by decide +kernel
theorem dX6_addCustomer_57 : decode cX6_addCustomer 57 = .ok (.iconst 1, 1) := by decide +kernel
theorem dX6_addCustomer_58 : decode cX6_addCustomer 58 = .ok (.isub, 1) := by decide +kernel
theorem dX6_addCustomer_59 : decode cX6_addCustomer 59 = .ok (.ireturn, 1) := by decide +kernel
theorem dX6_setRule_0 : decode cX6_setRule 0 = .ok (.aload_n 0, 1) := by decide +kernel
theorem dX6_setRule_1 : decode cX6_setRule 1 = .ok (.iload_n 1, 1) := by decide +kernel
theorem dX6_setRule_2 : decode cX6_setRule 2 = .ok (.invokevirtual 60, 3) := by decide +kernel
theorem dX6_setRule_5 : decode cX6_setRule 5 = .ok (.astore_n 3, 1) := by decide +kernel
theorem dX6_setRule_6 : decode cX6_setRule 6 = .ok (.iload_n 2, 1) := by decide +kernel
theorem dX6_setRule_7 : decode cX6_setRule 7 = .ok (.iconst 0, 1) := by decide +kernel
theorem dX6_setRule_8 : decode cX6_setRule 8 = .ok (.iconst 2, 1) := by decide +kernel
theorem dX6_setRule_9 : decode cX6_setRule 9 = .ok (.invokestatic 40, 3) := by decide +kernel
theorem dX6_setRule_12 : decode cX6_setRule 12 = .ok (.aload_n 3, 1) := by decide +kernel
theorem dX6_setRule_13 : decode cX6_setRule 13 = .ok (.getfield 64, 3) := by decide +kernel
theorem dX6_setRule_16 : decode cX6_setRule 16 = .ok (.istore 4, 2) := by decide +kernel
theorem dX6_setRule_18 : decode cX6_setRule 18 = .ok (.aload_n 3, 1) := by decide +kernel
theorem dX6_setRule_19 : decode cX6_setRule 19 = .ok (.iload_n 2, 1) := by decide +kernel
theorem dX6_setRule_20 : decode cX6_setRule 20 = .ok (.putfield 64, 3) := by decide +kernel
theorem dX6_setRule_23 : decode cX6_setRule 23 = .ok (.iload 4, 2) := by decide +kernel
theorem dX6_setRule_25 : decode cX6_setRule 25 = .ok (.ireturn, 1) := by decide +kernel
theorem dX6_setRate_0 : decode cX6_setRate 0 = .ok (.aload_n 0, 1) := by decide +kernel
theorem dX6_setRate_1 : decode cX6_setRate 1 = .ok (.iload_n 1, 1) := by decide +kernel
theorem dX6_setRate_2 : decode cX6_setRate 2 = .ok (.invokevirtual 60, 3) := by decide +kernel
theorem dX6_setRate_5 : decode cX6_setRate 5 = .ok (.astore_n 3, 1) := by decide +kernel
theorem dX6_setRate_6 : decode cX6_setRate 6 = .ok (.iload_n 2, 1) := by decide +kernel
theorem dX6_setRate_7 : decode cX6_setRate 7 = .ok (.iconst 0, 1) := by decide +kernel
theorem dX6_setRate_8 : decode cX6_setRate 8 = .ok (.sipush 3000, 3) := by decide +kernel
theorem dX6_setRate_11 : decode cX6_setRate 11 = .ok (.invokestatic 40, 3) := by decide +kernel
theorem dX6_setRate_14 : decode cX6_setRate 14 = .ok (.aload_n 3, 1) := by decide +kernel
theorem dX6_setRate_15 : decode cX6_setRate 15 = .ok (.getfield 67, 3) := by decide +kernel
theorem dX6_setRate_18 : decode cX6_setRate 18 = .ok (.istore 4, 2) := by decide +kernel
theorem dX6_setRate_20 : decode cX6_setRate 20 = .ok (.aload_n 3, 1) := by decide +kernel
theorem dX6_setRate_21 : decode cX6_setRate 21 = .ok (.iload_n 2, 1) := by decide +kernel
theorem dX6_setRate_22 : decode cX6_setRate 22 = .ok (.putfield 67, 3) := by decide +kernel
theorem dX6_setRate_25 : decode cX6_setRate 25 = .ok (.iload 4, 2) := by decide +kernel
theorem dX6_setRate_27 : decode cX6_setRate 27 = .ok (.ireturn, 1) := by decide +kernel
theorem dX6_pauseReminders_0 : decode cX6_pauseReminders 0 = .ok (.aload_n 0, 1) := by decide +kernel
theorem dX6_pauseReminders_1 : decode cX6_pauseReminders 1 = .ok (.iload_n 1, 1) := by decide +kernel
theorem dX6_pauseReminders_2 : decode cX6_pauseReminders 2 = .ok (.invokevirtual 60, 3) := by decide +kernel
theorem dX6_pauseReminders_5 : decode cX6_pauseReminders 5 = .ok (.astore_n 3, 1) := by decide +kernel
theorem dX6_pauseReminders_6 : decode cX6_pauseReminders 6 = .ok (.iload_n 2, 1) := by decide +kernel
theorem dX6_pauseReminders_7 : decode cX6_pauseReminders 7 = .ok (.iconst 0, 1) := by decide +kernel
theorem dX6_pauseReminders_8 : decode cX6_pauseReminders 8 = .ok (.sipush 200, 3) := by decide +kernel
theorem dX6_pauseReminders_11 : decode cX6_pauseReminders 11 = .ok (.invokestatic 40, 3) := by decide +kernel
theorem dX6_pauseReminders_14 : decode cX6_pauseReminders 14 = .ok (.aload_n 3, 1) := by decide +kernel
theorem dX6_pauseReminders_15 : decode cX6_pauseReminders 15 = .ok (.aload_n 0, 1) := by decide +kernel
theorem dX6_pauseReminders_16 : decode cX6_pauseReminders 16 = .ok (.getfield 36, 3) := by decide +kernel
theorem dX6_pauseReminders_19 : decode cX6_pauseReminders 19 = .ok (.iload_n 2, 1) := by decide +kernel
theorem dX6_pauseReminders_20 : decode cX6_pauseReminders 20 = .ok (.iadd, 1) := by decide +kernel
theorem dX6_pauseReminders_21 : decode cX6_pauseReminders 21 = .ok (.putfield 70, 3) := by decide +kernel
theorem dX6_pauseReminders_24 : decode cX6_pauseReminders 24 = .ok (.aload_n 3, 1) := by decide +kernel
theorem dX6_pauseReminders_25 : decode cX6_pauseReminders 25 = .ok (.getfield 70, 3) := by decide +kernel
theorem dX6_pauseReminders_28 : decode cX6_pauseReminders 28 = .ok (.ireturn, 1) := by decide +kernel
theorem dX6_today_0 : decode cX6_today 0 = .ok (.aload_n 0, 1) := by decide +kernel
theorem dX6_today_1 : decode cX6_today 1 = .ok (.getfield 36, 3) := by decide +kernel
theorem dX6_today_4 : decode cX6_today 4 = .ok (.ireturn, 1) := by decide +kernel
theorem dX6_passDays_0 : decode cX6_passDays 0 = .ok (.iload_n 1, 1) := by decide +kernel
theorem dX6_passDays_1 : decode cX6_passDays 1 = .ok (.iconst 1, 1) := by decide +kernel
theorem dX6_passDays_2 : decode cX6_passDays 2 = .ok (.sipush 400, 3) := by decide +kernel
theorem dX6_passDays_5 : decode cX6_passDays 5 = .ok (.invokestatic 40, 3) := by decide +kernel
theorem dX6_passDays_8 : decode cX6_passDays 8 = .ok (.aload_n 0, 1) := by decide +kernel
theorem dX6_passDays_9 : decode cX6_passDays 9 = .ok (.getfield 36, 3) := by decide +kernel
theorem dX6_passDays_12 : decode cX6_passDays 12 = .ok (.iload_n 1, 1) := by decide +kernel
theorem dX6_passDays_13 : decode cX6_passDays 13 = .ok (.iadd, 1) := by decide +kernel
theorem dX6_passDays_14 : decode cX6_passDays 14 = .ok (.sipush 1460, 3) := by decide +kernel
theorem dX6_passDays_17 : decode cX6_passDays 17 = .ok (.if_icmp .gt 7, 3) := by decide +kernel
theorem dX6_passDays_20 : decode cX6_passDays 20 = .ok (.iconst 1, 1) := by decide +kernel
theorem dX6_passDays_21 : decode cX6_passDays 21 = .ok (.goto 4, 3) := by decide +kernel
theorem dX6_passDays_24 : decode cX6_passDays 24 = .ok (.iconst 0, 1) := by decide +kernel
theorem dX6_passDays_25 : decode cX6_passDays 25 = .ok (.invokestatic 73, 3) := by decide +kernel
theorem dX6_passDays_28 : decode cX6_passDays 28 = .ok (.iconst 0, 1) := by decide +kernel
theorem dX6_passDays_29 : decode cX6_passDays 29 = .ok (.istore_n 2, 1) := by decide +kernel
theorem dX6_passDays_30 : decode cX6_passDays 30 = .ok (.iload_n 2, 1) := by decide +kernel
theorem dX6_passDays_31 : decode cX6_passDays 31 = .ok (.iload_n 1, 1) := by decide +kernel
theorem dX6_passDays_32 : decode cX6_passDays 32 = .ok (.if_icmp .ge 13, 3) := by decide +kernel
theorem dX6_passDays_35 : decode cX6_passDays 35 = .ok (.aload_n 0, 1) := by decide +kernel
theorem dX6_passDays_36 : decode cX6_passDays 36 = .ok (.invokevirtual 77, 3) := by decide +kernel
theorem dX6_passDays_39 : decode cX6_passDays 39 = .ok (.iinc 2 1, 3) := by decide +kernel
theorem dX6_passDays_42 : decode cX6_passDays 42 = .ok (.goto (-12), 3) := by decide +kernel
theorem dX6_passDays_45 : decode cX6_passDays 45 = .ok (.aload_n 0, 1) := by decide +kernel
theorem dX6_passDays_46 : decode cX6_passDays 46 = .ok (.getfield 36, 3) := by decide +kernel
theorem dX6_passDays_49 : decode cX6_passDays 49 = .ok (.ireturn, 1) := by decide +kernel
theorem dX6_countDays_0 : decode cX6_countDays 0 = .ok (.iload_n 1, 1) := by decide +kernel
theorem dX6_countDays_1 : decode cX6_countDays 1 = .ok (.iconst 0, 1) := by decide +kernel
theorem dX6_countDays_2 : decode cX6_countDays 2 = .ok (.iconst 2, 1) := by decide +kernel
theorem dX6_countDays_3 : decode cX6_countDays 3 = .ok (.invokestatic 40, 3) := by decide +kernel
theorem dX6_countDays_6 : decode cX6_countDays 6 = .ok (.iload_n 2, 1) := by decide +kernel
theorem dX6_countDays_7 : decode cX6_countDays 7 = .ok (.iconst 0, 1) := by decide +kernel
theorem dX6_countDays_8 : decode cX6_countDays 8 = .ok (.sipush 1460, 3) := by decide +kernel
theorem dX6_countDays_11 : decode cX6_countDays 11 = .ok (.invokestatic 40, 3) := by decide +kernel
theorem dX6_countDays_14 : decode cX6_countDays 14 = .ok (.iload_n 3, 1) := by decide +kernel
theorem dX6_countDays_15 : decode cX6_countDays 15 = .ok (.iload_n 2, 1) := by decide +kernel
theorem dX6_countDays_16 : decode cX6_countDays 16 = .ok (.sipush 1460, 3) := by decide +kernel
theorem dX6_countDays_19 : decode cX6_countDays 19 = .ok (.invokestatic 40, 3) := by decide +kernel
theorem dX6_countDays_22 : decode cX6_countDays 22 = .ok (.iload_n 1, 1) := by decide +kernel
theorem dX6_countDays_23 : decode cX6_countDays 23 = .ok (.iload_n 2, 1) := by decide +kernel
theorem dX6_countDays_24 : decode cX6_countDays 24 = .ok (.iload_n 3, 1) := by decide +kernel
theorem dX6_countDays_25 : decode cX6_countDays 25 = .ok (.invokestatic 80, 3) := by decide +kernel
theorem dX6_countDays_28 : decode cX6_countDays 28 = .ok (.ireturn, 1) := by decide +kernel
theorem dX6_passOneDay_0 : decode cX6_passOneDay 0 = .ok (.iconst 0, 1) := by decide +kernel
theorem dX6_passOneDay_1 : decode cX6_passOneDay 1 = .ok (.istore_n 1, 1) := by decide +kernel
theorem dX6_passOneDay_2 : decode cX6_passOneDay 2 = .ok (.iload_n 1, 1) := by decide +kernel
theorem dX6_passOneDay_3 : decode cX6_passOneDay 3 = .ok (.aload_n 0, 1) := by decide +kernel
theorem dX6_passOneDay_4 : decode cX6_passOneDay 4 = .ok (.getfield 16, 3) := by decide +kernel
theorem dX6_passOneDay_7 : decode cX6_passOneDay 7 = .ok (.invokevirtual 44, 3) := by decide +kernel
theorem dX6_passOneDay_10 : decode cX6_passOneDay 10 = .ok (.if_icmp .ge 27, 3) := by decide +kernel
theorem dX6_passOneDay_13 : decode cX6_passOneDay 13 = .ok (.aload_n 0, 1) := by decide +kernel
theorem dX6_passOneDay_14 : decode cX6_passOneDay 14 = .ok (.getfield 16, 3) := by decide +kernel
theorem dX6_passOneDay_17 : decode cX6_passOneDay 17 = .ok (.iload_n 1, 1) := by decide +kernel
theorem dX6_passOneDay_18 : decode cX6_passOneDay 18 = .ok (.invokevirtual 86, 3) := by decide +kernel
theorem dX6_passOneDay_21 : decode cX6_passOneDay 21 = .ok (.checkcast 90, 3) := by decide +kernel
theorem dX6_passOneDay_24 : decode cX6_passOneDay 24 = .ok (.aload_n 0, 1) := by decide +kernel
theorem dX6_passOneDay_25 : decode cX6_passOneDay 25 = .ok (.getfield 36, 3) := by decide +kernel
theorem dX6_passOneDay_28 : decode cX6_passOneDay 28 = .ok (.invokevirtual 92, 3) := by decide +kernel
theorem dX6_passOneDay_31 : decode cX6_passOneDay 31 = .ok (.iinc 1 1, 3) := by decide +kernel
theorem dX6_passOneDay_34 : decode cX6_passOneDay 34 = .ok (.goto (-32), 3) := by decide +kernel
theorem dX6_passOneDay_37 : decode cX6_passOneDay 37 = .ok (.iconst 0, 1) := by decide +kernel
theorem dX6_passOneDay_38 : decode cX6_passOneDay 38 = .ok (.istore_n 1, 1) := by decide +kernel
theorem dX6_passOneDay_39 : decode cX6_passOneDay 39 = .ok (.iload_n 1, 1) := by decide +kernel
theorem dX6_passOneDay_40 : decode cX6_passOneDay 40 = .ok (.aload_n 0, 1) := by decide +kernel
theorem dX6_passOneDay_41 : decode cX6_passOneDay 41 = .ok (.getfield 16, 3) := by decide +kernel
theorem dX6_passOneDay_44 : decode cX6_passOneDay 44 = .ok (.invokevirtual 44, 3) := by decide +kernel
theorem dX6_passOneDay_47 : decode cX6_passOneDay 47 = .ok (.if_icmp .ge 27, 3) := by decide +kernel
theorem dX6_passOneDay_50 : decode cX6_passOneDay 50 = .ok (.aload_n 0, 1) := by decide +kernel
theorem dX6_passOneDay_51 : decode cX6_passOneDay 51 = .ok (.getfield 16, 3) := by decide +kernel
theorem dX6_passOneDay_54 : decode cX6_passOneDay 54 = .ok (.iload_n 1, 1) := by decide +kernel
theorem dX6_passOneDay_55 : decode cX6_passOneDay 55 = .ok (.invokevirtual 86, 3) := by decide +kernel
theorem dX6_passOneDay_58 : decode cX6_passOneDay 58 = .ok (.checkcast 90, 3) := by decide +kernel
theorem dX6_passOneDay_61 : decode cX6_passOneDay 61 = .ok (.aload_n 0, 1) := by decide +kernel
theorem dX6_passOneDay_62 : decode cX6_passOneDay 62 = .ok (.getfield 36, 3) := by decide +kernel
theorem dX6_passOneDay_65 : decode cX6_passOneDay 65 = .ok (.invokevirtual 96, 3) := by decide +kernel
theorem dX6_passOneDay_68 : decode cX6_passOneDay 68 = .ok (.iinc 1 1, 3) := by decide +kernel
theorem dX6_passOneDay_71 : decode cX6_passOneDay 71 = .ok (.goto (-32), 3) := by decide +kernel
theorem dX6_passOneDay_74 : decode cX6_passOneDay 74 = .ok (.aload_n 0, 1) := by decide +kernel
theorem dX6_passOneDay_75 : decode cX6_passOneDay 75 = .ok (.dup, 1) := by decide +kernel
theorem dX6_passOneDay_76 : decode cX6_passOneDay 76 = .ok (.getfield 36, 3) := by decide +kernel
theorem dX6_passOneDay_79 : decode cX6_passOneDay 79 = .ok (.iconst 1, 1) := by decide +kernel
theorem dX6_passOneDay_80 : decode cX6_passOneDay 80 = .ok (.iadd, 1) := by decide +kernel
theorem dX6_passOneDay_81 : decode cX6_passOneDay 81 = .ok (.putfield 36, 3) := by decide +kernel
theorem dX6_passOneDay_84 : decode cX6_passOneDay 84 = .ok (.return_, 1) := by decide +kernel
theorem dX6_postInvoice_0 : decode cX6_postInvoice 0 = .ok (.aload_n 0, 1) := by decide +kernel
theorem dX6_postInvoice_1 : decode cX6_postInvoice 1 = .ok (.iload_n 1, 1) := by decide +kernel
theorem dX6_postInvoice_2 : decode cX6_postInvoice 2 = .ok (.invokevirtual 60, 3) := by decide +kernel
theorem dX6_postInvoice_5 : decode cX6_postInvoice 5 = .ok (.astore 4, 2) := by decide +kernel
theorem dX6_postInvoice_7 : decode cX6_postInvoice 7 = .ok (.iload_n 2, 1) := by decide +kernel
theorem dX6_postInvoice_8 : decode cX6_postInvoice 8 = .ok (.iconst 1, 1) := by decide +kernel
theorem dX6_postInvoice_9 : decode cX6_postInvoice 9 = .ok (.ldc 99, 2) := by decide +kernel
theorem dX6_postInvoice_11 : decode cX6_postInvoice 11 = .ok (.invokestatic 40, 3) := by decide +kernel
theorem dX6_postInvoice_14 : decode cX6_postInvoice 14 = .ok (.iload_n 3, 1) := by decide +kernel
theorem dX6_postInvoice_15 : decode cX6_postInvoice 15 = .ok (.iconst 0, 1) := by decide +kernel
theorem dX6_postInvoice_16 : decode cX6_postInvoice 16 = .ok (.bipush 120, 2) := by decide +kernel
theorem dX6_postInvoice_18 : decode cX6_postInvoice 18 = .ok (.invokestatic 40, 3) := by decide +kernel
theorem dX6_postInvoice_21 : decode cX6_postInvoice 21 = .ok (.aload_n 0, 1) := by decide +kernel
theorem dX6_postInvoice_22 : decode cX6_postInvoice 22 = .ok (.getfield 16, 3) := by decide +kernel
theorem dX6_postInvoice_25 : decode cX6_postInvoice 25 = .ok (.invokevirtual 44, 3) := by decide +kernel
theorem dX6_postInvoice_28 : decode cX6_postInvoice 28 = .ok (.bipush 24, 2) := by decide +kernel
theorem dX6_postInvoice_30 : decode cX6_postInvoice 30 = .ok (.invokestatic 48, 3) := by decide +kernel
theorem dX6_postInvoice_33 : decode cX6_postInvoice 33 = .ok (.aload_n 0, 1) := by decide +kernel
theorem dX6_postInvoice_34 : decode cX6_postInvoice 34 = .ok (.new 90, 3) := by decide +kernel
theorem dX6_postInvoice_37 : decode cX6_postInvoice 37 = .ok (.dup, 1) := by decide +kernel
theorem dX6_postInvoice_38 : decode cX6_postInvoice 38 = .ok (.aload 4, 2) := by decide +kernel
theorem dX6_postInvoice_40 : decode cX6_postInvoice 40 = .ok (.iload_n 2, 1) := by decide +kernel
theorem dX6_postInvoice_41 : decode cX6_postInvoice 41 = .ok (.aload_n 0, 1) := by decide +kernel
theorem dX6_postInvoice_42 : decode cX6_postInvoice 42 = .ok (.getfield 36, 3) := by decide +kernel
theorem dX6_postInvoice_45 : decode cX6_postInvoice 45 = .ok (.iload_n 3, 1) := by decide +kernel
theorem dX6_postInvoice_46 : decode cX6_postInvoice 46 = .ok (.iadd, 1) := by decide +kernel
theorem dX6_postInvoice_47 : decode cX6_postInvoice 47 = .ok (.iconst 0, 1) := by decide +kernel
theorem dX6_postInvoice_48 : decode cX6_postInvoice 48 = .ok (.invokespecial 100, 3) := by decide +kernel
theorem dX6_postInvoice_51 : decode cX6_postInvoice 51 = .ok (.invokevirtual 103, 3) := by decide +kernel
theorem dX6_postInvoice_54 : decode cX6_postInvoice 54 = .ok (.ireturn, 1) := by decide +kernel
theorem dX6_postPayment_0 : decode cX6_postPayment 0 = .ok (.aload_n 0, 1) := by decide +kernel
theorem dX6_postPayment_1 : decode cX6_postPayment 1 = .ok (.iload_n 1, 1) := by decide +kernel
theorem dX6_postPayment_2 : decode cX6_postPayment 2 = .ok (.invokevirtual 60, 3) := by decide +kernel
theorem dX6_postPayment_5 : decode cX6_postPayment 5 = .ok (.astore_n 3, 1) := by decide +kernel
theorem dX6_postPayment_6 : decode cX6_postPayment 6 = .ok (.iload_n 2, 1) := by decide +kernel
theorem dX6_postPayment_7 : decode cX6_postPayment 7 = .ok (.iconst 1, 1) := by decide +kernel
theorem dX6_postPayment_8 : decode cX6_postPayment 8 = .ok (.ldc 99, 2) := by decide +kernel
theorem dX6_postPayment_10 : decode cX6_postPayment 10 = .ok (.invokestatic 40, 3) := by decide +kernel
theorem dX6_postPayment_13 : decode cX6_postPayment 13 = .ok (.aload_n 0, 1) := by decide +kernel
theorem dX6_postPayment_14 : decode cX6_postPayment 14 = .ok (.getfield 19, 3) := by decide +kernel
theorem dX6_postPayment_17 : decode cX6_postPayment 17 = .ok (.invokevirtual 44, 3) := by decide +kernel
theorem dX6_postPayment_20 : decode cX6_postPayment 20 = .ok (.bipush 24, 2) := by decide +kernel
theorem dX6_postPayment_22 : decode cX6_postPayment 22 = .ok (.invokestatic 48, 3) := by decide +kernel
theorem dX6_postPayment_25 : decode cX6_postPayment 25 = .ok (.new 107, 3) := by decide +kernel
theorem dX6_postPayment_28 : decode cX6_postPayment 28 = .ok (.dup, 1) := by decide +kernel
theorem dX6_postPayment_29 : decode cX6_postPayment 29 = .ok (.aload_n 3, 1) := by decide +kernel
theorem dX6_postPayment_30 : decode cX6_postPayment 30 = .ok (.iload_n 2, 1) := by decide +kernel
theorem dX6_postPayment_31 : decode cX6_postPayment 31 = .ok (.invokespecial 109, 3) := by decide +kernel
theorem dX6_postPayment_34 : decode cX6_postPayment 34 = .ok (.astore 4, 2) := by decide +kernel
theorem dX6_postPayment_36 : decode cX6_postPayment 36 = .ok (.aload_n 0, 1) := by decide +kernel
theorem dX6_postPayment_37 : decode cX6_postPayment 37 = .ok (.getfield 19, 3) := by decide +kernel
theorem dX6_postPayment_40 : decode cX6_postPayment 40 = .ok (.aload 4, 2) := by decide +kernel
theorem dX6_postPayment_42 : decode cX6_postPayment 42 = .ok (.invokevirtual 56, 3) := by decide +kernel
theorem dX6_postPayment_45 : decode cX6_postPayment 45 = .ok (.pop, 1) := by decide +kernel
theorem dX6_postPayment_46 : decode cX6_postPayment 46 = .ok (.aload_n 0, 1) := by decide +kernel
theorem dX6_postPayment_47 : decode cX6_postPayment 47 = .ok (.aload 4, 2) := by decide +kernel
theorem dX6_postPayment_49 : decode cX6_postPayment 49 = .ok (.invokevirtual 112, 3) := by decide +kernel
theorem dX6_postPayment_52 : decode cX6_postPayment 52 = .ok (.pop, 1) := by decide +kernel
theorem dX6_postPayment_53 : decode cX6_postPayment 53 = .ok (.aload_n 0, 1) := by decide +kernel
theorem dX6_postPayment_54 : decode cX6_postPayment 54 = .ok (.getfield 19, 3) := by decide +kernel
theorem dX6_postPayment_57 : decode cX6_postPayment 57 = .ok (.invokevirtual 44, 3) := by decide +kernel
theorem dX6_postPayment_60 : decode cX6_postPayment 60 = .ok (.iconst 1, 1) := by decide +kernel
theorem dX6_postPayment_61 : decode cX6_postPayment 61 = .ok (.isub, 1) := by decide +kernel
theorem dX6_postPayment_62 : decode cX6_postPayment 62 = .ok (.ireturn, 1) := by decide +kernel
theorem dX6_allocate_0 : decode cX6_allocate 0 = .ok (.aload_n 0, 1) := by decide +kernel
theorem dX6_allocate_1 : decode cX6_allocate 1 = .ok (.iload_n 1, 1) := by decide +kernel
theorem dX6_allocate_2 : decode cX6_allocate 2 = .ok (.invokevirtual 116, 3) := by decide +kernel
theorem dX6_allocate_5 : decode cX6_allocate 5 = .ok (.astore 4, 2) := by decide +kernel
theorem dX6_allocate_7 : decode cX6_allocate 7 = .ok (.aload_n 0, 1) := by decide +kernel
theorem dX6_allocate_8 : decode cX6_allocate 8 = .ok (.iload_n 2, 1) := by decide +kernel
theorem dX6_allocate_9 : decode cX6_allocate 9 = .ok (.invokevirtual 120, 3) := by decide +kernel
theorem dX6_allocate_12 : decode cX6_allocate 12 = .ok (.astore 5, 2) := by decide +kernel
theorem dX6_allocate_14 : decode cX6_allocate 14 = .ok (.iload_n 3, 1) := by decide +kernel
theorem dX6_allocate_15 : decode cX6_allocate 15 = .ok (.invokestatic 124, 3) := by decide +kernel
theorem dX6_allocate_18 : decode cX6_allocate 18 = .ok (.aload 5, 2) := by decide +kernel
theorem dX6_allocate_20 : decode cX6_allocate 20 = .ok (.getfield 127, 3) := by decide +kernel
theorem dX6_allocate_23 : decode cX6_allocate 23 = .ok (.aload 4, 2) := by decide +kernel
theorem dX6_allocate_25 : decode cX6_allocate 25 = .ok (.getfield 131, 3) := by decide +kernel
theorem dX6_allocate_28 : decode cX6_allocate 28 = .ok (.if_acmp .ne 7, 3) := by decide +kernel
theorem dX6_allocate_31 : decode cX6_allocate 31 = .ok (.iconst 1, 1) := by decide +kernel
theorem dX6_allocate_32 : decode cX6_allocate 32 = .ok (.goto 4, 3) := by decide +kernel
theorem dX6_allocate_35 : decode cX6_allocate 35 = .ok (.iconst 0, 1) := by decide +kernel
theorem dX6_allocate_36 : decode cX6_allocate 36 = .ok (.invokestatic 73, 3) := by decide +kernel
theorem dX6_allocate_39 : decode cX6_allocate 39 = .ok (.iload_n 3, 1) := by decide +kernel
theorem dX6_allocate_40 : decode cX6_allocate 40 = .ok (.aload 4, 2) := by decide +kernel
theorem dX6_allocate_42 : decode cX6_allocate 42 = .ok (.invokevirtual 132, 3) := by decide +kernel
theorem dX6_allocate_45 : decode cX6_allocate 45 = .ok (.if_icmp .gt 7, 3) := by decide +kernel
theorem dX6_allocate_48 : decode cX6_allocate 48 = .ok (.iconst 1, 1) := by decide +kernel
theorem dX6_allocate_49 : decode cX6_allocate 49 = .ok (.goto 4, 3) := by decide +kernel
theorem dX6_allocate_52 : decode cX6_allocate 52 = .ok (.iconst 0, 1) := by decide +kernel
theorem dX6_allocate_53 : decode cX6_allocate 53 = .ok (.invokestatic 73, 3) := by decide +kernel
theorem dX6_allocate_56 : decode cX6_allocate 56 = .ok (.iload_n 3, 1) := by decide +kernel
theorem dX6_allocate_57 : decode cX6_allocate 57 = .ok (.aload 5, 2) := by decide +kernel
theorem dX6_allocate_59 : decode cX6_allocate 59 = .ok (.invokevirtual 135, 3) := by decide +kernel
theorem dX6_allocate_62 : decode cX6_allocate 62 = .ok (.if_icmp .gt 7, 3) := by decide +kernel
theorem dX6_allocate_65 : decode cX6_allocate 65 = .ok (.iconst 1, 1) := by decide +kernel
theorem dX6_allocate_66 : decode cX6_allocate 66 = .ok (.goto 4, 3) := by decide +kernel
theorem dX6_allocate_69 : decode cX6_allocate 69 = .ok (.iconst 0, 1) := by decide +kernel
theorem dX6_allocate_70 : decode cX6_allocate 70 = .ok (.invokestatic 73, 3) := by decide +kernel
theorem dX6_allocate_73 : decode cX6_allocate 73 = .ok (.aload_n 0, 1) := by decide +kernel
theorem dX6_allocate_74 : decode cX6_allocate 74 = .ok (.aload 4, 2) := by decide +kernel
theorem dX6_allocate_76 : decode cX6_allocate 76 = .ok (.iload_n 2, 1) := by decide +kernel
theorem dX6_allocate_77 : decode cX6_allocate 77 = .ok (.iload_n 3, 1) := by decide +kernel
theorem dX6_allocate_78 : decode cX6_allocate 78 = .ok (.invokevirtual 138, 3) := by decide +kernel
theorem dX6_allocate_81 : decode cX6_allocate 81 = .ok (.aload 5, 2) := by decide +kernel
theorem dX6_allocate_83 : decode cX6_allocate 83 = .ok (.invokevirtual 135, 3) := by decide +kernel
theorem dX6_allocate_86 : decode cX6_allocate 86 = .ok (.ireturn, 1) := by decide +kernel
theorem dX6_allocateRest_0 : decode cX6_allocateRest 0 = .ok (.aload_n 0, 1) := by decide +kernel
theorem dX6_allocateRest_1 : decode cX6_allocateRest 1 = .ok (.iload_n 1, 1) := by decide +kernel
theorem dX6_allocateRest_2 : decode cX6_allocateRest 2 = .ok (.invokevirtual 60, 3) := by decide +kernel
theorem dX6_allocateRest_5 : decode cX6_allocateRest 5 = .ok (.astore_n 2, 1) := by decide +kernel
theorem dX6_allocateRest_6 : decode cX6_allocateRest 6 = .ok (.iconst 0, 1) := by decide +kernel
theorem dX6_allocateRest_7 : decode cX6_allocateRest 7 = .ok (.istore_n 3, 1) := by decide +kernel
theorem dX6_allocateRest_8 : decode cX6_allocateRest 8 = .ok (.iconst 0, 1) := by decide +kernel
theorem dX6_allocateRest_9 : decode cX6_allocateRest 9 = .ok (.istore 4, 2) := by decide +kernel
theorem dX6_allocateRest_11 : decode cX6_allocateRest 11 = .ok (.iload 4, 2) := by decide +kernel
theorem dX6_allocateRest_13 : decode cX6_allocateRest 13 = .ok (.aload_n 0, 1) := by decide +kernel
theorem dX6_allocateRest_14 : decode cX6_allocateRest 14 = .ok (.getfield 19, 3) := by decide +kernel
theorem dX6_allocateRest_17 : decode cX6_allocateRest 17 = .ok (.invokevirtual 44, 3) := by decide +kernel
theorem dX6_allocateRest_20 : decode cX6_allocateRest 20 = .ok (.if_icmp .ge 41, 3) := by decide +kernel
theorem dX6_allocateRest_23 : decode cX6_allocateRest 23 = .ok (.aload_n 0, 1) := by decide +kernel
theorem dX6_allocateRest_24 : decode cX6_allocateRest 24 = .ok (.getfield 19, 3) := by decide +kernel
theorem dX6_allocateRest_27 : decode cX6_allocateRest 27 = .ok (.iload 4, 2) := by decide +kernel
theorem dX6_allocateRest_29 : decode cX6_allocateRest 29 = .ok (.invokevirtual 86, 3) := by decide +kernel
theorem dX6_allocateRest_32 : decode cX6_allocateRest 32 = .ok (.checkcast 107, 3) := by decide +kernel
theorem dX6_allocateRest_35 : decode cX6_allocateRest 35 = .ok (.astore 5, 2) := by decide +kernel
theorem dX6_allocateRest_37 : decode cX6_allocateRest 37 = .ok (.aload 5, 2) := by decide +kernel
theorem dX6_allocateRest_39 : decode cX6_allocateRest 39 = .ok (.getfield 131, 3) := by decide +kernel
theorem dX6_allocateRest_42 : decode cX6_allocateRest 42 = .ok (.aload_n 2, 1) := by decide +kernel
theorem dX6_allocateRest_43 : decode cX6_allocateRest 43 = .ok (.if_acmp .ne 12, 3) := by decide +kernel
theorem dX6_allocateRest_46 : decode cX6_allocateRest 46 = .ok (.iload_n 3, 1) := by decide +kernel
theorem dX6_allocateRest_47 : decode cX6_allocateRest 47 = .ok (.aload_n 0, 1) := by decide +kernel
theorem dX6_allocateRest_48 : decode cX6_allocateRest 48 = .ok (.aload 5, 2) := by decide +kernel
theorem dX6_allocateRest_50 : decode cX6_allocateRest 50 = .ok (.invokevirtual 112, 3) := by decide +kernel
theorem dX6_allocateRest_53 : decode cX6_allocateRest 53 = .ok (.iadd, 1) := by decide +kernel
theorem dX6_allocateRest_54 : decode cX6_allocateRest 54 = .ok (.istore_n 3, 1) := by decide +kernel
theorem dX6_allocateRest_55 : decode cX6_allocateRest 55 = .ok (.iinc 4 1, 3) := by decide +kernel
theorem dX6_allocateRest_58 : decode cX6_allocateRest 58 = .ok (.goto (-47), 3) := by decide +kernel
theorem dX6_allocateRest_61 : decode cX6_allocateRest 61 = .ok (.iload_n 3, 1) := by decide +kernel
theorem dX6_allocateRest_62 : decode cX6_allocateRest 62 = .ok (.ireturn, 1) := by decide +kernel
theorem dX6_release_0 : decode cX6_release 0 = .ok (.aload_n 0, 1) := by decide +kernel
theorem dX6_release_1 : decode cX6_release 1 = .ok (.iload_n 1, 1) := by decide +kernel
theorem dX6_release_2 : decode cX6_release 2 = .ok (.invokevirtual 116, 3) := by decide +kernel
theorem dX6_release_5 : decode cX6_release 5 = .ok (.astore_n 3, 1) := by decide +kernel
theorem dX6_release_6 : decode cX6_release 6 = .ok (.aload_n 0, 1) := by decide +kernel
theorem dX6_release_7 : decode cX6_release 7 = .ok (.iload_n 2, 1) := by decide +kernel
theorem dX6_release_8 : decode cX6_release 8 = .ok (.invokevirtual 120, 3) := by decide +kernel
theorem dX6_release_11 : decode cX6_release 11 = .ok (.pop, 1) := by decide +kernel
theorem dX6_release_12 : decode cX6_release 12 = .ok (.aload_n 0, 1) := by decide +kernel
theorem dX6_release_13 : decode cX6_release 13 = .ok (.aload_n 3, 1) := by decide +kernel
theorem dX6_release_14 : decode cX6_release 14 = .ok (.iload_n 2, 1) := by decide +kernel
theorem dX6_release_15 : decode cX6_release 15 = .ok (.invokevirtual 142, 3) := by decide +kernel
theorem dX6_release_18 : decode cX6_release 18 = .ok (.ireturn, 1) := by decide +kernel
theorem dX6_reverse_0 : decode cX6_reverse 0 = .ok (.aload_n 0, 1) := by decide +kernel
theorem dX6_reverse_1 : decode cX6_reverse 1 = .ok (.iload_n 1, 1) := by decide +kernel
theorem dX6_reverse_2 : decode cX6_reverse 2 = .ok (.invokevirtual 116, 3) := by decide +kernel
theorem dX6_reverse_5 : decode cX6_reverse 5 = .ok (.astore_n 2, 1) := by decide +kernel
theorem dX6_reverse_6 : decode cX6_reverse 6 = .ok (.aload_n 2, 1) := by decide +kernel
theorem dX6_reverse_7 : decode cX6_reverse 7 = .ok (.getfield 146, 3) := by decide +kernel
theorem dX6_reverse_10 : decode cX6_reverse 10 = .ok (.ifCond .ne 7, 3) := by decide +kernel
theorem dX6_reverse_13 : decode cX6_reverse 13 = .ok (.iconst 1, 1) := by decide +kernel
theorem dX6_reverse_14 : decode cX6_reverse 14 = .ok (.goto 4, 3) := by decide +kernel
theorem dX6_reverse_17 : decode cX6_reverse 17 = .ok (.iconst 0, 1) := by decide +kernel
theorem dX6_reverse_18 : decode cX6_reverse 18 = .ok (.invokestatic 73, 3) := by decide +kernel
theorem dX6_reverse_21 : decode cX6_reverse 21 = .ok (.iconst 0, 1) := by decide +kernel
theorem dX6_reverse_22 : decode cX6_reverse 22 = .ok (.istore_n 3, 1) := by decide +kernel
theorem dX6_reverse_23 : decode cX6_reverse 23 = .ok (.iconst 0, 1) := by decide +kernel
theorem dX6_reverse_24 : decode cX6_reverse 24 = .ok (.istore 4, 2) := by decide +kernel
theorem dX6_reverse_26 : decode cX6_reverse 26 = .ok (.iload 4, 2) := by decide +kernel
theorem dX6_reverse_28 : decode cX6_reverse 28 = .ok (.aload_n 0, 1) := by decide +kernel
theorem dX6_reverse_29 : decode cX6_reverse 29 = .ok (.getfield 16, 3) := by decide +kernel
theorem dX6_reverse_32 : decode cX6_reverse 32 = .ok (.invokevirtual 44, 3) := by decide +kernel
theorem dX6_reverse_35 : decode cX6_reverse 35 = .ok (.if_icmp .ge 19, 3) := by decide +kernel
theorem dX6_reverse_38 : decode cX6_reverse 38 = .ok (.iload_n 3, 1) := by decide +kernel
theorem dX6_reverse_39 : decode cX6_reverse 39 = .ok (.aload_n 0, 1) := by decide +kernel
theorem dX6_reverse_40 : decode cX6_reverse 40 = .ok (.aload_n 2, 1) := by decide +kernel
theorem dX6_reverse_41 : decode cX6_reverse 41 = .ok (.iload 4, 2) := by decide +kernel
theorem dX6_reverse_43 : decode cX6_reverse 43 = .ok (.invokevirtual 142, 3) := by decide +kernel
theorem dX6_reverse_46 : decode cX6_reverse 46 = .ok (.iadd, 1) := by decide +kernel
theorem dX6_reverse_47 : decode cX6_reverse 47 = .ok (.istore_n 3, 1) := by decide +kernel
theorem dX6_reverse_48 : decode cX6_reverse 48 = .ok (.iinc 4 1, 3) := by decide +kernel
theorem dX6_reverse_51 : decode cX6_reverse 51 = .ok (.goto (-25), 3) := by decide +kernel
theorem dX6_reverse_54 : decode cX6_reverse 54 = .ok (.aload_n 2, 1) := by decide +kernel
theorem dX6_reverse_55 : decode cX6_reverse 55 = .ok (.iconst 1, 1) := by decide +kernel
theorem dX6_reverse_56 : decode cX6_reverse 56 = .ok (.putfield 146, 3) := by decide +kernel
theorem dX6_reverse_59 : decode cX6_reverse 59 = .ok (.iload_n 3, 1) := by decide +kernel
theorem dX6_reverse_60 : decode cX6_reverse 60 = .ok (.ireturn, 1) := by decide +kernel
theorem dX6_enterInvoice_0 : decode cX6_enterInvoice 0 = .ok (.aload_n 0, 1) := by decide +kernel
theorem dX6_enterInvoice_1 : decode cX6_enterInvoice 1 = .ok (.getfield 16, 3) := by decide +kernel
theorem dX6_enterInvoice_4 : decode cX6_enterInvoice 4 = .ok (.invokevirtual 44, 3) := by decide +kernel
theorem dX6_enterInvoice_7 : decode cX6_enterInvoice 7 = .ok (.istore_n 2, 1) := by decide +kernel
theorem dX6_enterInvoice_8 : decode cX6_enterInvoice 8 = .ok (.aload_n 0, 1) := by decide +kernel
theorem dX6_enterInvoice_9 : decode cX6_enterInvoice 9 = .ok (.getfield 16, 3) := by decide +kernel
theorem dX6_enterInvoice_12 : decode cX6_enterInvoice 12 = .ok (.aload_n 1, 1) := by decide +kernel
theorem dX6_enterInvoice_13 : decode cX6_enterInvoice 13 = .ok (.invokevirtual 56, 3) := by decide +kernel
theorem dX6_enterInvoice_16 : decode cX6_enterInvoice 16 = .ok (.pop, 1) := by decide +kernel
theorem dX6_enterInvoice_17 : decode cX6_enterInvoice 17 = .ok (.aload_n 0, 1) := by decide +kernel
theorem dX6_enterInvoice_18 : decode cX6_enterInvoice 18 = .ok (.getfield 25, 3) := by decide +kernel
theorem dX6_enterInvoice_21 : decode cX6_enterInvoice 21 = .ok (.iload_n 2, 1) := by decide +kernel
theorem dX6_enterInvoice_22 : decode cX6_enterInvoice 22 = .ok (.aload_n 1, 1) := by decide +kernel
theorem dX6_enterInvoice_23 : decode cX6_enterInvoice 23 = .ok (.getfield 150, 3) := by decide +kernel
theorem dX6_enterInvoice_26 : decode cX6_enterInvoice 26 = .ok (.invokevirtual 153, 3) := by decide +kernel
theorem dX6_enterInvoice_29 : decode cX6_enterInvoice 29 = .ok (.iload_n 2, 1) := by decide +kernel
theorem dX6_enterInvoice_30 : decode cX6_enterInvoice 30 = .ok (.ireturn, 1) := by decide +kernel
theorem dX6_allocateByRule_0 : decode cX6_allocateByRule 0 = .ok (.aload_n 1, 1) := by decide +kernel
theorem dX6_allocateByRule_1 : decode cX6_allocateByRule 1 = .ok (.invokevirtual 132, 3) := by decide +kernel
theorem dX6_allocateByRule_4 : decode cX6_allocateByRule 4 = .ok (.istore_n 2, 1) := by decide +kernel
theorem dX6_allocateByRule_5 : decode cX6_allocateByRule 5 = .ok (.aload_n 0, 1) := by decide +kernel
theorem dX6_allocateByRule_6 : decode cX6_allocateByRule 6 = .ok (.aload_n 1, 1) := by decide +kernel
theorem dX6_allocateByRule_7 : decode cX6_allocateByRule 7 = .ok (.getfield 131, 3) := by decide +kernel
theorem dX6_allocateByRule_10 : decode cX6_allocateByRule 10 = .ok (.invokevirtual 156, 3) := by decide +kernel
theorem dX6_allocateByRule_13 : decode cX6_allocateByRule 13 = .ok (.aload_n 1, 1) := by decide +kernel
theorem dX6_allocateByRule_14 : decode cX6_allocateByRule 14 = .ok (.getfield 131, 3) := by decide +kernel
theorem dX6_allocateByRule_17 : decode cX6_allocateByRule 17 = .ok (.getfield 64, 3) := by decide +kernel
theorem dX6_allocateByRule_20 : decode cX6_allocateByRule 20 = .ok (.ifCond .ne 11, 3) := by decide +kernel
theorem dX6_allocateByRule_23 : decode cX6_allocateByRule 23 = .ok (.aload_n 0, 1) := by decide +kernel
theorem dX6_allocateByRule_24 : decode cX6_allocateByRule 24 = .ok (.iload_n 2, 1) := by decide +kernel
theorem dX6_allocateByRule_25 : decode cX6_allocateByRule 25 = .ok (.invokevirtual 160, 3) := by decide +kernel
theorem dX6_allocateByRule_28 : decode cX6_allocateByRule 28 = .ok (.goto 22, 3) := by decide +kernel
theorem dX6_allocateByRule_31 : decode cX6_allocateByRule 31 = .ok (.aload_n 1, 1) := by decide +kernel
theorem dX6_allocateByRule_32 : decode cX6_allocateByRule 32 = .ok (.getfield 131, 3) := by decide +kernel
theorem dX6_allocateByRule_35 : decode cX6_allocateByRule 35 = .ok (.getfield 64, 3) := by decide +kernel
theorem dX6_allocateByRule_38 : decode cX6_allocateByRule 38 = .ok (.iconst 1, 1) := by decide +kernel
theorem dX6_allocateByRule_39 : decode cX6_allocateByRule 39 = .ok (.if_icmp .ne 11, 3) := by decide +kernel
theorem dX6_allocateByRule_42 : decode cX6_allocateByRule 42 = .ok (.aload_n 0, 1) := by decide +kernel
theorem dX6_allocateByRule_43 : decode cX6_allocateByRule 43 = .ok (.getfield 32, 3) := by decide +kernel
theorem dX6_allocateByRule_46 : decode cX6_allocateByRule 46 = .ok (.iload_n 2, 1) := by decide +kernel
theorem dX6_allocateByRule_47 : decode cX6_allocateByRule 47 = .ok (.invokevirtual 163, 3) := by decide +kernel
theorem dX6_allocateByRule_50 : decode cX6_allocateByRule 50 = .ok (.iconst 0, 1) := by decide +kernel
theorem dX6_allocateByRule_51 : decode cX6_allocateByRule 51 = .ok (.istore_n 3, 1) := by decide +kernel
theorem dX6_allocateByRule_52 : decode cX6_allocateByRule 52 = .ok (.iconst 0, 1) := by decide +kernel
theorem dX6_allocateByRule_53 : decode cX6_allocateByRule 53 = .ok (.istore 4, 2) := by decide +kernel
theorem dX6_allocateByRule_55 : decode cX6_allocateByRule 55 = .ok (.iload 4, 2) := by decide +kernel
theorem dX6_allocateByRule_57 : decode cX6_allocateByRule 57 = .ok (.aload_n 0, 1) := by decide +kernel
theorem dX6_allocateByRule_58 : decode cX6_allocateByRule 58 = .ok (.getfield 16, 3) := by decide +kernel
theorem dX6_allocateByRule_61 : decode cX6_allocateByRule 61 = .ok (.invokevirtual 44, 3) := by decide +kernel
theorem dX6_allocateByRule_64 : decode cX6_allocateByRule 64 = .ok (.if_icmp .ge 34, 3) := by decide +kernel
theorem dX6_allocateByRule_67 : decode cX6_allocateByRule 67 = .ok (.aload_n 0, 1) := by decide +kernel
theorem dX6_allocateByRule_68 : decode cX6_allocateByRule 68 = .ok (.getfield 32, 3) := by decide +kernel
theorem dX6_allocateByRule_71 : decode cX6_allocateByRule 71 = .ok (.iload 4, 2) := by decide +kernel
theorem dX6_allocateByRule_73 : decode cX6_allocateByRule 73 = .ok (.invokevirtual 166, 3) := by decide +kernel
theorem dX6_allocateByRule_76 : decode cX6_allocateByRule 76 = .ok (.istore 5, 2) := by decide +kernel
theorem dX6_allocateByRule_78 : decode cX6_allocateByRule 78 = .ok (.aload_n 0, 1) := by decide +kernel
theorem dX6_allocateByRule_79 : decode cX6_allocateByRule 79 = .ok (.aload_n 1, 1) := by decide +kernel
theorem dX6_allocateByRule_80 : decode cX6_allocateByRule 80 = .ok (.iload 4, 2) := by decide +kernel
theorem dX6_allocateByRule_82 : decode cX6_allocateByRule 82 = .ok (.iload 5, 2) := by decide +kernel
theorem dX6_allocateByRule_84 : decode cX6_allocateByRule 84 = .ok (.invokevirtual 138, 3) := by decide +kernel
theorem dX6_allocateByRule_87 : decode cX6_allocateByRule 87 = .ok (.iload_n 3, 1) := by decide +kernel
theorem dX6_allocateByRule_88 : decode cX6_allocateByRule 88 = .ok (.iload 5, 2) := by decide +kernel
theorem dX6_allocateByRule_90 : decode cX6_allocateByRule 90 = .ok (.iadd, 1) := by decide +kernel
theorem dX6_allocateByRule_91 : decode cX6_allocateByRule 91 = .ok (.istore_n 3, 1) := by decide +kernel
theorem dX6_allocateByRule_92 : decode cX6_allocateByRule 92 = .ok (.iinc 4 1, 3) := by decide +kernel
theorem dX6_allocateByRule_95 : decode cX6_allocateByRule 95 = .ok (.goto (-40), 3) := by decide +kernel
theorem dX6_allocateByRule_98 : decode cX6_allocateByRule 98 = .ok (.iload_n 3, 1) := by decide +kernel
theorem dX6_allocateByRule_99 : decode cX6_allocateByRule 99 = .ok (.ireturn, 1) := by decide +kernel
theorem dX6_weighClearAmounts_0 : decode cX6_weighClearAmounts 0 = .ok (.aload_n 0, 1) := by decide +kernel
theorem dX6_weighClearAmounts_1 : decode cX6_weighClearAmounts 1 = .ok (.getfield 32, 3) := by decide +kernel
theorem dX6_weighClearAmounts_4 : decode cX6_weighClearAmounts 4 = .ok (.invokevirtual 170, 3) := by decide +kernel
theorem dX6_weighClearAmounts_7 : decode cX6_weighClearAmounts 7 = .ok (.iconst 0, 1) := by decide +kernel
theorem dX6_weighClearAmounts_8 : decode cX6_weighClearAmounts 8 = .ok (.istore_n 2, 1) := by decide +kernel
theorem dX6_weighClearAmounts_9 : decode cX6_weighClearAmounts 9 = .ok (.iload_n 2, 1) := by decide +kernel
theorem dX6_weighClearAmounts_10 : decode cX6_weighClearAmounts 10 = .ok (.aload_n 0, 1) := by decide +kernel
theorem dX6_weighClearAmounts_11 : decode cX6_weighClearAmounts 11 = .ok (.getfield 16, 3) := by decide +kernel
theorem dX6_weighClearAmounts_14 : decode cX6_weighClearAmounts 14 = .ok (.invokevirtual 44, 3) := by decide +kernel
theorem dX6_weighClearAmounts_17 : decode cX6_weighClearAmounts 17 = .ok (.if_icmp .ge 41, 3) := by decide +kernel
theorem dX6_weighClearAmounts_20 : decode cX6_weighClearAmounts 20 = .ok (.aload_n 0, 1) := by decide +kernel
theorem dX6_weighClearAmounts_21 : decode cX6_weighClearAmounts 21 = .ok (.getfield 16, 3) := by decide +kernel
theorem dX6_weighClearAmounts_24 : decode cX6_weighClearAmounts 24 = .ok (.iload_n 2, 1) := by decide +kernel
theorem dX6_weighClearAmounts_25 : decode cX6_weighClearAmounts 25 = .ok (.invokevirtual 86, 3) := by decide +kernel
theorem dX6_weighClearAmounts_28 : decode cX6_weighClearAmounts 28 = .ok (.checkcast 90, 3) := by decide +kernel
theorem dX6_weighClearAmounts_31 : decode cX6_weighClearAmounts 31 = .ok (.astore_n 3, 1) := by decide +kernel
theorem dX6_weighClearAmounts_32 : decode cX6_weighClearAmounts 32 = .ok (.aload_n 3, 1) := by decide +kernel
theorem dX6_weighClearAmounts_33 : decode cX6_weighClearAmounts 33 = .ok (.getfield 127, 3) := by decide +kernel
theorem dX6_weighClearAmounts_36 : decode cX6_weighClearAmounts 36 = .ok (.aload_n 1, 1) := by decide +kernel
theorem dX6_weighClearAmounts_37 : decode cX6_weighClearAmounts 37 = .ok (.if_acmp .ne 15, 3) := by decide +kernel
theorem dX6_weighClearAmounts_40 : decode cX6_weighClearAmounts 40 = .ok (.aload_n 0, 1) := by decide +kernel
theorem dX6_weighClearAmounts_41 : decode cX6_weighClearAmounts 41 = .ok (.getfield 32, 3) := by decide +kernel
theorem dX6_weighClearAmounts_44 : decode cX6_weighClearAmounts 44 = .ok (.iload_n 2, 1) := by decide +kernel
theorem dX6_weighClearAmounts_45 : decode cX6_weighClearAmounts 45 = .ok (.aload_n 3, 1) := by decide +kernel
theorem dX6_weighClearAmounts_46 : decode cX6_weighClearAmounts 46 = .ok (.invokevirtual 173, 3) := by decide +kernel
theorem dX6_weighClearAmounts_49 : decode cX6_weighClearAmounts 49 = .ok (.invokevirtual 176, 3) := by decide +kernel
theorem dX6_weighClearAmounts_52 : decode cX6_weighClearAmounts 52 = .ok (.iinc 2 1, 3) := by decide +kernel
theorem dX6_weighClearAmounts_55 : decode cX6_weighClearAmounts 55 = .ok (.goto (-46), 3) := by decide +kernel
theorem dX6_weighClearAmounts_58 : decode cX6_weighClearAmounts 58 = .ok (.return_, 1) := by decide +kernel
theorem dX6_shareOldestFirst_0 : decode cX6_shareOldestFirst 0 = .ok (.iload_n 1, 1) := by decide +kernel
theorem dX6_shareOldestFirst_1 : decode cX6_shareOldestFirst 1 = .ok (.istore_n 2, 1) := by decide +kernel
theorem dX6_shareOldestFirst_2 : decode cX6_shareOldestFirst 2 = .ok (.iconst 0, 1) := by decide +kernel
theorem dX6_shareOldestFirst_3 : decode cX6_shareOldestFirst 3 = .ok (.istore_n 3, 1) := by decide +kernel
theorem dX6_shareOldestFirst_4 : decode cX6_shareOldestFirst 4 = .ok (.iload_n 3, 1) := by decide +kernel
theorem dX6_shareOldestFirst_5 : decode cX6_shareOldestFirst 5 = .ok (.aload_n 0, 1) := by decide +kernel
theorem dX6_shareOldestFirst_6 : decode cX6_shareOldestFirst 6 = .ok (.getfield 16, 3) := by decide +kernel
theorem dX6_shareOldestFirst_9 : decode cX6_shareOldestFirst 9 = .ok (.invokevirtual 44, 3) := by decide +kernel
theorem dX6_shareOldestFirst_12 : decode cX6_shareOldestFirst 12 = .ok (.if_icmp .ge 38, 3) := by decide +kernel
theorem dX6_shareOldestFirst_15 : decode cX6_shareOldestFirst 15 = .ok (.iload_n 2, 1) := by decide +kernel
theorem dX6_shareOldestFirst_16 : decode cX6_shareOldestFirst 16 = .ok (.ifCond .le 34, 3) := by decide +kernel
theorem dX6_shareOldestFirst_19 : decode cX6_shareOldestFirst 19 = .ok (.aload_n 0, 1) := by decide +kernel
theorem dX6_shareOldestFirst_20 : decode cX6_shareOldestFirst 20 = .ok (.invokevirtual 179, 3) := by decide +kernel
theorem dX6_shareOldestFirst_23 : decode cX6_shareOldestFirst 23 = .ok (.istore 4, 2) := by decide +kernel
theorem dX6_shareOldestFirst_25 : decode cX6_shareOldestFirst 25 = .ok (.iload 4, 2) := by decide +kernel
theorem dX6_shareOldestFirst_27 : decode cX6_shareOldestFirst 27 = .ok (.ifCond .ge 4, 3) := by decide +kernel
theorem dX6_shareOldestFirst_30 : decode cX6_shareOldestFirst 30 = .ok (.return_, 1) := by decide +kernel
theorem dX6_shareOldestFirst_31 : decode cX6_shareOldestFirst 31 = .ok (.iload_n 2, 1) := by decide +kernel
theorem dX6_shareOldestFirst_32 : decode cX6_shareOldestFirst 32 = .ok (.aload_n 0, 1) := by decide +kernel
theorem dX6_shareOldestFirst_33 : decode cX6_shareOldestFirst 33 = .ok (.getfield 32, 3) := by decide +kernel
theorem dX6_shareOldestFirst_36 : decode cX6_shareOldestFirst 36 = .ok (.iload 4, 2) := by decide +kernel
theorem dX6_shareOldestFirst_38 : decode cX6_shareOldestFirst 38 = .ok (.iload_n 2, 1) := by decide +kernel
theorem dX6_shareOldestFirst_39 : decode cX6_shareOldestFirst 39 = .ok (.invokevirtual 182, 3) := by decide +kernel
theorem dX6_shareOldestFirst_42 : decode cX6_shareOldestFirst 42 = .ok (.isub, 1) := by decide +kernel
theorem dX6_shareOldestFirst_43 : decode cX6_shareOldestFirst 43 = .ok (.istore_n 2, 1) := by decide +kernel
theorem dX6_shareOldestFirst_44 : decode cX6_shareOldestFirst 44 = .ok (.iinc 3 1, 3) := by decide +kernel
theorem dX6_shareOldestFirst_47 : decode cX6_shareOldestFirst 47 = .ok (.goto (-43), 3) := by decide +kernel
theorem dX6_shareOldestFirst_50 : decode cX6_shareOldestFirst 50 = .ok (.return_, 1) := by decide +kernel
theorem dX6_oldestWithoutPart_0 : decode cX6_oldestWithoutPart 0 = .ok (.iconst (-1), 1) := by decide +kernel
theorem dX6_oldestWithoutPart_1 : decode cX6_oldestWithoutPart 1 = .ok (.istore_n 1, 1) := by decide +kernel
theorem dX6_oldestWithoutPart_2 : decode cX6_oldestWithoutPart 2 = .ok (.iconst 0, 1) := by decide +kernel
theorem dX6_oldestWithoutPart_3 : decode cX6_oldestWithoutPart 3 = .ok (.istore_n 2, 1) := by decide +kernel
theorem dX6_oldestWithoutPart_4 : decode cX6_oldestWithoutPart 4 = .ok (.iconst 0, 1) := by decide +kernel
theorem dX6_oldestWithoutPart_5 : decode cX6_oldestWithoutPart 5 = .ok (.istore_n 3, 1) := by decide +kernel
theorem dX6_oldestWithoutPart_6 : decode cX6_oldestWithoutPart 6 = .ok (.iload_n 3, 1) := by decide +kernel
theorem dX6_oldestWithoutPart_7 : decode cX6_oldestWithoutPart 7 = .ok (.aload_n 0, 1) := by decide +kernel
theorem dX6_oldestWithoutPart_8 : decode cX6_oldestWithoutPart 8 = .ok (.getfield 16, 3) := by decide +kernel
theorem dX6_oldestWithoutPart_11 : decode cX6_oldestWithoutPart 11 = .ok (.invokevirtual 44, 3) := by decide +kernel
theorem dX6_oldestWithoutPart_14 : decode cX6_oldestWithoutPart 14 = .ok (.if_icmp .ge 51, 3) := by decide +kernel
theorem dX6_oldestWithoutPart_17 : decode cX6_oldestWithoutPart 17 = .ok (.aload_n 0, 1) := by decide +kernel
theorem dX6_oldestWithoutPart_18 : decode cX6_oldestWithoutPart 18 = .ok (.getfield 16, 3) := by decide +kernel
theorem dX6_oldestWithoutPart_21 : decode cX6_oldestWithoutPart 21 = .ok (.iload_n 3, 1) := by decide +kernel
theorem dX6_oldestWithoutPart_22 : decode cX6_oldestWithoutPart 22 = .ok (.invokevirtual 86, 3) := by decide +kernel
theorem dX6_oldestWithoutPart_25 : decode cX6_oldestWithoutPart 25 = .ok (.checkcast 90, 3) := by decide +kernel
theorem dX6_oldestWithoutPart_28 : decode cX6_oldestWithoutPart 28 = .ok (.getfield 186, 3) := by decide +kernel
theorem dX6_oldestWithoutPart_31 : decode cX6_oldestWithoutPart 31 = .ok (.istore 4, 2) := by decide +kernel
theorem dX6_oldestWithoutPart_33 : decode cX6_oldestWithoutPart 33 = .ok (.aload_n 0, 1) := by decide +kernel
theorem dX6_oldestWithoutPart_34 : decode cX6_oldestWithoutPart 34 = .ok (.getfield 32, 3) := by decide +kernel
theorem dX6_oldestWithoutPart_37 : decode cX6_oldestWithoutPart 37 = .ok (.iload_n 3, 1) := by decide +kernel
theorem dX6_oldestWithoutPart_38 : decode cX6_oldestWithoutPart 38 = .ok (.invokevirtual 189, 3) := by decide +kernel
theorem dX6_oldestWithoutPart_41 : decode cX6_oldestWithoutPart 41 = .ok (.ifCond .eq 18, 3) := by decide +kernel
theorem dX6_oldestWithoutPart_44 : decode cX6_oldestWithoutPart 44 = .ok (.iload_n 1, 1) := by decide +kernel
theorem dX6_oldestWithoutPart_45 : decode cX6_oldestWithoutPart 45 = .ok (.ifCond .lt 9, 3) := by decide +kernel
theorem dX6_oldestWithoutPart_48 : decode cX6_oldestWithoutPart 48 = .ok (.iload 4, 2) := by decide +kernel
theorem dX6_oldestWithoutPart_50 : decode cX6_oldestWithoutPart 50 = .ok (.iload_n 2, 1) := by decide +kernel
theorem dX6_oldestWithoutPart_51 : decode cX6_oldestWithoutPart 51 = .ok (.if_icmp .ge 8, 3) := by decide +kernel
theorem dX6_oldestWithoutPart_54 : decode cX6_oldestWithoutPart 54 = .ok (.iload_n 3, 1) := by decide +kernel
theorem dX6_oldestWithoutPart_55 : decode cX6_oldestWithoutPart 55 = .ok (.istore_n 1, 1) := by decide +kernel
theorem dX6_oldestWithoutPart_56 : decode cX6_oldestWithoutPart 56 = .ok (.iload 4, 2) := by decide +kernel
theorem dX6_oldestWithoutPart_58 : decode cX6_oldestWithoutPart 58 = .ok (.istore_n 2, 1) := by decide +kernel
theorem dX6_oldestWithoutPart_59 : decode cX6_oldestWithoutPart 59 = .ok (.iinc 3 1, 3) := by decide +kernel
theorem dX6_oldestWithoutPart_62 : decode cX6_oldestWithoutPart 62 = .ok (.goto (-56), 3) := by decide +kernel
theorem dX6_oldestWithoutPart_65 : decode cX6_oldestWithoutPart 65 = .ok (.iload_n 1, 1) := by decide +kernel
theorem dX6_oldestWithoutPart_66 : decode cX6_oldestWithoutPart 66 = .ok (.ireturn, 1) := by decide +kernel
theorem dX6_moveToInvoice_0 : decode cX6_moveToInvoice 0 = .ok (.iload_n 3, 1) := by decide +kernel
theorem dX6_moveToInvoice_1 : decode cX6_moveToInvoice 1 = .ok (.ifCond .le 49, 3) := by decide +kernel
theorem dX6_moveToInvoice_4 : decode cX6_moveToInvoice 4 = .ok (.iload_n 2, 1) := by decide +kernel
theorem dX6_moveToInvoice_5 : decode cX6_moveToInvoice 5 = .ok (.ifCond .lt 45, 3) := by decide +kernel
theorem dX6_moveToInvoice_8 : decode cX6_moveToInvoice 8 = .ok (.iload_n 2, 1) := by decide +kernel
theorem dX6_moveToInvoice_9 : decode cX6_moveToInvoice 9 = .ok (.aload_n 0, 1) := by decide +kernel
theorem dX6_moveToInvoice_10 : decode cX6_moveToInvoice 10 = .ok (.getfield 16, 3) := by decide +kernel
theorem dX6_moveToInvoice_13 : decode cX6_moveToInvoice 13 = .ok (.invokevirtual 44, 3) := by decide +kernel
theorem dX6_moveToInvoice_16 : decode cX6_moveToInvoice 16 = .ok (.if_icmp .ge 34, 3) := by decide +kernel
theorem dX6_moveToInvoice_19 : decode cX6_moveToInvoice 19 = .ok (.aload_n 1, 1) := by decide +kernel
theorem dX6_moveToInvoice_20 : decode cX6_moveToInvoice 20 = .ok (.iload_n 2, 1) := by decide +kernel
theorem dX6_moveToInvoice_21 : decode cX6_moveToInvoice 21 = .ok (.iload_n 3, 1) := by decide +kernel
theorem dX6_moveToInvoice_22 : decode cX6_moveToInvoice 22 = .ok (.invokevirtual 193, 3) := by decide +kernel
theorem dX6_moveToInvoice_25 : decode cX6_moveToInvoice 25 = .ok (.aload_n 0, 1) := by decide +kernel
theorem dX6_moveToInvoice_26 : decode cX6_moveToInvoice 26 = .ok (.getfield 16, 3) := by decide +kernel
theorem dX6_moveToInvoice_29 : decode cX6_moveToInvoice 29 = .ok (.iload_n 2, 1) := by decide +kernel
theorem dX6_moveToInvoice_30 : decode cX6_moveToInvoice 30 = .ok (.invokevirtual 86, 3) := by decide +kernel
theorem dX6_moveToInvoice_33 : decode cX6_moveToInvoice 33 = .ok (.checkcast 90, 3) := by decide +kernel
theorem dX6_moveToInvoice_36 : decode cX6_moveToInvoice 36 = .ok (.iload_n 3, 1) := by decide +kernel
theorem dX6_moveToInvoice_37 : decode cX6_moveToInvoice 37 = .ok (.invokevirtual 196, 3) := by decide +kernel
theorem dX6_moveToInvoice_40 : decode cX6_moveToInvoice 40 = .ok (.aload_n 0, 1) := by decide +kernel
theorem dX6_moveToInvoice_41 : decode cX6_moveToInvoice 41 = .ok (.getfield 25, 3) := by decide +kernel
theorem dX6_moveToInvoice_44 : decode cX6_moveToInvoice 44 = .ok (.iload_n 2, 1) := by decide +kernel
theorem dX6_moveToInvoice_45 : decode cX6_moveToInvoice 45 = .ok (.iload_n 3, 1) := by decide +kernel
theorem dX6_moveToInvoice_46 : decode cX6_moveToInvoice 46 = .ok (.ineg, 1) := by decide +kernel
theorem dX6_moveToInvoice_47 : decode cX6_moveToInvoice 47 = .ok (.invokevirtual 153, 3) := by decide +kernel
theorem dX6_moveToInvoice_50 : decode cX6_moveToInvoice 50 = .ok (.return_, 1) := by decide +kernel
theorem dX6_takeBack_0 : decode cX6_takeBack 0 = .ok (.aload_n 1, 1) := by decide +kernel
theorem dX6_takeBack_1 : decode cX6_takeBack 1 = .ok (.iload_n 2, 1) := by decide +kernel
theorem dX6_takeBack_2 : decode cX6_takeBack 2 = .ok (.invokevirtual 199, 3) := by decide +kernel
theorem dX6_takeBack_5 : decode cX6_takeBack 5 = .ok (.istore_n 3, 1) := by decide +kernel
theorem dX6_takeBack_6 : decode cX6_takeBack 6 = .ok (.iload_n 3, 1) := by decide +kernel
theorem dX6_takeBack_7 : decode cX6_takeBack 7 = .ok (.ifCond .le 49, 3) := by decide +kernel
theorem dX6_takeBack_10 : decode cX6_takeBack 10 = .ok (.iload_n 2, 1) := by decide +kernel
theorem dX6_takeBack_11 : decode cX6_takeBack 11 = .ok (.ifCond .lt 45, 3) := by decide +kernel
theorem dX6_takeBack_14 : decode cX6_takeBack 14 = .ok (.iload_n 2, 1) := by decide +kernel
theorem dX6_takeBack_15 : decode cX6_takeBack 15 = .ok (.aload_n 0, 1) := by decide +kernel
theorem dX6_takeBack_16 : decode cX6_takeBack 16 = .ok (.getfield 16, 3) := by decide +kernel
theorem dX6_takeBack_19 : decode cX6_takeBack 19 = .ok (.invokevirtual 44, 3) := by decide +kernel
theorem dX6_takeBack_22 : decode cX6_takeBack 22 = .ok (.if_icmp .ge 34, 3) := by decide +kernel
theorem dX6_takeBack_25 : decode cX6_takeBack 25 = .ok (.aload_n 1, 1) := by decide +kernel
theorem dX6_takeBack_26 : decode cX6_takeBack 26 = .ok (.iload_n 2, 1) := by decide +kernel
theorem dX6_takeBack_27 : decode cX6_takeBack 27 = .ok (.iload_n 3, 1) := by decide +kernel
theorem dX6_takeBack_28 : decode cX6_takeBack 28 = .ok (.ineg, 1) := by decide +kernel
theorem dX6_takeBack_29 : decode cX6_takeBack 29 = .ok (.invokevirtual 193, 3) := by decide +kernel
theorem dX6_takeBack_32 : decode cX6_takeBack 32 = .ok (.aload_n 0, 1) := by decide +kernel
theorem dX6_takeBack_33 : decode cX6_takeBack 33 = .ok (.getfield 16, 3) := by decide +kernel
theorem dX6_takeBack_36 : decode cX6_takeBack 36 = .ok (.iload_n 2, 1) := by decide +kernel
theorem dX6_takeBack_37 : decode cX6_takeBack 37 = .ok (.invokevirtual 86, 3) := by decide +kernel
theorem dX6_takeBack_40 : decode cX6_takeBack 40 = .ok (.checkcast 90, 3) := by decide +kernel
theorem dX6_takeBack_43 : decode cX6_takeBack 43 = .ok (.iload_n 3, 1) := by decide +kernel
theorem dX6_takeBack_44 : decode cX6_takeBack 44 = .ok (.invokevirtual 202, 3) := by decide +kernel
theorem dX6_takeBack_47 : decode cX6_takeBack 47 = .ok (.aload_n 0, 1) := by decide +kernel
theorem dX6_takeBack_48 : decode cX6_takeBack 48 = .ok (.getfield 25, 3) := by decide +kernel
theorem dX6_takeBack_51 : decode cX6_takeBack 51 = .ok (.iload_n 2, 1) := by decide +kernel
theorem dX6_takeBack_52 : decode cX6_takeBack 52 = .ok (.iload_n 3, 1) := by decide +kernel
theorem dX6_takeBack_53 : decode cX6_takeBack 53 = .ok (.invokevirtual 153, 3) := by decide +kernel
theorem dX6_takeBack_56 : decode cX6_takeBack 56 = .ok (.iload_n 3, 1) := by decide +kernel
theorem dX6_takeBack_57 : decode cX6_takeBack 57 = .ok (.ireturn, 1) := by decide +kernel
theorem dX6_dispute_0 : decode cX6_dispute 0 = .ok (.aload_n 0, 1) := by decide +kernel
theorem dX6_dispute_1 : decode cX6_dispute 1 = .ok (.iload_n 1, 1) := by decide +kernel
theorem dX6_dispute_2 : decode cX6_dispute 2 = .ok (.invokevirtual 120, 3) := by decide +kernel
theorem dX6_dispute_5 : decode cX6_dispute 5 = .ok (.astore_n 3, 1) := by decide +kernel
theorem dX6_dispute_6 : decode cX6_dispute 6 = .ok (.iload_n 2, 1) := by decide +kernel
theorem dX6_dispute_7 : decode cX6_dispute 7 = .ok (.invokestatic 124, 3) := by decide +kernel
theorem dX6_dispute_10 : decode cX6_dispute 10 = .ok (.iload_n 2, 1) := by decide +kernel
theorem dX6_dispute_11 : decode cX6_dispute 11 = .ok (.aload_n 3, 1) := by decide +kernel
theorem dX6_dispute_12 : decode cX6_dispute 12 = .ok (.invokevirtual 173, 3) := by decide +kernel
theorem dX6_dispute_15 : decode cX6_dispute 15 = .ok (.if_icmp .gt 7, 3) := by decide +kernel
theorem dX6_dispute_18 : decode cX6_dispute 18 = .ok (.iconst 1, 1) := by decide +kernel
theorem dX6_dispute_19 : decode cX6_dispute 19 = .ok (.goto 4, 3) := by decide +kernel
theorem dX6_dispute_22 : decode cX6_dispute 22 = .ok (.iconst 0, 1) := by decide +kernel
theorem dX6_dispute_23 : decode cX6_dispute 23 = .ok (.invokestatic 73, 3) := by decide +kernel
theorem dX6_dispute_26 : decode cX6_dispute 26 = .ok (.aload_n 3, 1) := by decide +kernel
theorem dX6_dispute_27 : decode cX6_dispute 27 = .ok (.dup, 1) := by decide +kernel
theorem dX6_dispute_28 : decode cX6_dispute 28 = .ok (.getfield 205, 3) := by decide +kernel
theorem dX6_dispute_31 : decode cX6_dispute 31 = .ok (.iload_n 2, 1) := by decide +kernel
theorem dX6_dispute_32 : decode cX6_dispute 32 = .ok (.iadd, 1) := by decide +kernel
theorem dX6_dispute_33 : decode cX6_dispute 33 = .ok (.putfield 205, 3) := by decide +kernel
theorem dX6_dispute_36 : decode cX6_dispute 36 = .ok (.aload_n 3, 1) := by decide +kernel
theorem dX6_dispute_37 : decode cX6_dispute 37 = .ok (.getfield 205, 3) := by decide +kernel
theorem dX6_dispute_40 : decode cX6_dispute 40 = .ok (.ireturn, 1) := by decide +kernel
theorem dX6_disputeAll_0 : decode cX6_disputeAll 0 = .ok (.aload_n 0, 1) := by decide +kernel
theorem dX6_disputeAll_1 : decode cX6_disputeAll 1 = .ok (.iload_n 1, 1) := by decide +kernel
theorem dX6_disputeAll_2 : decode cX6_disputeAll 2 = .ok (.invokevirtual 60, 3) := by decide +kernel
theorem dX6_disputeAll_5 : decode cX6_disputeAll 5 = .ok (.astore_n 3, 1) := by decide +kernel
theorem dX6_disputeAll_6 : decode cX6_disputeAll 6 = .ok (.iload_n 2, 1) := by decide +kernel
theorem dX6_disputeAll_7 : decode cX6_disputeAll 7 = .ok (.invokestatic 124, 3) := by decide +kernel
theorem dX6_disputeAll_10 : decode cX6_disputeAll 10 = .ok (.aload_n 0, 1) := by decide +kernel
theorem dX6_disputeAll_11 : decode cX6_disputeAll 11 = .ok (.aload_n 3, 1) := by decide +kernel
theorem dX6_disputeAll_12 : decode cX6_disputeAll 12 = .ok (.invokevirtual 156, 3) := by decide +kernel
theorem dX6_disputeAll_15 : decode cX6_disputeAll 15 = .ok (.iload_n 2, 1) := by decide +kernel
theorem dX6_disputeAll_16 : decode cX6_disputeAll 16 = .ok (.i2l, 1) := by decide +kernel
theorem dX6_disputeAll_17 : decode cX6_disputeAll 17 = .ok (.aload_n 0, 1) := by decide +kernel
theorem dX6_disputeAll_18 : decode cX6_disputeAll 18 = .ok (.getfield 32, 3) := by decide +kernel
theorem dX6_disputeAll_21 : decode cX6_disputeAll 21 = .ok (.invokevirtual 208, 3) := by decide +kernel
theorem dX6_disputeAll_24 : decode cX6_disputeAll 24 = .ok (.lcmp, 1) := by decide +kernel
theorem dX6_disputeAll_25 : decode cX6_disputeAll 25 = .ok (.ifCond .gt 7, 3) := by decide +kernel
theorem dX6_disputeAll_28 : decode cX6_disputeAll 28 = .ok (.iconst 1, 1) := by decide +kernel
theorem dX6_disputeAll_29 : decode cX6_disputeAll 29 = .ok (.goto 4, 3) := by decide +kernel
theorem dX6_disputeAll_32 : decode cX6_disputeAll 32 = .ok (.iconst 0, 1) := by decide +kernel
theorem dX6_disputeAll_33 : decode cX6_disputeAll 33 = .ok (.invokestatic 73, 3) := by decide +kernel
theorem dX6_disputeAll_36 : decode cX6_disputeAll 36 = .ok (.aload_n 0, 1) := by decide +kernel
theorem dX6_disputeAll_37 : decode cX6_disputeAll 37 = .ok (.getfield 32, 3) := by decide +kernel
theorem dX6_disputeAll_40 : decode cX6_disputeAll 40 = .ok (.iload_n 2, 1) := by decide +kernel
theorem dX6_disputeAll_41 : decode cX6_disputeAll 41 = .ok (.invokevirtual 212, 3) := by decide +kernel
theorem dX6_disputeAll_44 : decode cX6_disputeAll 44 = .ok (.iconst 0, 1) := by decide +kernel
theorem dX6_disputeAll_45 : decode cX6_disputeAll 45 = .ok (.istore 4, 2) := by decide +kernel
theorem dX6_disputeAll_47 : decode cX6_disputeAll 47 = .ok (.iconst 0, 1) := by decide +kernel
theorem dX6_disputeAll_48 : decode cX6_disputeAll 48 = .ok (.istore 5, 2) := by decide +kernel
theorem dX6_disputeAll_50 : decode cX6_disputeAll 50 = .ok (.iload 5, 2) := by decide +kernel
theorem dX6_disputeAll_52 : decode cX6_disputeAll 52 = .ok (.aload_n 0, 1) := by decide +kernel
theorem dX6_disputeAll_53 : decode cX6_disputeAll 53 = .ok (.getfield 16, 3) := by decide +kernel
theorem dX6_disputeAll_56 : decode cX6_disputeAll 56 = .ok (.invokevirtual 44, 3) := by decide +kernel
theorem dX6_disputeAll_59 : decode cX6_disputeAll 59 = .ok (.if_icmp .ge 50, 3) := by decide +kernel
theorem dX6_disputeAll_62 : decode cX6_disputeAll 62 = .ok (.aload_n 0, 1) := by decide +kernel
theorem dX6_disputeAll_63 : decode cX6_disputeAll 63 = .ok (.getfield 32, 3) := by decide +kernel
theorem dX6_disputeAll_66 : decode cX6_disputeAll 66 = .ok (.iload 5, 2) := by decide +kernel
theorem dX6_disputeAll_68 : decode cX6_disputeAll 68 = .ok (.invokevirtual 166, 3) := by decide +kernel
theorem dX6_disputeAll_71 : decode cX6_disputeAll 71 = .ok (.istore 6, 2) := by decide +kernel
theorem dX6_disputeAll_73 : decode cX6_disputeAll 73 = .ok (.iload 6, 2) := by decide +kernel
theorem dX6_disputeAll_75 : decode cX6_disputeAll 75 = .ok (.ifCond .le 28, 3) := by decide +kernel
theorem dX6_disputeAll_78 : decode cX6_disputeAll 78 = .ok (.aload_n 0, 1) := by decide +kernel
theorem dX6_disputeAll_79 : decode cX6_disputeAll 79 = .ok (.getfield 16, 3) := by decide +kernel
theorem dX6_disputeAll_82 : decode cX6_disputeAll 82 = .ok (.iload 5, 2) := by decide +kernel
theorem dX6_disputeAll_84 : decode cX6_disputeAll 84 = .ok (.invokevirtual 86, 3) := by decide +kernel
theorem dX6_disputeAll_87 : decode cX6_disputeAll 87 = .ok (.checkcast 90, 3) := by decide +kernel
theorem dX6_disputeAll_90 : decode cX6_disputeAll 90 = .ok (.dup, 1) := by decide +kernel
theorem dX6_disputeAll_91 : decode cX6_disputeAll 91 = .ok (.getfield 205, 3) := by decide +kernel
theorem dX6_disputeAll_94 : decode cX6_disputeAll 94 = .ok (.iload 6, 2) := by decide +kernel
theorem dX6_disputeAll_96 : decode cX6_disputeAll 96 = .ok (.iadd, 1) := by decide +kernel
theorem dX6_disputeAll_97 : decode cX6_disputeAll 97 = .ok (.putfield 205, 3) := by decide +kernel
theorem dX6_disputeAll_100 : decode cX6_disputeAll 100 = .ok (.iinc 4 1, 3) := by decide +kernel
theorem dX6_disputeAll_103 : decode cX6_disputeAll 103 = .ok (.iinc 5 1, 3) := by decide +kernel
theorem dX6_disputeAll_106 : decode cX6_disputeAll 106 = .ok (.goto (-56), 3) := by decide +kernel
theorem dX6_disputeAll_109 : decode cX6_disputeAll 109 = .ok (.iload 4, 2) := by decide +kernel
theorem dX6_disputeAll_111 : decode cX6_disputeAll 111 = .ok (.ireturn, 1) := by decide +kernel
theorem dX6_settle_0 : decode cX6_settle 0 = .ok (.aload_n 0, 1) := by decide +kernel
theorem dX6_settle_1 : decode cX6_settle 1 = .ok (.iload_n 1, 1) := by decide +kernel
theorem dX6_settle_2 : decode cX6_settle 2 = .ok (.invokevirtual 120, 3) := by decide +kernel
theorem dX6_settle_5 : decode cX6_settle 5 = .ok (.astore_n 3, 1) := by decide +kernel
theorem dX6_settle_6 : decode cX6_settle 6 = .ok (.aload_n 3, 1) := by decide +kernel
theorem dX6_settle_7 : decode cX6_settle 7 = .ok (.getfield 205, 3) := by decide +kernel
theorem dX6_settle_10 : decode cX6_settle 10 = .ok (.ifCond .le 7, 3) := by decide +kernel
theorem dX6_settle_13 : decode cX6_settle 13 = .ok (.iconst 1, 1) := by decide +kernel
theorem dX6_settle_14 : decode cX6_settle 14 = .ok (.goto 4, 3) := by decide +kernel
theorem dX6_settle_17 : decode cX6_settle 17 = .ok (.iconst 0, 1) := by decide +kernel
theorem dX6_settle_18 : decode cX6_settle 18 = .ok (.invokestatic 73, 3) := by decide +kernel
theorem dX6_settle_21 : decode cX6_settle 21 = .ok (.iload_n 2, 1) := by decide +kernel
theorem dX6_settle_22 : decode cX6_settle 22 = .ok (.iconst 0, 1) := by decide +kernel
theorem dX6_settle_23 : decode cX6_settle 23 = .ok (.aload_n 3, 1) := by decide +kernel
theorem dX6_settle_24 : decode cX6_settle 24 = .ok (.getfield 205, 3) := by decide +kernel
theorem dX6_settle_27 : decode cX6_settle 27 = .ok (.invokestatic 40, 3) := by decide +kernel
theorem dX6_settle_30 : decode cX6_settle 30 = .ok (.aload_n 3, 1) := by decide +kernel
theorem dX6_settle_31 : decode cX6_settle 31 = .ok (.iload_n 2, 1) := by decide +kernel
theorem dX6_settle_32 : decode cX6_settle 32 = .ok (.invokevirtual 215, 3) := by decide +kernel
theorem dX6_settle_35 : decode cX6_settle 35 = .ok (.aload_n 0, 1) := by decide +kernel
theorem dX6_settle_36 : decode cX6_settle 36 = .ok (.getfield 25, 3) := by decide +kernel
theorem dX6_settle_39 : decode cX6_settle 39 = .ok (.iload_n 1, 1) := by decide +kernel
theorem dX6_settle_40 : decode cX6_settle 40 = .ok (.iload_n 2, 1) := by decide +kernel
theorem dX6_settle_41 : decode cX6_settle 41 = .ok (.ineg, 1) := by decide +kernel
theorem dX6_settle_42 : decode cX6_settle 42 = .ok (.invokevirtual 153, 3) := by decide +kernel
theorem dX6_settle_45 : decode cX6_settle 45 = .ok (.aload_n 3, 1) := by decide +kernel
theorem dX6_settle_46 : decode cX6_settle 46 = .ok (.invokevirtual 135, 3) := by decide +kernel
theorem dX6_settle_49 : decode cX6_settle 49 = .ok (.ireturn, 1) := by decide +kernel
theorem dX6_chargeInterest_0 : decode cX6_chargeInterest 0 = .ok (.aload_n 0, 1) := by decide +kernel
theorem dX6_chargeInterest_1 : decode cX6_chargeInterest 1 = .ok (.iload_n 1, 1) := by decide +kernel
theorem dX6_chargeInterest_2 : decode cX6_chargeInterest 2 = .ok (.invokevirtual 60, 3) := by decide +kernel
theorem dX6_chargeInterest_5 : decode cX6_chargeInterest 5 = .ok (.astore_n 3, 1) := by decide +kernel
theorem dX6_chargeInterest_6 : decode cX6_chargeInterest 6 = .ok (.iload_n 2, 1) := by decide +kernel
theorem dX6_chargeInterest_7 : decode cX6_chargeInterest 7 = .ok (.iconst 0, 1) := by decide +kernel
theorem dX6_chargeInterest_8 : decode cX6_chargeInterest 8 = .ok (.bipush 120, 2) := by decide +kernel
theorem dX6_chargeInterest_10 : decode cX6_chargeInterest 10 = .ok (.invokestatic 40, 3) := by decide +kernel
theorem dX6_chargeInterest_13 : decode cX6_chargeInterest 13 = .ok (.aload_n 0, 1) := by decide +kernel
theorem dX6_chargeInterest_14 : decode cX6_chargeInterest 14 = .ok (.aload_n 3, 1) := by decide +kernel
theorem dX6_chargeInterest_15 : decode cX6_chargeInterest 15 = .ok (.invokevirtual 218, 3) := by decide +kernel
theorem dX6_chargeInterest_18 : decode cX6_chargeInterest 18 = .ok (.istore 4, 2) := by decide +kernel
theorem dX6_chargeInterest_20 : decode cX6_chargeInterest 20 = .ok (.iload 4, 2) := by decide +kernel
theorem dX6_chargeInterest_22 : decode cX6_chargeInterest 22 = .ok (.ifCond .ne 5, 3) := by decide +kernel
theorem dX6_chargeInterest_25 : decode cX6_chargeInterest 25 = .ok (.iconst (-1), 1) := by decide +kernel
theorem dX6_chargeInterest_26 : decode cX6_chargeInterest 26 = .ok (.ireturn, 1) := by decide +kernel
theorem dX6_chargeInterest_27 : decode cX6_chargeInterest 27 = .ok (.aload_n 0, 1) := by decide +kernel
theorem dX6_chargeInterest_28 : decode cX6_chargeInterest 28 = .ok (.getfield 16, 3) := by decide +kernel
theorem dX6_chargeInterest_31 : decode cX6_chargeInterest 31 = .ok (.invokevirtual 44, 3) := by decide +kernel
theorem dX6_chargeInterest_34 : decode cX6_chargeInterest 34 = .ok (.bipush 24, 2) := by decide +kernel
theorem dX6_chargeInterest_36 : decode cX6_chargeInterest 36 = .ok (.invokestatic 48, 3) := by decide +kernel
theorem dX6_chargeInterest_39 : decode cX6_chargeInterest 39 = .ok (.iconst 0, 1) := by decide +kernel
theorem dX6_chargeInterest_40 : decode cX6_chargeInterest 40 = .ok (.istore 5, 2) := by decide +kernel
theorem dX6_chargeInterest_42 : decode cX6_chargeInterest 42 = .ok (.iload 5, 2) := by decide +kernel
theorem dX6_chargeInterest_44 : decode cX6_chargeInterest 44 = .ok (.aload_n 0, 1) := by decide +kernel
theorem dX6_chargeInterest_45 : decode cX6_chargeInterest 45 = .ok (.getfield 16, 3) := by decide +kernel
theorem dX6_chargeInterest_48 : decode cX6_chargeInterest 48 = .ok (.invokevirtual 44, 3) := by decide +kernel
theorem dX6_chargeInterest_51 : decode cX6_chargeInterest 51 = .ok (.if_icmp .ge 37, 3) := by decide +kernel
theorem dX6_chargeInterest_54 : decode cX6_chargeInterest 54 = .ok (.aload_n 0, 1) := by decide +kernel
theorem dX6_chargeInterest_55 : decode cX6_chargeInterest 55 = .ok (.getfield 16, 3) := by decide +kernel
theorem dX6_chargeInterest_58 : decode cX6_chargeInterest 58 = .ok (.iload 5, 2) := by decide +kernel
theorem dX6_chargeInterest_60 : decode cX6_chargeInterest 60 = .ok (.invokevirtual 86, 3) := by decide +kernel
theorem dX6_chargeInterest_63 : decode cX6_chargeInterest 63 = .ok (.checkcast 90, 3) := by decide +kernel
theorem dX6_chargeInterest_66 : decode cX6_chargeInterest 66 = .ok (.astore 6, 2) := by decide +kernel
theorem dX6_chargeInterest_68 : decode cX6_chargeInterest 68 = .ok (.aload 6, 2) := by decide +kernel
theorem dX6_chargeInterest_70 : decode cX6_chargeInterest 70 = .ok (.getfield 127, 3) := by decide +kernel
theorem dX6_chargeInterest_73 : decode cX6_chargeInterest 73 = .ok (.aload_n 3, 1) := by decide +kernel
theorem dX6_chargeInterest_74 : decode cX6_chargeInterest 74 = .ok (.if_acmp .ne 8, 3) := by decide +kernel
theorem dX6_chargeInterest_77 : decode cX6_chargeInterest 77 = .ok (.aload 6, 2) := by decide +kernel
theorem dX6_chargeInterest_79 : decode cX6_chargeInterest 79 = .ok (.invokevirtual 222, 3) := by decide +kernel
theorem dX6_chargeInterest_82 : decode cX6_chargeInterest 82 = .ok (.iinc 5 1, 3) := by decide +kernel
theorem dX6_chargeInterest_85 : decode cX6_chargeInterest 85 = .ok (.goto (-43), 3) := by decide +kernel
theorem dX6_chargeInterest_88 : decode cX6_chargeInterest 88 = .ok (.aload_n 0, 1) := by decide +kernel
theorem dX6_chargeInterest_89 : decode cX6_chargeInterest 89 = .ok (.new 90, 3) := by decide +kernel
theorem dX6_chargeInterest_92 : decode cX6_chargeInterest 92 = .ok (.dup, 1) := by decide +kernel
theorem dX6_chargeInterest_93 : decode cX6_chargeInterest 93 = .ok (.aload_n 3, 1) := by decide +kernel
theorem dX6_chargeInterest_94 : decode cX6_chargeInterest 94 = .ok (.iload 4, 2) := by decide +kernel
theorem dX6_chargeInterest_96 : decode cX6_chargeInterest 96 = .ok (.aload_n 0, 1) := by decide +kernel
theorem dX6_chargeInterest_97 : decode cX6_chargeInterest 97 = .ok (.getfield 36, 3) := by decide +kernel
theorem dX6_chargeInterest_100 : decode cX6_chargeInterest 100 = .ok (.iload_n 2, 1) := by decide +kernel
theorem dX6_chargeInterest_101 : decode cX6_chargeInterest 101 = .ok (.iadd, 1) := by decide +kernel
theorem dX6_chargeInterest_102 : decode cX6_chargeInterest 102 = .ok (.iconst 1, 1) := by decide +kernel
theorem dX6_chargeInterest_103 : decode cX6_chargeInterest 103 = .ok (.invokespecial 100, 3) := by decide +kernel
theorem dX6_chargeInterest_106 : decode cX6_chargeInterest 106 = .ok (.invokevirtual 103, 3) := by decide +kernel
theorem dX6_chargeInterest_109 : decode cX6_chargeInterest 109 = .ok (.ireturn, 1) := by decide +kernel
theorem dX6_accrued_0 : decode cX6_accrued 0 = .ok (.aload_n 0, 1) := by decide +kernel
theorem dX6_accrued_1 : decode cX6_accrued 1 = .ok (.iload_n 1, 1) := by decide +kernel
theorem dX6_accrued_2 : decode cX6_accrued 2 = .ok (.invokevirtual 120, 3) := by decide +kernel
theorem dX6_accrued_5 : decode cX6_accrued 5 = .ok (.invokevirtual 225, 3) := by decide +kernel
theorem dX6_accrued_8 : decode cX6_accrued 8 = .ok (.ireturn, 1) := by decide +kernel
theorem dX6_isInterest_0 : decode cX6_isInterest 0 = .ok (.aload_n 0, 1) := by decide +kernel
theorem dX6_isInterest_1 : decode cX6_isInterest 1 = .ok (.iload_n 1, 1) := by decide +kernel
theorem dX6_isInterest_2 : decode cX6_isInterest 2 = .ok (.invokevirtual 120, 3) := by decide +kernel
theorem dX6_isInterest_5 : decode cX6_isInterest 5 = .ok (.getfield 228, 3) := by decide +kernel
theorem dX6_isInterest_8 : decode cX6_isInterest 8 = .ok (.ireturn, 1) := by decide +kernel
theorem dX6_accruedOfAll_0 : decode cX6_accruedOfAll 0 = .ok (.iconst 0, 1) := by decide +kernel
theorem dX6_accruedOfAll_1 : decode cX6_accruedOfAll 1 = .ok (.istore_n 2, 1) := by decide +kernel
theorem dX6_accruedOfAll_2 : decode cX6_accruedOfAll 2 = .ok (.iconst 0, 1) := by decide +kernel
theorem dX6_accruedOfAll_3 : decode cX6_accruedOfAll 3 = .ok (.istore_n 3, 1) := by decide +kernel
theorem dX6_accruedOfAll_4 : decode cX6_accruedOfAll 4 = .ok (.iload_n 3, 1) := by decide +kernel
theorem dX6_accruedOfAll_5 : decode cX6_accruedOfAll 5 = .ok (.aload_n 0, 1) := by decide +kernel
theorem dX6_accruedOfAll_6 : decode cX6_accruedOfAll 6 = .ok (.getfield 16, 3) := by decide +kernel
theorem dX6_accruedOfAll_9 : decode cX6_accruedOfAll 9 = .ok (.invokevirtual 44, 3) := by decide +kernel
theorem dX6_accruedOfAll_12 : decode cX6_accruedOfAll 12 = .ok (.if_icmp .ge 39, 3) := by decide +kernel
theorem dX6_accruedOfAll_15 : decode cX6_accruedOfAll 15 = .ok (.aload_n 0, 1) := by decide +kernel
theorem dX6_accruedOfAll_16 : decode cX6_accruedOfAll 16 = .ok (.getfield 16, 3) := by decide +kernel
theorem dX6_accruedOfAll_19 : decode cX6_accruedOfAll 19 = .ok (.iload_n 3, 1) := by decide +kernel
theorem dX6_accruedOfAll_20 : decode cX6_accruedOfAll 20 = .ok (.invokevirtual 86, 3) := by decide +kernel
theorem dX6_accruedOfAll_23 : decode cX6_accruedOfAll 23 = .ok (.checkcast 90, 3) := by decide +kernel
theorem dX6_accruedOfAll_26 : decode cX6_accruedOfAll 26 = .ok (.astore 4, 2) := by decide +kernel
theorem dX6_accruedOfAll_28 : decode cX6_accruedOfAll 28 = .ok (.aload 4, 2) := by decide +kernel
theorem dX6_accruedOfAll_30 : decode cX6_accruedOfAll 30 = .ok (.getfield 127, 3) := by decide +kernel
theorem dX6_accruedOfAll_33 : decode cX6_accruedOfAll 33 = .ok (.aload_n 1, 1) := by decide +kernel
theorem dX6_accruedOfAll_34 : decode cX6_accruedOfAll 34 = .ok (.if_acmp .ne 11, 3) := by decide +kernel
theorem dX6_accruedOfAll_37 : decode cX6_accruedOfAll 37 = .ok (.iload_n 2, 1) := by decide +kernel
theorem dX6_accruedOfAll_38 : decode cX6_accruedOfAll 38 = .ok (.aload 4, 2) := by decide +kernel
theorem dX6_accruedOfAll_40 : decode cX6_accruedOfAll 40 = .ok (.invokevirtual 225, 3) := by decide +kernel
theorem dX6_accruedOfAll_43 : decode cX6_accruedOfAll 43 = .ok (.iadd, 1) := by decide +kernel
theorem dX6_accruedOfAll_44 : decode cX6_accruedOfAll 44 = .ok (.istore_n 2, 1) := by decide +kernel
theorem dX6_accruedOfAll_45 : decode cX6_accruedOfAll 45 = .ok (.iinc 3 1, 3) := by decide +kernel
theorem dX6_accruedOfAll_48 : decode cX6_accruedOfAll 48 = .ok (.goto (-44), 3) := by decide +kernel
theorem dX6_accruedOfAll_51 : decode cX6_accruedOfAll 51 = .ok (.iload_n 2, 1) := by decide +kernel
theorem dX6_accruedOfAll_52 : decode cX6_accruedOfAll 52 = .ok (.ireturn, 1) := by decide +kernel
theorem dX6_customers_0 : decode cX6_customers 0 = .ok (.aload_n 0, 1) := by decide +kernel
theorem dX6_customers_1 : decode cX6_customers 1 = .ok (.getfield 10, 3) := by decide +kernel
theorem dX6_customers_4 : decode cX6_customers 4 = .ok (.invokevirtual 44, 3) := by decide +kernel
theorem dX6_customers_7 : decode cX6_customers 7 = .ok (.ireturn, 1) := by decide +kernel
theorem dX6_invoices_0 : decode cX6_invoices 0 = .ok (.aload_n 0, 1) := by decide +kernel
theorem dX6_invoices_1 : decode cX6_invoices 1 = .ok (.getfield 16, 3) := by decide +kernel
theorem dX6_invoices_4 : decode cX6_invoices 4 = .ok (.invokevirtual 44, 3) := by decide +kernel
theorem dX6_invoices_7 : decode cX6_invoices 7 = .ok (.ireturn, 1) := by decide +kernel
theorem dX6_payments_0 : decode cX6_payments 0 = .ok (.aload_n 0, 1) := by decide +kernel
theorem dX6_payments_1 : decode cX6_payments 1 = .ok (.getfield 19, 3) := by decide +kernel
theorem dX6_payments_4 : decode cX6_payments 4 = .ok (.invokevirtual 44, 3) := by decide +kernel
theorem dX6_payments_7 : decode cX6_payments 7 = .ok (.ireturn, 1) := by decide +kernel
theorem dX6_amountOf_0 : decode cX6_amountOf 0 = .ok (.aload_n 0, 1) := by decide +kernel
theorem dX6_amountOf_1 : decode cX6_amountOf 1 = .ok (.iload_n 1, 1) := by decide +kernel
theorem dX6_amountOf_2 : decode cX6_amountOf 2 = .ok (.invokevirtual 120, 3) := by decide +kernel
theorem dX6_amountOf_5 : decode cX6_amountOf 5 = .ok (.getfield 150, 3) := by decide +kernel
theorem dX6_amountOf_8 : decode cX6_amountOf 8 = .ok (.ireturn, 1) := by decide +kernel
theorem dX6_dueDay_0 : decode cX6_dueDay 0 = .ok (.aload_n 0, 1) := by decide +kernel
theorem dX6_dueDay_1 : decode cX6_dueDay 1 = .ok (.iload_n 1, 1) := by decide +kernel
theorem dX6_dueDay_2 : decode cX6_dueDay 2 = .ok (.invokevirtual 120, 3) := by decide +kernel
theorem dX6_dueDay_5 : decode cX6_dueDay 5 = .ok (.getfield 186, 3) := by decide +kernel
theorem dX6_dueDay_8 : decode cX6_dueDay 8 = .ok (.ireturn, 1) := by decide +kernel
theorem dX6_openOf_0 : decode cX6_openOf 0 = .ok (.aload_n 0, 1) := by decide +kernel
theorem dX6_openOf_1 : decode cX6_openOf 1 = .ok (.iload_n 1, 1) := by decide +kernel
theorem dX6_openOf_2 : decode cX6_openOf 2 = .ok (.invokevirtual 120, 3) := by decide +kernel
theorem dX6_openOf_5 : decode cX6_openOf 5 = .ok (.invokevirtual 135, 3) := by decide +kernel
theorem dX6_openOf_8 : decode cX6_openOf 8 = .ok (.ireturn, 1) := by decide +kernel
theorem dX6_openByLedger_0 : decode cX6_openByLedger 0 = .ok (.aload_n 0, 1) := by decide +kernel
theorem dX6_openByLedger_1 : decode cX6_openByLedger 1 = .ok (.iload_n 1, 1) := by decide +kernel
theorem dX6_openByLedger_2 : decode cX6_openByLedger 2 = .ok (.invokevirtual 120, 3) := by decide +kernel
theorem dX6_openByLedger_5 : decode cX6_openByLedger 5 = .ok (.pop, 1) := by decide +kernel
theorem dX6_openByLedger_6 : decode cX6_openByLedger 6 = .ok (.aload_n 0, 1) := by decide +kernel
theorem dX6_openByLedger_7 : decode cX6_openByLedger 7 = .ok (.getfield 25, 3) := by decide +kernel
theorem dX6_openByLedger_10 : decode cX6_openByLedger 10 = .ok (.iload_n 1, 1) := by decide +kernel
theorem dX6_openByLedger_11 : decode cX6_openByLedger 11 = .ok (.invokevirtual 231, 3) := by decide +kernel
theorem dX6_openByLedger_14 : decode cX6_openByLedger 14 = .ok (.ireturn, 1) := by decide +kernel
theorem dX6_disputedOf_0 : decode cX6_disputedOf 0 = .ok (.aload_n 0, 1) := by decide +kernel
theorem dX6_disputedOf_1 : decode cX6_disputedOf 1 = .ok (.iload_n 1, 1) := by decide +kernel
theorem dX6_disputedOf_2 : decode cX6_disputedOf 2 = .ok (.invokevirtual 120, 3) := by decide +kernel
theorem dX6_disputedOf_5 : decode cX6_disputedOf 5 = .ok (.getfield 205, 3) := by decide +kernel
theorem dX6_disputedOf_8 : decode cX6_disputedOf 8 = .ok (.ireturn, 1) := by decide +kernel
theorem dX6_allocated_0 : decode cX6_allocated 0 = .ok (.aload_n 0, 1) := by decide +kernel
theorem dX6_allocated_1 : decode cX6_allocated 1 = .ok (.iload_n 1, 1) := by decide +kernel
theorem dX6_allocated_2 : decode cX6_allocated 2 = .ok (.invokevirtual 116, 3) := by decide +kernel
theorem dX6_allocated_5 : decode cX6_allocated 5 = .ok (.astore_n 3, 1) := by decide +kernel
theorem dX6_allocated_6 : decode cX6_allocated 6 = .ok (.aload_n 0, 1) := by decide +kernel
theorem dX6_allocated_7 : decode cX6_allocated 7 = .ok (.iload_n 2, 1) := by decide +kernel
theorem dX6_allocated_8 : decode cX6_allocated 8 = .ok (.invokevirtual 120, 3) := by decide +kernel
theorem dX6_allocated_11 : decode cX6_allocated 11 = .ok (.pop, 1) := by decide +kernel
theorem dX6_allocated_12 : decode cX6_allocated 12 = .ok (.aload_n 3, 1) := by decide +kernel
theorem dX6_allocated_13 : decode cX6_allocated 13 = .ok (.iload_n 2, 1) := by decide +kernel
theorem dX6_allocated_14 : decode cX6_allocated 14 = .ok (.invokevirtual 199, 3) := by decide +kernel
theorem dX6_allocated_17 : decode cX6_allocated 17 = .ok (.ireturn, 1) := by decide +kernel
theorem dX6_unallocated_0 : decode cX6_unallocated 0 = .ok (.aload_n 0, 1) := by decide +kernel
theorem dX6_unallocated_1 : decode cX6_unallocated 1 = .ok (.iload_n 1, 1) := by decide +kernel
theorem dX6_unallocated_2 : decode cX6_unallocated 2 = .ok (.invokevirtual 116, 3) := by decide +kernel
theorem dX6_unallocated_5 : decode cX6_unallocated 5 = .ok (.invokevirtual 132, 3) := by decide +kernel
theorem dX6_unallocated_8 : decode cX6_unallocated 8 = .ok (.ireturn, 1) := by decide +kernel
theorem dX6_balance_0 : decode cX6_balance 0 = .ok (.aload_n 0, 1) := by decide +kernel
theorem dX6_balance_1 : decode cX6_balance 1 = .ok (.iload_n 1, 1) := by decide +kernel
theorem dX6_balance_2 : decode cX6_balance 2 = .ok (.invokevirtual 60, 3) := by decide +kernel
theorem dX6_balance_5 : decode cX6_balance 5 = .ok (.astore_n 2, 1) := by decide +kernel
theorem dX6_balance_6 : decode cX6_balance 6 = .ok (.iconst 0, 1) := by decide +kernel
theorem dX6_balance_7 : decode cX6_balance 7 = .ok (.istore_n 3, 1) := by decide +kernel
theorem dX6_balance_8 : decode cX6_balance 8 = .ok (.iconst 0, 1) := by decide +kernel
theorem dX6_balance_9 : decode cX6_balance 9 = .ok (.istore 4, 2) := by decide +kernel
theorem dX6_balance_11 : decode cX6_balance 11 = .ok (.iload 4, 2) := by decide +kernel
theorem dX6_balance_13 : decode cX6_balance 13 = .ok (.aload_n 0, 1) := by decide +kernel
theorem dX6_balance_14 : decode cX6_balance 14 = .ok (.getfield 16, 3) := by decide +kernel
theorem dX6_balance_17 : decode cX6_balance 17 = .ok (.invokevirtual 44, 3) := by decide +kernel
theorem dX6_balance_20 : decode cX6_balance 20 = .ok (.if_icmp .ge 40, 3) := by decide +kernel
theorem dX6_balance_23 : decode cX6_balance 23 = .ok (.aload_n 0, 1) := by decide +kernel
theorem dX6_balance_24 : decode cX6_balance 24 = .ok (.getfield 16, 3) := by decide +kernel
theorem dX6_balance_27 : decode cX6_balance 27 = .ok (.iload 4, 2) := by decide +kernel
theorem dX6_balance_29 : decode cX6_balance 29 = .ok (.invokevirtual 86, 3) := by decide +kernel
theorem dX6_balance_32 : decode cX6_balance 32 = .ok (.checkcast 90, 3) := by decide +kernel
theorem dX6_balance_35 : decode cX6_balance 35 = .ok (.astore 5, 2) := by decide +kernel
theorem dX6_balance_37 : decode cX6_balance 37 = .ok (.aload 5, 2) := by decide +kernel
theorem dX6_balance_39 : decode cX6_balance 39 = .ok (.getfield 127, 3) := by decide +kernel
theorem dX6_balance_42 : decode cX6_balance 42 = .ok (.aload_n 2, 1) := by decide +kernel
theorem dX6_balance_43 : decode cX6_balance 43 = .ok (.if_acmp .ne 11, 3) := by decide +kernel
theorem dX6_balance_46 : decode cX6_balance 46 = .ok (.iload_n 3, 1) := by decide +kernel
theorem dX6_balance_47 : decode cX6_balance 47 = .ok (.aload 5, 2) := by decide +kernel
theorem dX6_balance_49 : decode cX6_balance 49 = .ok (.invokevirtual 135, 3) := by decide +kernel
theorem dX6_balance_52 : decode cX6_balance 52 = .ok (.iadd, 1) := by decide +kernel
theorem dX6_balance_53 : decode cX6_balance 53 = .ok (.istore_n 3, 1) := by decide +kernel
theorem dX6_balance_54 : decode cX6_balance 54 = .ok (.iinc 4 1, 3) := by decide +kernel
theorem dX6_balance_57 : decode cX6_balance 57 = .ok (.goto (-46), 3) := by decide +kernel
theorem dX6_balance_60 : decode cX6_balance 60 = .ok (.iconst 0, 1) := by decide +kernel
theorem dX6_balance_61 : decode cX6_balance 61 = .ok (.istore 4, 2) := by decide +kernel
theorem dX6_balance_63 : decode cX6_balance 63 = .ok (.iload 4, 2) := by decide +kernel
theorem dX6_balance_65 : decode cX6_balance 65 = .ok (.aload_n 0, 1) := by decide +kernel
theorem dX6_balance_66 : decode cX6_balance 66 = .ok (.getfield 19, 3) := by decide +kernel
theorem dX6_balance_69 : decode cX6_balance 69 = .ok (.invokevirtual 44, 3) := by decide +kernel
theorem dX6_balance_72 : decode cX6_balance 72 = .ok (.if_icmp .ge 40, 3) := by decide +kernel
theorem dX6_balance_75 : decode cX6_balance 75 = .ok (.aload_n 0, 1) := by decide +kernel
theorem dX6_balance_76 : decode cX6_balance 76 = .ok (.getfield 19, 3) := by decide +kernel
theorem dX6_balance_79 : decode cX6_balance 79 = .ok (.iload 4, 2) := by decide +kernel
theorem dX6_balance_81 : decode cX6_balance 81 = .ok (.invokevirtual 86, 3) := by decide +kernel
theorem dX6_balance_84 : decode cX6_balance 84 = .ok (.checkcast 107, 3) := by decide +kernel
theorem dX6_balance_87 : decode cX6_balance 87 = .ok (.astore 5, 2) := by decide +kernel
theorem dX6_balance_89 : decode cX6_balance 89 = .ok (.aload 5, 2) := by decide +kernel
theorem dX6_balance_91 : decode cX6_balance 91 = .ok (.getfield 131, 3) := by decide +kernel
theorem dX6_balance_94 : decode cX6_balance 94 = .ok (.aload_n 2, 1) := by decide +kernel
theorem dX6_balance_95 : decode cX6_balance 95 = .ok (.if_acmp .ne 11, 3) := by decide +kernel
theorem dX6_balance_98 : decode cX6_balance 98 = .ok (.iload_n 3, 1) := by decide +kernel
theorem dX6_balance_99 : decode cX6_balance 99 = .ok (.aload 5, 2) := by decide +kernel
theorem dX6_balance_101 : decode cX6_balance 101 = .ok (.invokevirtual 132, 3) := by decide +kernel
theorem dX6_balance_104 : decode cX6_balance 104 = .ok (.isub, 1) := by decide +kernel
theorem dX6_balance_105 : decode cX6_balance 105 = .ok (.istore_n 3, 1) := by decide +kernel
theorem dX6_balance_106 : decode cX6_balance 106 = .ok (.iinc 4 1, 3) := by decide +kernel
theorem dX6_balance_109 : decode cX6_balance 109 = .ok (.goto (-46), 3) := by decide +kernel
theorem dX6_balance_112 : decode cX6_balance 112 = .ok (.iload_n 3, 1) := by decide +kernel
theorem dX6_balance_113 : decode cX6_balance 113 = .ok (.ireturn, 1) := by decide +kernel
theorem dX6_bucketOf_0 : decode cX6_bucketOf 0 = .ok (.aload_n 0, 1) := by decide +kernel
theorem dX6_bucketOf_1 : decode cX6_bucketOf 1 = .ok (.iload_n 1, 1) := by decide +kernel
theorem dX6_bucketOf_2 : decode cX6_bucketOf 2 = .ok (.invokevirtual 120, 3) := by decide +kernel
theorem dX6_bucketOf_5 : decode cX6_bucketOf 5 = .ok (.aload_n 0, 1) := by decide +kernel
theorem dX6_bucketOf_6 : decode cX6_bucketOf 6 = .ok (.getfield 36, 3) := by decide +kernel
theorem dX6_bucketOf_9 : decode cX6_bucketOf 9 = .ok (.invokevirtual 234, 3) := by decide +kernel
theorem dX6_bucketOf_12 : decode cX6_bucketOf 12 = .ok (.ireturn, 1) := by decide +kernel
theorem dX6_ageing_0 : decode cX6_ageing 0 = .ok (.aload_n 0, 1) := by decide +kernel
theorem dX6_ageing_1 : decode cX6_ageing 1 = .ok (.iload_n 1, 1) := by decide +kernel
theorem dX6_ageing_2 : decode cX6_ageing 2 = .ok (.invokevirtual 60, 3) := by decide +kernel
theorem dX6_ageing_5 : decode cX6_ageing 5 = .ok (.astore_n 3, 1) := by decide +kernel
theorem dX6_ageing_6 : decode cX6_ageing 6 = .ok (.iload_n 2, 1) := by decide +kernel
theorem dX6_ageing_7 : decode cX6_ageing 7 = .ok (.iconst 5, 1) := by decide +kernel
theorem dX6_ageing_8 : decode cX6_ageing 8 = .ok (.invokestatic 237, 3) := by decide +kernel
theorem dX6_ageing_11 : decode cX6_ageing 11 = .ok (.iconst 0, 1) := by decide +kernel
theorem dX6_ageing_12 : decode cX6_ageing 12 = .ok (.istore 4, 2) := by decide +kernel
theorem dX6_ageing_14 : decode cX6_ageing 14 = .ok (.iconst 0, 1) := by decide +kernel
theorem dX6_ageing_15 : decode cX6_ageing 15 = .ok (.istore 5, 2) := by decide +kernel
theorem dX6_ageing_17 : decode cX6_ageing 17 = .ok (.iload 5, 2) := by decide +kernel
theorem dX6_ageing_19 : decode cX6_ageing 19 = .ok (.aload_n 0, 1) := by decide +kernel
theorem dX6_ageing_20 : decode cX6_ageing 20 = .ok (.getfield 16, 3) := by decide +kernel
theorem dX6_ageing_23 : decode cX6_ageing 23 = .ok (.invokevirtual 44, 3) := by decide +kernel
theorem dX6_ageing_26 : decode cX6_ageing 26 = .ok (.if_icmp .ge 55, 3) := by decide +kernel
theorem dX6_ageing_29 : decode cX6_ageing 29 = .ok (.aload_n 0, 1) := by decide +kernel
theorem dX6_ageing_30 : decode cX6_ageing 30 = .ok (.getfield 16, 3) := by decide +kernel
theorem dX6_ageing_33 : decode cX6_ageing 33 = .ok (.iload 5, 2) := by decide +kernel
theorem dX6_ageing_35 : decode cX6_ageing 35 = .ok (.invokevirtual 86, 3) := by decide +kernel
theorem dX6_ageing_38 : decode cX6_ageing 38 = .ok (.checkcast 90, 3) := by decide +kernel
theorem dX6_ageing_41 : decode cX6_ageing 41 = .ok (.astore 6, 2) := by decide +kernel
theorem dX6_ageing_43 : decode cX6_ageing 43 = .ok (.aload 6, 2) := by decide +kernel
theorem dX6_ageing_45 : decode cX6_ageing 45 = .ok (.getfield 127, 3) := by decide +kernel
theorem dX6_ageing_48 : decode cX6_ageing 48 = .ok (.aload_n 3, 1) := by decide +kernel
theorem dX6_ageing_49 : decode cX6_ageing 49 = .ok (.if_acmp .ne 26, 3) := by decide +kernel
theorem dX6_ageing_52 : decode cX6_ageing 52 = .ok (.aload 6, 2) := by decide +kernel
theorem dX6_ageing_54 : decode cX6_ageing 54 = .ok (.aload_n 0, 1) := by decide +kernel
theorem dX6_ageing_55 : decode cX6_ageing 55 = .ok (.getfield 36, 3) := by decide +kernel
theorem dX6_ageing_58 : decode cX6_ageing 58 = .ok (.invokevirtual 234, 3) := by decide +kernel
theorem dX6_ageing_61 : decode cX6_ageing 61 = .ok (.iload_n 2, 1) := by decide +kernel
theorem dX6_ageing_62 : decode cX6_ageing 62 = .ok (.if_icmp .ne 13, 3) := by decide +kernel
theorem dX6_ageing_65 : decode cX6_ageing 65 = .ok (.iload 4, 2) := by decide +kernel
theorem dX6_ageing_67 : decode cX6_ageing 67 = .ok (.aload 6, 2) := by decide +kernel
theorem dX6_ageing_69 : decode cX6_ageing 69 = .ok (.invokevirtual 135, 3) := by decide +kernel
theorem dX6_ageing_72 : decode cX6_ageing 72 = .ok (.iadd, 1) := by decide +kernel
theorem dX6_ageing_73 : decode cX6_ageing 73 = .ok (.istore 4, 2) := by decide +kernel
theorem dX6_ageing_75 : decode cX6_ageing 75 = .ok (.iinc 5 1, 3) := by decide +kernel
theorem dX6_ageing_78 : decode cX6_ageing 78 = .ok (.goto (-61), 3) := by decide +kernel
theorem dX6_ageing_81 : decode cX6_ageing 81 = .ok (.iload 4, 2) := by decide +kernel
theorem dX6_ageing_83 : decode cX6_ageing 83 = .ok (.ireturn, 1) := by decide +kernel
theorem dX6_oldest_0 : decode cX6_oldest 0 = .ok (.aload_n 0, 1) := by decide +kernel
theorem dX6_oldest_1 : decode cX6_oldest 1 = .ok (.aload_n 0, 1) := by decide +kernel
theorem dX6_oldest_2 : decode cX6_oldest 2 = .ok (.iload_n 1, 1) := by decide +kernel
theorem dX6_oldest_3 : decode cX6_oldest 3 = .ok (.invokevirtual 60, 3) := by decide +kernel
theorem dX6_oldest_6 : decode cX6_oldest 6 = .ok (.invokevirtual 156, 3) := by decide +kernel
theorem dX6_oldest_9 : decode cX6_oldest 9 = .ok (.aload_n 0, 1) := by decide +kernel
theorem dX6_oldest_10 : decode cX6_oldest 10 = .ok (.invokevirtual 179, 3) := by decide +kernel
theorem dX6_oldest_13 : decode cX6_oldest 13 = .ok (.ireturn, 1) := by decide +kernel
theorem dX6_levelOf_0 : decode cX6_levelOf 0 = .ok (.aload_n 0, 1) := by decide +kernel
theorem dX6_levelOf_1 : decode cX6_levelOf 1 = .ok (.iload_n 1, 1) := by decide +kernel
theorem dX6_levelOf_2 : decode cX6_levelOf 2 = .ok (.invokevirtual 120, 3) := by decide +kernel
theorem dX6_levelOf_5 : decode cX6_levelOf 5 = .ok (.getfield 240, 3) := by decide +kernel
theorem dX6_levelOf_8 : decode cX6_levelOf 8 = .ok (.ireturn, 1) := by decide +kernel
theorem dX6_daysToReminder_0 : decode cX6_daysToReminder 0 = .ok (.aload_n 0, 1) := by decide +kernel
theorem dX6_daysToReminder_1 : decode cX6_daysToReminder 1 = .ok (.iload_n 1, 1) := by decide +kernel
theorem dX6_daysToReminder_2 : decode cX6_daysToReminder 2 = .ok (.invokevirtual 120, 3) := by decide +kernel
theorem dX6_daysToReminder_5 : decode cX6_daysToReminder 5 = .ok (.aload_n 0, 1) := by decide +kernel
theorem dX6_daysToReminder_6 : decode cX6_daysToReminder 6 = .ok (.getfield 36, 3) := by decide +kernel
theorem dX6_daysToReminder_9 : decode cX6_daysToReminder 9 = .ok (.invokevirtual 243, 3) := by decide +kernel
theorem dX6_daysToReminder_12 : decode cX6_daysToReminder 12 = .ok (.ireturn, 1) := by decide +kernel
theorem dX6_invoicesAt_0 : decode cX6_invoicesAt 0 = .ok (.iload_n 1, 1) := by decide +kernel
theorem dX6_invoicesAt_1 : decode cX6_invoicesAt 1 = .ok (.iconst 0, 1) := by decide +kernel
theorem dX6_invoicesAt_2 : decode cX6_invoicesAt 2 = .ok (.iconst 4, 1) := by decide +kernel
theorem dX6_invoicesAt_3 : decode cX6_invoicesAt 3 = .ok (.invokestatic 40, 3) := by decide +kernel
theorem dX6_invoicesAt_6 : decode cX6_invoicesAt 6 = .ok (.iconst 0, 1) := by decide +kernel
theorem dX6_invoicesAt_7 : decode cX6_invoicesAt 7 = .ok (.istore_n 2, 1) := by decide +kernel
theorem dX6_invoicesAt_8 : decode cX6_invoicesAt 8 = .ok (.iconst 0, 1) := by decide +kernel
theorem dX6_invoicesAt_9 : decode cX6_invoicesAt 9 = .ok (.istore_n 3, 1) := by decide +kernel
theorem dX6_invoicesAt_10 : decode cX6_invoicesAt 10 = .ok (.iload_n 3, 1) := by decide +kernel
theorem dX6_invoicesAt_11 : decode cX6_invoicesAt 11 = .ok (.aload_n 0, 1) := by decide +kernel
theorem dX6_invoicesAt_12 : decode cX6_invoicesAt 12 = .ok (.getfield 16, 3) := by decide +kernel
theorem dX6_invoicesAt_15 : decode cX6_invoicesAt 15 = .ok (.invokevirtual 44, 3) := by decide +kernel
theorem dX6_invoicesAt_18 : decode cX6_invoicesAt 18 = .ok (.if_icmp .ge 30, 3) := by decide +kernel
theorem dX6_invoicesAt_21 : decode cX6_invoicesAt 21 = .ok (.aload_n 0, 1) := by decide +kernel
theorem dX6_invoicesAt_22 : decode cX6_invoicesAt 22 = .ok (.getfield 16, 3) := by decide +kernel
theorem dX6_invoicesAt_25 : decode cX6_invoicesAt 25 = .ok (.iload_n 3, 1) := by decide +kernel
theorem dX6_invoicesAt_26 : decode cX6_invoicesAt 26 = .ok (.invokevirtual 86, 3) := by decide +kernel
theorem dX6_invoicesAt_29 : decode cX6_invoicesAt 29 = .ok (.checkcast 90, 3) := by decide +kernel
theorem dX6_invoicesAt_32 : decode cX6_invoicesAt 32 = .ok (.getfield 240, 3) := by decide +kernel
theorem dX6_invoicesAt_35 : decode cX6_invoicesAt 35 = .ok (.iload_n 1, 1) := by decide +kernel
theorem dX6_invoicesAt_36 : decode cX6_invoicesAt 36 = .ok (.if_icmp .ne 6, 3) := by decide +kernel
theorem dX6_invoicesAt_39 : decode cX6_invoicesAt 39 = .ok (.iinc 2 1, 3) := by decide +kernel
theorem dX6_invoicesAt_42 : decode cX6_invoicesAt 42 = .ok (.iinc 3 1, 3) := by decide +kernel
theorem dX6_invoicesAt_45 : decode cX6_invoicesAt 45 = .ok (.goto (-35), 3) := by decide +kernel
theorem dX6_invoicesAt_48 : decode cX6_invoicesAt 48 = .ok (.iload_n 2, 1) := by decide +kernel
theorem dX6_invoicesAt_49 : decode cX6_invoicesAt 49 = .ok (.ireturn, 1) := by decide +kernel
theorem dX6_ledgerLines_0 : decode cX6_ledgerLines 0 = .ok (.aload_n 0, 1) := by decide +kernel
theorem dX6_ledgerLines_1 : decode cX6_ledgerLines 1 = .ok (.getfield 25, 3) := by decide +kernel
theorem dX6_ledgerLines_4 : decode cX6_ledgerLines 4 = .ok (.getfield 246, 3) := by decide +kernel
theorem dX6_ledgerLines_7 : decode cX6_ledgerLines 7 = .ok (.ireturn, 1) := by decide +kernel
theorem dX6_lineInvoice_0 : decode cX6_lineInvoice 0 = .ok (.iload_n 1, 1) := by decide +kernel
theorem dX6_lineInvoice_1 : decode cX6_lineInvoice 1 = .ok (.aload_n 0, 1) := by decide +kernel
theorem dX6_lineInvoice_2 : decode cX6_lineInvoice 2 = .ok (.getfield 25, 3) := by decide +kernel
theorem dX6_lineInvoice_5 : decode cX6_lineInvoice 5 = .ok (.getfield 246, 3) := by decide +kernel
theorem dX6_lineInvoice_8 : decode cX6_lineInvoice 8 = .ok (.invokestatic 237, 3) := by decide +kernel
theorem dX6_lineInvoice_11 : decode cX6_lineInvoice 11 = .ok (.aload_n 0, 1) := by decide +kernel
theorem dX6_lineInvoice_12 : decode cX6_lineInvoice 12 = .ok (.getfield 25, 3) := by decide +kernel
theorem dX6_lineInvoice_15 : decode cX6_lineInvoice 15 = .ok (.iload_n 1, 1) := by decide +kernel
theorem dX6_lineInvoice_16 : decode cX6_lineInvoice 16 = .ok (.invokevirtual 249, 3) := by decide +kernel
theorem dX6_lineInvoice_19 : decode cX6_lineInvoice 19 = .ok (.ireturn, 1) := by decide +kernel
theorem dX6_lineAmount_0 : decode cX6_lineAmount 0 = .ok (.iload_n 1, 1) := by decide +kernel
theorem dX6_lineAmount_1 : decode cX6_lineAmount 1 = .ok (.aload_n 0, 1) := by decide +kernel
theorem dX6_lineAmount_2 : decode cX6_lineAmount 2 = .ok (.getfield 25, 3) := by decide +kernel
theorem dX6_lineAmount_5 : decode cX6_lineAmount 5 = .ok (.getfield 246, 3) := by decide +kernel
theorem dX6_lineAmount_8 : decode cX6_lineAmount 8 = .ok (.invokestatic 237, 3) := by decide +kernel
theorem dX6_lineAmount_11 : decode cX6_lineAmount 11 = .ok (.aload_n 0, 1) := by decide +kernel
theorem dX6_lineAmount_12 : decode cX6_lineAmount 12 = .ok (.getfield 25, 3) := by decide +kernel
theorem dX6_lineAmount_15 : decode cX6_lineAmount 15 = .ok (.iload_n 1, 1) := by decide +kernel
theorem dX6_lineAmount_16 : decode cX6_lineAmount 16 = .ok (.invokevirtual 252, 3) := by decide +kernel
theorem dX6_lineAmount_19 : decode cX6_lineAmount 19 = .ok (.ireturn, 1) := by decide +kernel
theorem dX6_customerAt_0 : decode cX6_customerAt 0 = .ok (.iload_n 1, 1) := by decide +kernel
theorem dX6_customerAt_1 : decode cX6_customerAt 1 = .ok (.aload_n 0, 1) := by decide +kernel
theorem dX6_customerAt_2 : decode cX6_customerAt 2 = .ok (.getfield 10, 3) := by decide +kernel
theorem dX6_customerAt_5 : decode cX6_customerAt 5 = .ok (.invokevirtual 44, 3) := by decide +kernel
theorem dX6_customerAt_8 : decode cX6_customerAt 8 = .ok (.invokestatic 237, 3) := by decide +kernel
theorem dX6_customerAt_11 : decode cX6_customerAt 11 = .ok (.aload_n 0, 1) := by decide +kernel
theorem dX6_customerAt_12 : decode cX6_customerAt 12 = .ok (.getfield 10, 3) := by decide +kernel
theorem dX6_customerAt_15 : decode cX6_customerAt 15 = .ok (.iload_n 1, 1) := by decide +kernel
theorem dX6_customerAt_16 : decode cX6_customerAt 16 = .ok (.invokevirtual 86, 3) := by decide +kernel
theorem dX6_customerAt_19 : decode cX6_customerAt 19 = .ok (.checkcast 52, 3) := by decide +kernel
theorem dX6_customerAt_22 : decode cX6_customerAt 22 = .ok (.areturn, 1) := by decide +kernel
theorem dX6_invoiceAt_0 : decode cX6_invoiceAt 0 = .ok (.iload_n 1, 1) := by decide +kernel
theorem dX6_invoiceAt_1 : decode cX6_invoiceAt 1 = .ok (.aload_n 0, 1) := by decide +kernel
theorem dX6_invoiceAt_2 : decode cX6_invoiceAt 2 = .ok (.getfield 16, 3) := by decide +kernel
theorem dX6_invoiceAt_5 : decode cX6_invoiceAt 5 = .ok (.invokevirtual 44, 3) := by decide +kernel
theorem dX6_invoiceAt_8 : decode cX6_invoiceAt 8 = .ok (.invokestatic 237, 3) := by decide +kernel
theorem dX6_invoiceAt_11 : decode cX6_invoiceAt 11 = .ok (.aload_n 0, 1) := by decide +kernel
theorem dX6_invoiceAt_12 : decode cX6_invoiceAt 12 = .ok (.getfield 16, 3) := by decide +kernel
theorem dX6_invoiceAt_15 : decode cX6_invoiceAt 15 = .ok (.iload_n 1, 1) := by decide +kernel
theorem dX6_invoiceAt_16 : decode cX6_invoiceAt 16 = .ok (.invokevirtual 86, 3) := by decide +kernel
theorem dX6_invoiceAt_19 : decode cX6_invoiceAt 19 = .ok (.checkcast 90, 3) := by decide +kernel
theorem dX6_invoiceAt_22 : decode cX6_invoiceAt 22 = .ok (.areturn, 1) := by decide +kernel
theorem dX6_paymentAt_0 : decode cX6_paymentAt 0 = .ok (.iload_n 1, 1) := by decide +kernel
theorem dX6_paymentAt_1 : decode cX6_paymentAt 1 = .ok (.aload_n 0, 1) := by decide +kernel
theorem dX6_paymentAt_2 : decode cX6_paymentAt 2 = .ok (.getfield 19, 3) := by decide +kernel
theorem dX6_paymentAt_5 : decode cX6_paymentAt 5 = .ok (.invokevirtual 44, 3) := by decide +kernel
theorem dX6_paymentAt_8 : decode cX6_paymentAt 8 = .ok (.invokestatic 237, 3) := by decide +kernel
theorem dX6_paymentAt_11 : decode cX6_paymentAt 11 = .ok (.aload_n 0, 1) := by decide +kernel
theorem dX6_paymentAt_12 : decode cX6_paymentAt 12 = .ok (.getfield 19, 3) := by decide +kernel
theorem dX6_paymentAt_15 : decode cX6_paymentAt 15 = .ok (.iload_n 1, 1) := by decide +kernel
theorem dX6_paymentAt_16 : decode cX6_paymentAt 16 = .ok (.invokevirtual 86, 3) := by decide +kernel
theorem dX6_paymentAt_19 : decode cX6_paymentAt 19 = .ok (.checkcast 107, 3) := by decide +kernel
theorem dX6_paymentAt_22 : decode cX6_paymentAt 22 = .ok (.areturn, 1) := by decide +kernel
theorem dX6_requireIndex_0 : decode cX6_requireIndex 0 = .ok (.iload_n 0, 1) := by decide +kernel
theorem dX6_requireIndex_1 : decode cX6_requireIndex 1 = .ok (.ifCond .lt 8, 3) := by decide +kernel
theorem dX6_requireIndex_4 : decode cX6_requireIndex 4 = .ok (.iload_n 0, 1) := by decide +kernel
theorem dX6_requireIndex_5 : decode cX6_requireIndex 5 = .ok (.iload_n 1, 1) := by decide +kernel
theorem dX6_requireIndex_6 : decode cX6_requireIndex 6 = .ok (.if_icmp .lt 14, 3) := by decide +kernel
theorem dX6_requireIndex_9 : decode cX6_requireIndex 9 = .ok (.new 255, 3) := by decide +kernel
theorem dX6_requireIndex_12 : decode cX6_requireIndex 12 = .ok (.dup, 1) := by decide +kernel
theorem dX6_requireIndex_13 : decode cX6_requireIndex 13 = .ok (.ldc_w 257, 3) := by decide +kernel
theorem dX6_requireIndex_16 : decode cX6_requireIndex 16 = .ok (.invokespecial 259, 3) := by decide +kernel
theorem dX6_requireIndex_19 : decode cX6_requireIndex 19 = .ok (.athrow, 1) := by decide +kernel
theorem dX6_requireIndex_20 : decode cX6_requireIndex 20 = .ok (.return_, 1) := by decide +kernel
theorem dX6_requireRange_0 : decode cX6_requireRange 0 = .ok (.iload_n 0, 1) := by decide +kernel
theorem dX6_requireRange_1 : decode cX6_requireRange 1 = .ok (.iload_n 1, 1) := by decide +kernel
theorem dX6_requireRange_2 : decode cX6_requireRange 2 = .ok (.if_icmp .lt 8, 3) := by decide +kernel
theorem dX6_requireRange_5 : decode cX6_requireRange 5 = .ok (.iload_n 0, 1) := by decide +kernel
theorem dX6_requireRange_6 : decode cX6_requireRange 6 = .ok (.iload_n 2, 1) := by decide +kernel
theorem dX6_requireRange_7 : decode cX6_requireRange 7 = .ok (.if_icmp .le 14, 3) := by decide +kernel
theorem dX6_requireRange_10 : decode cX6_requireRange 10 = .ok (.new 262, 3) := by decide +kernel
theorem dX6_requireRange_13 : decode cX6_requireRange 13 = .ok (.dup, 1) := by decide +kernel
theorem dX6_requireRange_14 : decode cX6_requireRange 14 = .ok (.ldc_w 264, 3) := by decide +kernel
theorem dX6_requireRange_17 : decode cX6_requireRange 17 = .ok (.invokespecial 266, 3) := by decide +kernel
theorem dX6_requireRange_20 : decode cX6_requireRange 20 = .ok (.athrow, 1) := by decide +kernel
theorem dX6_requireRange_21 : decode cX6_requireRange 21 = .ok (.return_, 1) := by decide +kernel
theorem dX6_requireCent_0 : decode cX6_requireCent 0 = .ok (.iload_n 0, 1) := by decide +kernel
theorem dX6_requireCent_1 : decode cX6_requireCent 1 = .ok (.iconst 1, 1) := by decide +kernel
theorem dX6_requireCent_2 : decode cX6_requireCent 2 = .ok (.if_icmp .ge 14, 3) := by decide +kernel
theorem dX6_requireCent_5 : decode cX6_requireCent 5 = .ok (.new 262, 3) := by decide +kernel
theorem dX6_requireCent_8 : decode cX6_requireCent 8 = .ok (.dup, 1) := by decide +kernel
theorem dX6_requireCent_9 : decode cX6_requireCent 9 = .ok (.ldc_w 267, 3) := by decide +kernel
theorem dX6_requireCent_12 : decode cX6_requireCent 12 = .ok (.invokespecial 266, 3) := by decide +kernel
theorem dX6_requireCent_15 : decode cX6_requireCent 15 = .ok (.athrow, 1) := by decide +kernel
theorem dX6_requireCent_16 : decode cX6_requireCent 16 = .ok (.return_, 1) := by decide +kernel
theorem dX6_requireRoom_0 : decode cX6_requireRoom 0 = .ok (.iload_n 0, 1) := by decide +kernel
theorem dX6_requireRoom_1 : decode cX6_requireRoom 1 = .ok (.iload_n 1, 1) := by decide +kernel
theorem dX6_requireRoom_2 : decode cX6_requireRoom 2 = .ok (.if_icmp .lt 14, 3) := by decide +kernel
theorem dX6_requireRoom_5 : decode cX6_requireRoom 5 = .ok (.new 269, 3) := by decide +kernel
theorem dX6_requireRoom_8 : decode cX6_requireRoom 8 = .ok (.dup, 1) := by decide +kernel
theorem dX6_requireRoom_9 : decode cX6_requireRoom 9 = .ok (.ldc_w 271, 3) := by decide +kernel
theorem dX6_requireRoom_12 : decode cX6_requireRoom 12 = .ok (.invokespecial 273, 3) := by decide +kernel
theorem dX6_requireRoom_15 : decode cX6_requireRoom 15 = .ok (.athrow, 1) := by decide +kernel
theorem dX6_requireRoom_16 : decode cX6_requireRoom 16 = .ok (.return_, 1) := by decide +kernel
theorem dX6_requireState_0 : decode cX6_requireState 0 = .ok (.iload_n 0, 1) := by decide +kernel
theorem dX6_requireState_1 : decode cX6_requireState 1 = .ok (.ifCond .ne 14, 3) := by decide +kernel
theorem dX6_requireState_4 : decode cX6_requireState 4 = .ok (.new 269, 3) := by decide +kernel
theorem dX6_requireState_7 : decode cX6_requireState 7 = .ok (.dup, 1) := by decide +kernel
theorem dX6_requireState_8 : decode cX6_requireState 8 = .ok (.ldc_w 274, 3) := by decide +kernel
theorem dX6_requireState_11 : decode cX6_requireState 11 = .ok (.invokespecial 273, 3) := by decide +kernel
theorem dX6_requireState_14 : decode cX6_requireState 14 = .ok (.athrow, 1) := by decide +kernel
theorem dX6_requireState_15 : decode cX6_requireState 15 = .ok (.return_, 1) := by decide +kernel
end
section
theorem dX7_init_0 : decode cX7_init 0 = .ok (.aload_n 0, 1) := by decide +kernel
theorem dX7_init_1 : decode cX7_init 1 = .ok (.invokespecial 1, 3) := by decide +kernel
theorem dX7_init_4 : decode cX7_init 4 = .ok (.aload_n 0, 1) := by decide +kernel
theorem dX7_init_5 : decode cX7_init 5 = .ok (.bipush 6, 2) := by decide +kernel
theorem dX7_init_7 : decode cX7_init 7 = .ok (.newarray .int, 2) := by decide +kernel
theorem dX7_init_9 : decode cX7_init 9 = .ok (.putfield 7, 3) := by decide +kernel
theorem dX7_init_12 : decode cX7_init 12 = .ok (.aload_n 0, 1) := by decide +kernel
theorem dX7_init_13 : decode cX7_init 13 = .ok (.bipush 6, 2) := by decide +kernel
theorem dX7_init_15 : decode cX7_init 15 = .ok (.newarray .int, 2) := by decide +kernel
theorem dX7_init_17 : decode cX7_init 17 = .ok (.putfield 13, 3) := by decide +kernel
theorem dX7_init_20 : decode cX7_init 20 = .ok (.aload_n 0, 1) := by decide +kernel
theorem dX7_init_21 : decode cX7_init 21 = .ok (.bipush 6, 2) := by decide +kernel
theorem dX7_init_23 : decode cX7_init 23 = .ok (.newarray .int, 2) := by decide +kernel
theorem dX7_init_25 : decode cX7_init 25 = .ok (.putfield 16, 3) := by decide +kernel
theorem dX7_init_28 : decode cX7_init 28 = .ok (.aload_n 0, 1) := by decide +kernel
theorem dX7_init_29 : decode cX7_init 29 = .ok (.bipush 6, 2) := by decide +kernel
theorem dX7_init_31 : decode cX7_init 31 = .ok (.newarray .int, 2) := by decide +kernel
theorem dX7_init_33 : decode cX7_init 33 = .ok (.putfield 19, 3) := by decide +kernel
theorem dX7_init_36 : decode cX7_init 36 = .ok (.aload_n 0, 1) := by decide +kernel
theorem dX7_init_37 : decode cX7_init 37 = .ok (.bipush 24, 2) := by decide +kernel
theorem dX7_init_39 : decode cX7_init 39 = .ok (.newarray .int, 2) := by decide +kernel
theorem dX7_init_41 : decode cX7_init 41 = .ok (.putfield 22, 3) := by decide +kernel
theorem dX7_init_44 : decode cX7_init 44 = .ok (.aload_n 0, 1) := by decide +kernel
theorem dX7_init_45 : decode cX7_init 45 = .ok (.bipush 24, 2) := by decide +kernel
theorem dX7_init_47 : decode cX7_init 47 = .ok (.newarray .int, 2) := by decide +kernel
theorem dX7_init_49 : decode cX7_init 49 = .ok (.putfield 25, 3) := by decide +kernel
theorem dX7_init_52 : decode cX7_init 52 = .ok (.aload_n 0, 1) := by decide +kernel
theorem dX7_init_53 : decode cX7_init 53 = .ok (.bipush 24, 2) := by decide +kernel
theorem dX7_init_55 : decode cX7_init 55 = .ok (.newarray .int, 2) := by decide +kernel
theorem dX7_init_57 : decode cX7_init 57 = .ok (.putfield 28, 3) := by decide +kernel
theorem dX7_init_60 : decode cX7_init 60 = .ok (.aload_n 0, 1) := by decide +kernel
theorem dX7_init_61 : decode cX7_init 61 = .ok (.bipush 24, 2) := by decide +kernel
theorem dX7_init_63 : decode cX7_init 63 = .ok (.newarray .int, 2) := by decide +kernel
theorem dX7_init_65 : decode cX7_init 65 = .ok (.putfield 31, 3) := by decide +kernel
theorem dX7_init_68 : decode cX7_init 68 = .ok (.aload_n 0, 1) := by decide +kernel
theorem dX7_init_69 : decode cX7_init 69 = .ok (.bipush 24, 2) := by decide +kernel
theorem dX7_init_71 : decode cX7_init 71 = .ok (.newarray .int, 2) := by decide +kernel
theorem dX7_init_73 : decode cX7_init 73 = .ok (.putfield 34, 3) := by decide +kernel
theorem dX7_init_76 : decode cX7_init 76 = .ok (.aload_n 0, 1) := by decide +kernel
theorem dX7_init_77 : decode cX7_init 77 = .ok (.bipush 24, 2) := by decide +kernel
theorem dX7_init_79 : decode cX7_init 79 = .ok (.newarray .long, 2) := by decide +kernel
theorem dX7_init_81 : decode cX7_init 81 = .ok (.putfield 37, 3) := by decide +kernel
theorem dX7_init_84 : decode cX7_init 84 = .ok (.aload_n 0, 1) := by decide +kernel
theorem dX7_init_85 : decode cX7_init 85 = .ok (.bipush 24, 2) := by decide +kernel
theorem dX7_init_87 : decode cX7_init 87 = .ok (.newarray .boolean, 2) := by decide +kernel
theorem dX7_init_89 : decode cX7_init 89 = .ok (.putfield 41, 3) := by decide +kernel
theorem dX7_init_92 : decode cX7_init 92 = .ok (.aload_n 0, 1) := by decide +kernel
theorem dX7_init_93 : decode cX7_init 93 = .ok (.bipush 24, 2) := by decide +kernel
theorem dX7_init_95 : decode cX7_init 95 = .ok (.newarray .int, 2) := by decide +kernel
theorem dX7_init_97 : decode cX7_init 97 = .ok (.putfield 45, 3) := by decide +kernel
theorem dX7_init_100 : decode cX7_init 100 = .ok (.aload_n 0, 1) := by decide +kernel
theorem dX7_init_101 : decode cX7_init 101 = .ok (.bipush 24, 2) := by decide +kernel
theorem dX7_init_103 : decode cX7_init 103 = .ok (.newarray .int, 2) := by decide +kernel
theorem dX7_init_105 : decode cX7_init 105 = .ok (.putfield 48, 3) := by decide +kernel
theorem dX7_init_108 : decode cX7_init 108 = .ok (.aload_n 0, 1) := by decide +kernel
theorem dX7_init_109 : decode cX7_init 109 = .ok (.bipush 24, 2) := by decide +kernel
theorem dX7_init_111 : decode cX7_init 111 = .ok (.newarray .int, 2) := by decide +kernel
theorem dX7_init_113 : decode cX7_init 113 = .ok (.putfield 51, 3) := by decide +kernel
theorem dX7_init_116 : decode cX7_init 116 = .ok (.aload_n 0, 1) := by decide +kernel
theorem dX7_init_117 : decode cX7_init 117 = .ok (.bipush 24, 2) := by decide +kernel
theorem dX7_init_119 : decode cX7_init 119 = .ok (.newarray .int, 2) := by decide +kernel
theorem dX7_init_121 : decode cX7_init 121 = .ok (.putfield 54, 3) := by decide +kernel
theorem dX7_init_124 : decode cX7_init 124 = .ok (.aload_n 0, 1) := by decide +kernel
theorem dX7_init_125 : decode cX7_init 125 = .ok (.bipush 24, 2) := by decide +kernel
theorem dX7_init_127 : decode cX7_init 127 = .ok (.newarray .boolean, 2) := by decide +kernel
theorem dX7_init_129 : decode cX7_init 129 = .ok (.putfield 57, 3) := by decide +kernel
theorem dX7_init_132 : decode cX7_init 132 = .ok (.aload_n 0, 1) := by decide +kernel
theorem dX7_init_133 : decode cX7_init 133 = .ok (.sipush 576, 3) := by decide +kernel
theorem dX7_init_136 : decode cX7_init 136 = .ok (.newarray .int, 2) := by decide +kernel
theorem dX7_init_138 : decode cX7_init 138 = .ok (.putfield 60, 3) := by decide +kernel
theorem dX7_init_141 : decode cX7_init 141 = .ok (.aload_n 0, 1) := by decide +kernel
theorem dX7_init_142 : decode cX7_init 142 = .ok (.sipush 16000, 3) := by decide +kernel
theorem dX7_init_145 : decode cX7_init 145 = .ok (.newarray .int, 2) := by decide +kernel
theorem dX7_init_147 : decode cX7_init 147 = .ok (.putfield 63, 3) := by decide +kernel
theorem dX7_init_150 : decode cX7_init 150 = .ok (.aload_n 0, 1) := by decide +kernel
theorem dX7_init_151 : decode cX7_init 151 = .ok (.sipush 16000, 3) := by decide +kernel
theorem dX7_init_154 : decode cX7_init 154 = .ok (.newarray .int, 2) := by decide +kernel
theorem dX7_init_156 : decode cX7_init 156 = .ok (.putfield 66, 3) := by decide +kernel
theorem dX7_init_159 : decode cX7_init 159 = .ok (.aload_n 0, 1) := by decide +kernel
theorem dX7_init_160 : decode cX7_init 160 = .ok (.bipush 24, 2) := by decide +kernel
theorem dX7_init_162 : decode cX7_init 162 = .ok (.newarray .int, 2) := by decide +kernel
theorem dX7_init_164 : decode cX7_init 164 = .ok (.putfield 69, 3) := by decide +kernel
theorem dX7_init_167 : decode cX7_init 167 = .ok (.aload_n 0, 1) := by decide +kernel
theorem dX7_init_168 : decode cX7_init 168 = .ok (.bipush 24, 2) := by decide +kernel
theorem dX7_init_170 : decode cX7_init 170 = .ok (.newarray .long, 2) := by decide +kernel
theorem dX7_init_172 : decode cX7_init 172 = .ok (.putfield 72, 3) := by decide +kernel
theorem dX7_init_175 : decode cX7_init 175 = .ok (.return_, 1) := by decide +kernel
theorem dX7_thrown_0 : decode cX7_thrown 0 = .ok (.aload_n 0, 1) := by decide +kernel
theorem dX7_thrown_1 : decode cX7_thrown 1 = .ok (.getfield 75, 3) := by decide +kernel
theorem dX7_thrown_4 : decode cX7_thrown 4 = .ok (.ireturn, 1) := by decide +kernel
theorem dX7_refused_0 : decode cX7_refused 0 = .ok (.aload_n 0, 1) := by decide +kernel
theorem dX7_refused_1 : decode cX7_refused 1 = .ok (.iload_n 1, 1) := by decide +kernel
theorem dX7_refused_2 : decode cX7_refused 2 = .ok (.putfield 75, 3) := by decide +kernel
theorem dX7_refused_5 : decode cX7_refused 5 = .ok (.iload_n 1, 1) := by decide +kernel
theorem dX7_refused_6 : decode cX7_refused 6 = .ok (.ifCond .eq 7, 3) := by decide +kernel
theorem dX7_refused_9 : decode cX7_refused 9 = .ok (.iconst 1, 1) := by decide +kernel
theorem dX7_refused_10 : decode cX7_refused 10 = .ok (.goto 4, 3) := by decide +kernel
theorem dX7_refused_13 : decode cX7_refused 13 = .ok (.iconst 0, 1) := by decide +kernel
theorem dX7_refused_14 : decode cX7_refused 14 = .ok (.ireturn, 1) := by decide +kernel
theorem dX7_told_0 : decode cX7_told 0 = .ok (.aload_n 0, 1) := by decide +kernel
theorem dX7_told_1 : decode cX7_told 1 = .ok (.iconst 0, 1) := by decide +kernel
theorem dX7_told_2 : decode cX7_told 2 = .ok (.putfield 75, 3) := by decide +kernel
theorem dX7_told_5 : decode cX7_told 5 = .ok (.iload_n 1, 1) := by decide +kernel
theorem dX7_told_6 : decode cX7_told 6 = .ok (.ireturn, 1) := by decide +kernel
theorem dX7_within_0 : decode cX7_within 0 = .ok (.iload_n 0, 1) := by decide +kernel
theorem dX7_within_1 : decode cX7_within 1 = .ok (.iload_n 1, 1) := by decide +kernel
theorem dX7_within_2 : decode cX7_within 2 = .ok (.if_icmp .lt 12, 3) := by decide +kernel
theorem dX7_within_5 : decode cX7_within 5 = .ok (.iload_n 0, 1) := by decide +kernel
theorem dX7_within_6 : decode cX7_within 6 = .ok (.iload_n 2, 1) := by decide +kernel
theorem dX7_within_7 : decode cX7_within 7 = .ok (.if_icmp .gt 7, 3) := by decide +kernel
theorem dX7_within_10 : decode cX7_within 10 = .ok (.iconst 1, 1) := by decide +kernel
theorem dX7_within_11 : decode cX7_within 11 = .ok (.goto 4, 3) := by decide +kernel
theorem dX7_within_14 : decode cX7_within 14 = .ok (.iconst 0, 1) := by decide +kernel
theorem dX7_within_15 : decode cX7_within 15 = .ok (.ireturn, 1) := by decide +kernel
theorem dX7_isCustomer_0 : decode cX7_isCustomer 0 = .ok (.iload_n 1, 1) := by decide +kernel
theorem dX7_isCustomer_1 : decode cX7_isCustomer 1 = .ok (.iconst 0, 1) := by decide +kernel
theorem dX7_isCustomer_2 : decode cX7_isCustomer 2 = .ok (.aload_n 0, 1) := by decide +kernel
theorem dX7_isCustomer_3 : decode cX7_isCustomer 3 = .ok (.getfield 79, 3) := by decide +kernel
theorem dX7_isCustomer_6 : decode cX7_isCustomer 6 = .ok (.iconst 1, 1) := by decide +kernel
theorem dX7_isCustomer_7 : decode cX7_isCustomer 7 = .ok (.isub, 1) := by decide +kernel
theorem dX7_isCustomer_8 : decode cX7_isCustomer 8 = .ok (.invokestatic 82, 3) := by decide +kernel
theorem dX7_isCustomer_11 : decode cX7_isCustomer 11 = .ok (.ireturn, 1) := by decide +kernel
theorem dX7_isInvoice_0 : decode cX7_isInvoice 0 = .ok (.iload_n 1, 1) := by decide +kernel
theorem dX7_isInvoice_1 : decode cX7_isInvoice 1 = .ok (.iconst 0, 1) := by decide +kernel
theorem dX7_isInvoice_2 : decode cX7_isInvoice 2 = .ok (.aload_n 0, 1) := by decide +kernel
theorem dX7_isInvoice_3 : decode cX7_isInvoice 3 = .ok (.getfield 86, 3) := by decide +kernel
theorem dX7_isInvoice_6 : decode cX7_isInvoice 6 = .ok (.iconst 1, 1) := by decide +kernel
theorem dX7_isInvoice_7 : decode cX7_isInvoice 7 = .ok (.isub, 1) := by decide +kernel
theorem dX7_isInvoice_8 : decode cX7_isInvoice 8 = .ok (.invokestatic 82, 3) := by decide +kernel
theorem dX7_isInvoice_11 : decode cX7_isInvoice 11 = .ok (.ireturn, 1) := by decide +kernel
theorem dX7_isPayment_0 : decode cX7_isPayment 0 = .ok (.iload_n 1, 1) := by decide +kernel
theorem dX7_isPayment_1 : decode cX7_isPayment 1 = .ok (.iconst 0, 1) := by decide +kernel
theorem dX7_isPayment_2 : decode cX7_isPayment 2 = .ok (.aload_n 0, 1) := by decide +kernel
theorem dX7_isPayment_3 : decode cX7_isPayment 3 = .ok (.getfield 89, 3) := by decide +kernel
theorem dX7_isPayment_6 : decode cX7_isPayment 6 = .ok (.iconst 1, 1) := by decide +kernel
theorem dX7_isPayment_7 : decode cX7_isPayment 7 = .ok (.isub, 1) := by decide +kernel
theorem dX7_isPayment_8 : decode cX7_isPayment 8 = .ok (.invokestatic 82, 3) := by decide +kernel
theorem dX7_isPayment_11 : decode cX7_isPayment 11 = .ok (.ireturn, 1) := by decide +kernel
theorem dX7_noCustomer_0 : decode cX7_noCustomer 0 = .ok (.aload_n 0, 1) := by decide +kernel
theorem dX7_noCustomer_1 : decode cX7_noCustomer 1 = .ok (.aload_n 0, 1) := by decide +kernel
theorem dX7_noCustomer_2 : decode cX7_noCustomer 2 = .ok (.iload_n 1, 1) := by decide +kernel
theorem dX7_noCustomer_3 : decode cX7_noCustomer 3 = .ok (.invokevirtual 92, 3) := by decide +kernel
theorem dX7_noCustomer_6 : decode cX7_noCustomer 6 = .ok (.ifCond .eq 7, 3) := by decide +kernel
theorem dX7_noCustomer_9 : decode cX7_noCustomer 9 = .ok (.iconst 0, 1) := by decide +kernel
theorem dX7_noCustomer_10 : decode cX7_noCustomer 10 = .ok (.goto 4, 3) := by decide +kernel
theorem dX7_noCustomer_13 : decode cX7_noCustomer 13 = .ok (.iconst 1, 1) := by decide +kernel
theorem dX7_noCustomer_14 : decode cX7_noCustomer 14 = .ok (.invokevirtual 96, 3) := by decide +kernel
theorem dX7_noCustomer_17 : decode cX7_noCustomer 17 = .ok (.ireturn, 1) := by decide +kernel
theorem dX7_noInvoice_0 : decode cX7_noInvoice 0 = .ok (.aload_n 0, 1) := by decide +kernel
theorem dX7_noInvoice_1 : decode cX7_noInvoice 1 = .ok (.aload_n 0, 1) := by decide +kernel
theorem dX7_noInvoice_2 : decode cX7_noInvoice 2 = .ok (.iload_n 1, 1) := by decide +kernel
theorem dX7_noInvoice_3 : decode cX7_noInvoice 3 = .ok (.invokevirtual 99, 3) := by decide +kernel
theorem dX7_noInvoice_6 : decode cX7_noInvoice 6 = .ok (.ifCond .eq 7, 3) := by decide +kernel
theorem dX7_noInvoice_9 : decode cX7_noInvoice 9 = .ok (.iconst 0, 1) := by decide +kernel
theorem dX7_noInvoice_10 : decode cX7_noInvoice 10 = .ok (.goto 4, 3) := by decide +kernel
theorem dX7_noInvoice_13 : decode cX7_noInvoice 13 = .ok (.iconst 1, 1) := by decide +kernel
theorem dX7_noInvoice_14 : decode cX7_noInvoice 14 = .ok (.invokevirtual 96, 3) := by decide +kernel
theorem dX7_noInvoice_17 : decode cX7_noInvoice 17 = .ok (.ireturn, 1) := by decide +kernel
theorem dX7_clear_0 : decode cX7_clear 0 = .ok (.aload_n 0, 1) := by decide +kernel
theorem dX7_clear_1 : decode cX7_clear 1 = .ok (.getfield 31, 3) := by decide +kernel
theorem dX7_clear_4 : decode cX7_clear 4 = .ok (.iload_n 1, 1) := by decide +kernel
theorem dX7_clear_5 : decode cX7_clear 5 = .ok (.iaload, 1) := by decide +kernel
theorem dX7_clear_6 : decode cX7_clear 6 = .ok (.aload_n 0, 1) := by decide +kernel
theorem dX7_clear_7 : decode cX7_clear 7 = .ok (.getfield 34, 3) := by decide +kernel
theorem dX7_clear_10 : decode cX7_clear 10 = .ok (.iload_n 1, 1) := by decide +kernel
theorem dX7_clear_11 : decode cX7_clear 11 = .ok (.iaload, 1) := by decide +kernel
theorem dX7_clear_12 : decode cX7_clear 12 = .ok (.isub, 1) := by decide +kernel
theorem dX7_clear_13 : decode cX7_clear 13 = .ok (.ireturn, 1) := by decide +kernel
theorem dX7_thirties_0 : decode cX7_thirties 0 = .ok (.sipush 2001, 3) := by decide +kernel
theorem dX7_thirties_3 : decode cX7_thirties 3 = .ok (.istore_n 1, 1) := by decide +kernel
theorem dX7_thirties_4 : decode cX7_thirties 4 = .ok (.iload_n 0, 1) := by decide +kernel
theorem dX7_thirties_5 : decode cX7_thirties 5 = .ok (.istore_n 2, 1) := by decide +kernel
theorem dX7_thirties_6 : decode cX7_thirties 6 = .ok (.iload_n 2, 1) := by decide +kernel
theorem dX7_thirties_7 : decode cX7_thirties 7 = .ok (.sipush 365, 3) := by decide +kernel
theorem dX7_thirties_10 : decode cX7_thirties 10 = .ok (.if_icmp .lt 22, 3) := by decide +kernel
theorem dX7_thirties_13 : decode cX7_thirties 13 = .ok (.iload_n 1, 1) := by decide +kernel
theorem dX7_thirties_14 : decode cX7_thirties 14 = .ok (.sipush 2004, 3) := by decide +kernel
theorem dX7_thirties_17 : decode cX7_thirties 17 = .ok (.if_icmp .ge 15, 3) := by decide +kernel
theorem dX7_thirties_20 : decode cX7_thirties 20 = .ok (.iinc 2 (-365), 6) := by decide +kernel
theorem dX7_thirties_26 : decode cX7_thirties 26 = .ok (.iinc 1 1, 3) := by decide +kernel
theorem dX7_thirties_29 : decode cX7_thirties 29 = .ok (.goto (-23), 3) := by decide +kernel
theorem dX7_thirties_32 : decode cX7_thirties 32 = .ok (.iconst 1, 1) := by decide +kernel
theorem dX7_thirties_33 : decode cX7_thirties 33 = .ok (.istore_n 3, 1) := by decide +kernel
theorem dX7_thirties_34 : decode cX7_thirties 34 = .ok (.iload_n 2, 1) := by decide +kernel
theorem dX7_thirties_35 : decode cX7_thirties 35 = .ok (.iload_n 3, 1) := by decide +kernel
theorem dX7_thirties_36 : decode cX7_thirties 36 = .ok (.iload_n 1, 1) := by decide +kernel
theorem dX7_thirties_37 : decode cX7_thirties 37 = .ok (.invokestatic 102, 3) := by decide +kernel
theorem dX7_thirties_40 : decode cX7_thirties 40 = .ok (.if_icmp .lt 17, 3) := by decide +kernel
theorem dX7_thirties_43 : decode cX7_thirties 43 = .ok (.iload_n 2, 1) := by decide +kernel
theorem dX7_thirties_44 : decode cX7_thirties 44 = .ok (.iload_n 3, 1) := by decide +kernel
theorem dX7_thirties_45 : decode cX7_thirties 45 = .ok (.iload_n 1, 1) := by decide +kernel
theorem dX7_thirties_46 : decode cX7_thirties 46 = .ok (.invokestatic 102, 3) := by decide +kernel
theorem dX7_thirties_49 : decode cX7_thirties 49 = .ok (.isub, 1) := by decide +kernel
theorem dX7_thirties_50 : decode cX7_thirties 50 = .ok (.istore_n 2, 1) := by decide +kernel
theorem dX7_thirties_51 : decode cX7_thirties 51 = .ok (.iinc 3 1, 3) := by decide +kernel
theorem dX7_thirties_54 : decode cX7_thirties 54 = .ok (.goto (-20), 3) := by decide +kernel
theorem dX7_thirties_57 : decode cX7_thirties 57 = .ok (.iload_n 2, 1) := by decide +kernel
theorem dX7_thirties_58 : decode cX7_thirties 58 = .ok (.iconst 1, 1) := by decide +kernel
theorem dX7_thirties_59 : decode cX7_thirties 59 = .ok (.iadd, 1) := by decide +kernel
theorem dX7_thirties_60 : decode cX7_thirties 60 = .ok (.istore 4, 2) := by decide +kernel
theorem dX7_thirties_62 : decode cX7_thirties 62 = .ok (.sipush 360, 3) := by decide +kernel
theorem dX7_thirties_65 : decode cX7_thirties 65 = .ok (.iload_n 1, 1) := by decide +kernel
theorem dX7_thirties_66 : decode cX7_thirties 66 = .ok (.imul, 1) := by decide +kernel
theorem dX7_thirties_67 : decode cX7_thirties 67 = .ok (.bipush 30, 2) := by decide +kernel
theorem dX7_thirties_69 : decode cX7_thirties 69 = .ok (.iload_n 3, 1) := by decide +kernel
theorem dX7_thirties_70 : decode cX7_thirties 70 = .ok (.imul, 1) := by decide +kernel
theorem dX7_thirties_71 : decode cX7_thirties 71 = .ok (.iadd, 1) := by decide +kernel
theorem dX7_thirties_72 : decode cX7_thirties 72 = .ok (.iload 4, 2) := by decide +kernel
theorem dX7_thirties_74 : decode cX7_thirties 74 = .ok (.bipush 31, 2) := by decide +kernel
theorem dX7_thirties_76 : decode cX7_thirties 76 = .ok (.if_icmp .ne 8, 3) := by decide +kernel
theorem dX7_thirties_79 : decode cX7_thirties 79 = .ok (.bipush 30, 2) := by decide +kernel
theorem dX7_thirties_81 : decode cX7_thirties 81 = .ok (.goto 5, 3) := by decide +kernel
theorem dX7_thirties_84 : decode cX7_thirties 84 = .ok (.iload 4, 2) := by decide +kernel
theorem dX7_thirties_86 : decode cX7_thirties 86 = .ok (.iadd, 1) := by decide +kernel
theorem dX7_thirties_87 : decode cX7_thirties 87 = .ok (.ireturn, 1) := by decide +kernel
theorem dX7_length_0 : decode cX7_length 0 = .ok (.iload_n 0, 1) := by decide +kernel
theorem dX7_length_1 : decode cX7_length 1 = .ok (.iconst 2, 1) := by decide +kernel
theorem dX7_length_2 : decode cX7_length 2 = .ok (.if_icmp .ne 18, 3) := by decide +kernel
theorem dX7_length_5 : decode cX7_length 5 = .ok (.iload_n 1, 1) := by decide +kernel
theorem dX7_length_6 : decode cX7_length 6 = .ok (.sipush 2004, 3) := by decide +kernel
theorem dX7_length_9 : decode cX7_length 9 = .ok (.if_icmp .ne 8, 3) := by decide +kernel
theorem dX7_length_12 : decode cX7_length 12 = .ok (.bipush 29, 2) := by decide +kernel
theorem dX7_length_14 : decode cX7_length 14 = .ok (.goto 5, 3) := by decide +kernel
theorem dX7_length_17 : decode cX7_length 17 = .ok (.bipush 28, 2) := by decide +kernel
theorem dX7_length_19 : decode cX7_length 19 = .ok (.ireturn, 1) := by decide +kernel
theorem dX7_length_20 : decode cX7_length 20 = .ok (.iload_n 0, 1) := by decide +kernel
theorem dX7_length_21 : decode cX7_length 21 = .ok (.iconst 4, 1) := by decide +kernel
theorem dX7_length_22 : decode cX7_length 22 = .ok (.if_icmp .eq 21, 3) := by decide +kernel
theorem dX7_length_25 : decode cX7_length 25 = .ok (.iload_n 0, 1) := by decide +kernel
theorem dX7_length_26 : decode cX7_length 26 = .ok (.bipush 6, 2) := by decide +kernel
theorem dX7_length_28 : decode cX7_length 28 = .ok (.if_icmp .eq 15, 3) := by decide +kernel
theorem dX7_length_31 : decode cX7_length 31 = .ok (.iload_n 0, 1) := by decide +kernel
theorem dX7_length_32 : decode cX7_length 32 = .ok (.bipush 9, 2) := by decide +kernel
theorem dX7_length_34 : decode cX7_length 34 = .ok (.if_icmp .eq 9, 3) := by decide +kernel
theorem dX7_length_37 : decode cX7_length 37 = .ok (.iload_n 0, 1) := by decide +kernel
theorem dX7_length_38 : decode cX7_length 38 = .ok (.bipush 11, 2) := by decide +kernel
theorem dX7_length_40 : decode cX7_length 40 = .ok (.if_icmp .ne 8, 3) := by decide +kernel
theorem dX7_length_43 : decode cX7_length 43 = .ok (.bipush 30, 2) := by decide +kernel
theorem dX7_length_45 : decode cX7_length 45 = .ok (.goto 5, 3) := by decide +kernel
theorem dX7_length_48 : decode cX7_length 48 = .ok (.bipush 31, 2) := by decide +kernel
theorem dX7_length_50 : decode cX7_length 50 = .ok (.ireturn, 1) := by decide +kernel
theorem dX7_between_0 : decode cX7_between 0 = .ok (.iload_n 0, 1) := by decide +kernel
theorem dX7_between_1 : decode cX7_between 1 = .ok (.iconst 2, 1) := by decide +kernel
theorem dX7_between_2 : decode cX7_between 2 = .ok (.if_icmp .ne 15, 3) := by decide +kernel
theorem dX7_between_5 : decode cX7_between 5 = .ok (.iload_n 2, 1) := by decide +kernel
theorem dX7_between_6 : decode cX7_between 6 = .ok (.invokestatic 106, 3) := by decide +kernel
theorem dX7_between_9 : decode cX7_between 9 = .ok (.iload_n 1, 1) := by decide +kernel
theorem dX7_between_10 : decode cX7_between 10 = .ok (.invokestatic 106, 3) := by decide +kernel
theorem dX7_between_13 : decode cX7_between 13 = .ok (.isub, 1) := by decide +kernel
theorem dX7_between_14 : decode cX7_between 14 = .ok (.goto 6, 3) := by decide +kernel
theorem dX7_between_17 : decode cX7_between 17 = .ok (.iload_n 2, 1) := by decide +kernel
theorem dX7_between_18 : decode cX7_between 18 = .ok (.iload_n 1, 1) := by decide +kernel
theorem dX7_between_19 : decode cX7_between 19 = .ok (.isub, 1) := by decide +kernel
theorem dX7_between_20 : decode cX7_between 20 = .ok (.ireturn, 1) := by decide +kernel
theorem dX7_unit_0 : decode cX7_unit 0 = .ok (.ldc2_w 110, 3) := by decide +kernel
theorem dX7_unit_3 : decode cX7_unit 3 = .ok (.iload_n 0, 1) := by decide +kernel
theorem dX7_unit_4 : decode cX7_unit 4 = .ok (.ifCond .ne 9, 3) := by decide +kernel
theorem dX7_unit_7 : decode cX7_unit 7 = .ok (.sipush 365, 3) := by decide +kernel
theorem dX7_unit_10 : decode cX7_unit 10 = .ok (.goto 6, 3) := by decide +kernel
theorem dX7_unit_13 : decode cX7_unit 13 = .ok (.sipush 360, 3) := by decide +kernel
theorem dX7_unit_16 : decode cX7_unit 16 = .ok (.i2l, 1) := by decide +kernel
theorem dX7_unit_17 : decode cX7_unit 17 = .ok (.lmul, 1) := by decide +kernel
theorem dX7_unit_18 : decode cX7_unit 18 = .ok (.lreturn, 1) := by decide +kernel
theorem dX7_patience_0 : decode cX7_patience 0 = .ok (.iload_n 0, 1) := by decide +kernel
theorem dX7_patience_1 : decode cX7_patience 1 = .ok (.ifCond .ne 8, 3) := by decide +kernel
theorem dX7_patience_4 : decode cX7_patience 4 = .ok (.bipush 7, 2) := by decide +kernel
theorem dX7_patience_6 : decode cX7_patience 6 = .ok (.goto 15, 3) := by decide +kernel
theorem dX7_patience_9 : decode cX7_patience 9 = .ok (.iload_n 0, 1) := by decide +kernel
theorem dX7_patience_10 : decode cX7_patience 10 = .ok (.iconst 3, 1) := by decide +kernel
theorem dX7_patience_11 : decode cX7_patience 11 = .ok (.if_icmp .ne 8, 3) := by decide +kernel
theorem dX7_patience_14 : decode cX7_patience 14 = .ok (.bipush 21, 2) := by decide +kernel
theorem dX7_patience_16 : decode cX7_patience 16 = .ok (.goto 5, 3) := by decide +kernel
theorem dX7_patience_19 : decode cX7_patience 19 = .ok (.bipush 14, 2) := by decide +kernel
theorem dX7_patience_21 : decode cX7_patience 21 = .ok (.ireturn, 1) := by decide +kernel
theorem dX7_isReminded_0 : decode cX7_isReminded 0 = .ok (.aload_n 0, 1) := by decide +kernel
theorem dX7_isReminded_1 : decode cX7_isReminded 1 = .ok (.getfield 45, 3) := by decide +kernel
theorem dX7_isReminded_4 : decode cX7_isReminded 4 = .ok (.iload_n 1, 1) := by decide +kernel
theorem dX7_isReminded_5 : decode cX7_isReminded 5 = .ok (.iaload, 1) := by decide +kernel
theorem dX7_isReminded_6 : decode cX7_isReminded 6 = .ok (.iconst 4, 1) := by decide +kernel
theorem dX7_isReminded_7 : decode cX7_isReminded 7 = .ok (.if_icmp .ge 25, 3) := by decide +kernel
theorem dX7_isReminded_10 : decode cX7_isReminded 10 = .ok (.aload_n 0, 1) := by decide +kernel
theorem dX7_isReminded_11 : decode cX7_isReminded 11 = .ok (.getfield 31, 3) := by decide +kernel
theorem dX7_isReminded_14 : decode cX7_isReminded 14 = .ok (.iload_n 1, 1) := by decide +kernel
theorem dX7_isReminded_15 : decode cX7_isReminded 15 = .ok (.iaload, 1) := by decide +kernel
theorem dX7_isReminded_16 : decode cX7_isReminded 16 = .ok (.ifCond .le 16, 3) := by decide +kernel
theorem dX7_isReminded_19 : decode cX7_isReminded 19 = .ok (.aload_n 0, 1) := by decide +kernel
theorem dX7_isReminded_20 : decode cX7_isReminded 20 = .ok (.getfield 34, 3) := by decide +kernel
theorem dX7_isReminded_23 : decode cX7_isReminded 23 = .ok (.iload_n 1, 1) := by decide +kernel
theorem dX7_isReminded_24 : decode cX7_isReminded 24 = .ok (.iaload, 1) := by decide +kernel
theorem dX7_isReminded_25 : decode cX7_isReminded 25 = .ok (.ifCond .ne 7, 3) := by decide +kernel
theorem dX7_isReminded_28 : decode cX7_isReminded 28 = .ok (.iconst 1, 1) := by decide +kernel
theorem dX7_isReminded_29 : decode cX7_isReminded 29 = .ok (.goto 4, 3) := by decide +kernel
theorem dX7_isReminded_32 : decode cX7_isReminded 32 = .ok (.iconst 0, 1) := by decide +kernel
theorem dX7_isReminded_33 : decode cX7_isReminded 33 = .ok (.ireturn, 1) := by decide +kernel
theorem dX7_passDay_0 : decode cX7_passDay 0 = .ok (.iconst 0, 1) := by decide +kernel
theorem dX7_passDay_1 : decode cX7_passDay 1 = .ok (.istore_n 1, 1) := by decide +kernel
theorem dX7_passDay_2 : decode cX7_passDay 2 = .ok (.iload_n 1, 1) := by decide +kernel
theorem dX7_passDay_3 : decode cX7_passDay 3 = .ok (.aload_n 0, 1) := by decide +kernel
theorem dX7_passDay_4 : decode cX7_passDay 4 = .ok (.getfield 86, 3) := by decide +kernel
theorem dX7_passDay_7 : decode cX7_passDay 7 = .ok (.if_icmp .ge 162, 3) := by decide +kernel
theorem dX7_passDay_10 : decode cX7_passDay 10 = .ok (.aload_n 0, 1) := by decide +kernel
theorem dX7_passDay_11 : decode cX7_passDay 11 = .ok (.getfield 22, 3) := by decide +kernel
theorem dX7_passDay_14 : decode cX7_passDay 14 = .ok (.iload_n 1, 1) := by decide +kernel
theorem dX7_passDay_15 : decode cX7_passDay 15 = .ok (.iaload, 1) := by decide +kernel
theorem dX7_passDay_16 : decode cX7_passDay 16 = .ok (.istore_n 2, 1) := by decide +kernel
theorem dX7_passDay_17 : decode cX7_passDay 17 = .ok (.aload_n 0, 1) := by decide +kernel
theorem dX7_passDay_18 : decode cX7_passDay 18 = .ok (.getfield 28, 3) := by decide +kernel
theorem dX7_passDay_21 : decode cX7_passDay 21 = .ok (.iload_n 1, 1) := by decide +kernel
theorem dX7_passDay_22 : decode cX7_passDay 22 = .ok (.iaload, 1) := by decide +kernel
theorem dX7_passDay_23 : decode cX7_passDay 23 = .ok (.aload_n 0, 1) := by decide +kernel
theorem dX7_passDay_24 : decode cX7_passDay 24 = .ok (.getfield 112, 3) := by decide +kernel
theorem dX7_passDay_27 : decode cX7_passDay 27 = .ok (.if_icmp .gt 7, 3) := by decide +kernel
theorem dX7_passDay_30 : decode cX7_passDay 30 = .ok (.iconst 1, 1) := by decide +kernel
theorem dX7_passDay_31 : decode cX7_passDay 31 = .ok (.goto 4, 3) := by decide +kernel
theorem dX7_passDay_34 : decode cX7_passDay 34 = .ok (.iconst 0, 1) := by decide +kernel
theorem dX7_passDay_35 : decode cX7_passDay 35 = .ok (.istore_n 3, 1) := by decide +kernel
theorem dX7_passDay_36 : decode cX7_passDay 36 = .ok (.iload_n 3, 1) := by decide +kernel
theorem dX7_passDay_37 : decode cX7_passDay 37 = .ok (.ifCond .eq 56, 3) := by decide +kernel
theorem dX7_passDay_40 : decode cX7_passDay 40 = .ok (.aload_n 0, 1) := by decide +kernel
theorem dX7_passDay_41 : decode cX7_passDay 41 = .ok (.getfield 41, 3) := by decide +kernel
theorem dX7_passDay_44 : decode cX7_passDay 44 = .ok (.iload_n 1, 1) := by decide +kernel
theorem dX7_passDay_45 : decode cX7_passDay 45 = .ok (.baload, 1) := by decide +kernel
theorem dX7_passDay_46 : decode cX7_passDay 46 = .ok (.ifCond .ne 47, 3) := by decide +kernel
theorem dX7_passDay_49 : decode cX7_passDay 49 = .ok (.aload_n 0, 1) := by decide +kernel
theorem dX7_passDay_50 : decode cX7_passDay 50 = .ok (.getfield 37, 3) := by decide +kernel
theorem dX7_passDay_53 : decode cX7_passDay 53 = .ok (.iload_n 1, 1) := by decide +kernel
theorem dX7_passDay_54 : decode cX7_passDay 54 = .ok (.dup2, 1) := by decide +kernel
theorem dX7_passDay_55 : decode cX7_passDay 55 = .ok (.laload, 1) := by decide +kernel
theorem dX7_passDay_56 : decode cX7_passDay 56 = .ok (.aload_n 0, 1) := by decide +kernel
theorem dX7_passDay_57 : decode cX7_passDay 57 = .ok (.iload_n 1, 1) := by decide +kernel
theorem dX7_passDay_58 : decode cX7_passDay 58 = .ok (.invokevirtual 115, 3) := by decide +kernel
theorem dX7_passDay_61 : decode cX7_passDay 61 = .ok (.i2l, 1) := by decide +kernel
theorem dX7_passDay_62 : decode cX7_passDay 62 = .ok (.aload_n 0, 1) := by decide +kernel
theorem dX7_passDay_63 : decode cX7_passDay 63 = .ok (.getfield 16, 3) := by decide +kernel
theorem dX7_passDay_66 : decode cX7_passDay 66 = .ok (.iload_n 2, 1) := by decide +kernel
theorem dX7_passDay_67 : decode cX7_passDay 67 = .ok (.iaload, 1) := by decide +kernel
theorem dX7_passDay_68 : decode cX7_passDay 68 = .ok (.i2l, 1) := by decide +kernel
theorem dX7_passDay_69 : decode cX7_passDay 69 = .ok (.lmul, 1) := by decide +kernel
theorem dX7_passDay_70 : decode cX7_passDay 70 = .ok (.aload_n 0, 1) := by decide +kernel
theorem dX7_passDay_71 : decode cX7_passDay 71 = .ok (.getfield 13, 3) := by decide +kernel
theorem dX7_passDay_74 : decode cX7_passDay 74 = .ok (.iload_n 2, 1) := by decide +kernel
theorem dX7_passDay_75 : decode cX7_passDay 75 = .ok (.iaload, 1) := by decide +kernel
theorem dX7_passDay_76 : decode cX7_passDay 76 = .ok (.aload_n 0, 1) := by decide +kernel
theorem dX7_passDay_77 : decode cX7_passDay 77 = .ok (.getfield 112, 3) := by decide +kernel
theorem dX7_passDay_80 : decode cX7_passDay 80 = .ok (.aload_n 0, 1) := by decide +kernel
theorem dX7_passDay_81 : decode cX7_passDay 81 = .ok (.getfield 112, 3) := by decide +kernel
theorem dX7_passDay_84 : decode cX7_passDay 84 = .ok (.iconst 1, 1) := by decide +kernel
theorem dX7_passDay_85 : decode cX7_passDay 85 = .ok (.iadd, 1) := by decide +kernel
theorem dX7_passDay_86 : decode cX7_passDay 86 = .ok (.invokestatic 118, 3) := by decide +kernel
theorem dX7_passDay_89 : decode cX7_passDay 89 = .ok (.i2l, 1) := by decide +kernel
theorem dX7_passDay_90 : decode cX7_passDay 90 = .ok (.lmul, 1) := by decide +kernel
theorem dX7_passDay_91 : decode cX7_passDay 91 = .ok (.ladd, 1) := by decide +kernel
theorem dX7_passDay_92 : decode cX7_passDay 92 = .ok (.lastore, 1) := by decide +kernel
theorem dX7_passDay_93 : decode cX7_passDay 93 = .ok (.iload_n 3, 1) := by decide +kernel
theorem dX7_passDay_94 : decode cX7_passDay 94 = .ok (.ifCond .eq 69, 3) := by decide +kernel
theorem dX7_passDay_97 : decode cX7_passDay 97 = .ok (.aload_n 0, 1) := by decide +kernel
theorem dX7_passDay_98 : decode cX7_passDay 98 = .ok (.iload_n 1, 1) := by decide +kernel
theorem dX7_passDay_99 : decode cX7_passDay 99 = .ok (.invokevirtual 122, 3) := by decide +kernel
theorem dX7_passDay_102 : decode cX7_passDay 102 = .ok (.ifCond .eq 61, 3) := by decide +kernel
theorem dX7_passDay_105 : decode cX7_passDay 105 = .ok (.aload_n 0, 1) := by decide +kernel
theorem dX7_passDay_106 : decode cX7_passDay 106 = .ok (.getfield 112, 3) := by decide +kernel
theorem dX7_passDay_109 : decode cX7_passDay 109 = .ok (.aload_n 0, 1) := by decide +kernel
theorem dX7_passDay_110 : decode cX7_passDay 110 = .ok (.getfield 19, 3) := by decide +kernel
theorem dX7_passDay_113 : decode cX7_passDay 113 = .ok (.iload_n 2, 1) := by decide +kernel
theorem dX7_passDay_114 : decode cX7_passDay 114 = .ok (.iaload, 1) := by decide +kernel
theorem dX7_passDay_115 : decode cX7_passDay 115 = .ok (.if_icmp .lt 48, 3) := by decide +kernel
theorem dX7_passDay_118 : decode cX7_passDay 118 = .ok (.aload_n 0, 1) := by decide +kernel
theorem dX7_passDay_119 : decode cX7_passDay 119 = .ok (.getfield 48, 3) := by decide +kernel
theorem dX7_passDay_122 : decode cX7_passDay 122 = .ok (.iload_n 1, 1) := by decide +kernel
theorem dX7_passDay_123 : decode cX7_passDay 123 = .ok (.dup2, 1) := by decide +kernel
theorem dX7_passDay_124 : decode cX7_passDay 124 = .ok (.iaload, 1) := by decide +kernel
theorem dX7_passDay_125 : decode cX7_passDay 125 = .ok (.iconst 1, 1) := by decide +kernel
theorem dX7_passDay_126 : decode cX7_passDay 126 = .ok (.iadd, 1) := by decide +kernel
theorem dX7_passDay_127 : decode cX7_passDay 127 = .ok (.iastore, 1) := by decide +kernel
theorem dX7_passDay_128 : decode cX7_passDay 128 = .ok (.aload_n 0, 1) := by decide +kernel
theorem dX7_passDay_129 : decode cX7_passDay 129 = .ok (.getfield 48, 3) := by decide +kernel
theorem dX7_passDay_132 : decode cX7_passDay 132 = .ok (.iload_n 1, 1) := by decide +kernel
theorem dX7_passDay_133 : decode cX7_passDay 133 = .ok (.iaload, 1) := by decide +kernel
theorem dX7_passDay_134 : decode cX7_passDay 134 = .ok (.aload_n 0, 1) := by decide +kernel
theorem dX7_passDay_135 : decode cX7_passDay 135 = .ok (.getfield 45, 3) := by decide +kernel
theorem dX7_passDay_138 : decode cX7_passDay 138 = .ok (.iload_n 1, 1) := by decide +kernel
theorem dX7_passDay_139 : decode cX7_passDay 139 = .ok (.iaload, 1) := by decide +kernel
theorem dX7_passDay_140 : decode cX7_passDay 140 = .ok (.invokestatic 125, 3) := by decide +kernel
theorem dX7_passDay_143 : decode cX7_passDay 143 = .ok (.if_icmp .ne 20, 3) := by decide +kernel
theorem dX7_passDay_146 : decode cX7_passDay 146 = .ok (.aload_n 0, 1) := by decide +kernel
theorem dX7_passDay_147 : decode cX7_passDay 147 = .ok (.getfield 45, 3) := by decide +kernel
theorem dX7_passDay_150 : decode cX7_passDay 150 = .ok (.iload_n 1, 1) := by decide +kernel
theorem dX7_passDay_151 : decode cX7_passDay 151 = .ok (.dup2, 1) := by decide +kernel
theorem dX7_passDay_152 : decode cX7_passDay 152 = .ok (.iaload, 1) := by decide +kernel
theorem dX7_passDay_153 : decode cX7_passDay 153 = .ok (.iconst 1, 1) := by decide +kernel
theorem dX7_passDay_154 : decode cX7_passDay 154 = .ok (.iadd, 1) := by decide +kernel
theorem dX7_passDay_155 : decode cX7_passDay 155 = .ok (.iastore, 1) := by decide +kernel
theorem dX7_passDay_156 : decode cX7_passDay 156 = .ok (.aload_n 0, 1) := by decide +kernel
theorem dX7_passDay_157 : decode cX7_passDay 157 = .ok (.getfield 48, 3) := by decide +kernel
theorem dX7_passDay_160 : decode cX7_passDay 160 = .ok (.iload_n 1, 1) := by decide +kernel
theorem dX7_passDay_161 : decode cX7_passDay 161 = .ok (.iconst 0, 1) := by decide +kernel
theorem dX7_passDay_162 : decode cX7_passDay 162 = .ok (.iastore, 1) := by decide +kernel
theorem dX7_passDay_163 : decode cX7_passDay 163 = .ok (.iinc 1 1, 3) := by decide +kernel
theorem dX7_passDay_166 : decode cX7_passDay 166 = .ok (.goto (-164), 3) := by decide +kernel
theorem dX7_passDay_169 : decode cX7_passDay 169 = .ok (.aload_n 0, 1) := by decide +kernel
theorem dX7_passDay_170 : decode cX7_passDay 170 = .ok (.dup, 1) := by decide +kernel
theorem dX7_passDay_171 : decode cX7_passDay 171 = .ok (.getfield 112, 3) := by decide +kernel
theorem dX7_passDay_174 : decode cX7_passDay 174 = .ok (.iconst 1, 1) := by decide +kernel
theorem dX7_passDay_175 : decode cX7_passDay 175 = .ok (.iadd, 1) := by decide +kernel
theorem dX7_passDay_176 : decode cX7_passDay 176 = .ok (.putfield 112, 3) := by decide +kernel
theorem dX7_passDay_179 : decode cX7_passDay 179 = .ok (.return_, 1) := by decide +kernel
theorem dX7_addCustomer_0 : decode cX7_addCustomer 0 = .ok (.iload_n 1, 1) := by decide +kernel
theorem dX7_addCustomer_1 : decode cX7_addCustomer 1 = .ok (.iconst 0, 1) := by decide +kernel
theorem dX7_addCustomer_2 : decode cX7_addCustomer 2 = .ok (.iconst 2, 1) := by decide +kernel
theorem dX7_addCustomer_3 : decode cX7_addCustomer 3 = .ok (.invokestatic 82, 3) := by decide +kernel
theorem dX7_addCustomer_6 : decode cX7_addCustomer 6 = .ok (.ifCond .eq 27, 3) := by decide +kernel
theorem dX7_addCustomer_9 : decode cX7_addCustomer 9 = .ok (.iload_n 2, 1) := by decide +kernel
theorem dX7_addCustomer_10 : decode cX7_addCustomer 10 = .ok (.iconst 0, 1) := by decide +kernel
theorem dX7_addCustomer_11 : decode cX7_addCustomer 11 = .ok (.iconst 2, 1) := by decide +kernel
theorem dX7_addCustomer_12 : decode cX7_addCustomer 12 = .ok (.invokestatic 82, 3) := by decide +kernel
theorem dX7_addCustomer_15 : decode cX7_addCustomer 15 = .ok (.ifCond .eq 18, 3) := by decide +kernel
theorem dX7_addCustomer_18 : decode cX7_addCustomer 18 = .ok (.iload_n 3, 1) := by decide +kernel
theorem dX7_addCustomer_19 : decode cX7_addCustomer 19 = .ok (.iconst 0, 1) := by decide +kernel
theorem dX7_addCustomer_20 : decode cX7_addCustomer 20 = .ok (.sipush 3000, 3) := by decide +kernel
theorem dX7_addCustomer_23 : decode cX7_addCustomer 23 = .ok (.invokestatic 82, 3) := by decide +kernel
theorem dX7_addCustomer_26 : decode cX7_addCustomer 26 = .ok (.ifCond .eq 7, 3) := by decide +kernel
theorem dX7_addCustomer_29 : decode cX7_addCustomer 29 = .ok (.iconst 1, 1) := by decide +kernel
theorem dX7_addCustomer_30 : decode cX7_addCustomer 30 = .ok (.goto 4, 3) := by decide +kernel
theorem dX7_addCustomer_33 : decode cX7_addCustomer 33 = .ok (.iconst 0, 1) := by decide +kernel
theorem dX7_addCustomer_34 : decode cX7_addCustomer 34 = .ok (.istore 4, 2) := by decide +kernel
theorem dX7_addCustomer_36 : decode cX7_addCustomer 36 = .ok (.aload_n 0, 1) := by decide +kernel
theorem dX7_addCustomer_37 : decode cX7_addCustomer 37 = .ok (.iload 4, 2) := by decide +kernel
theorem dX7_addCustomer_39 : decode cX7_addCustomer 39 = .ok (.ifCond .ne 7, 3) := by decide +kernel
theorem dX7_addCustomer_42 : decode cX7_addCustomer 42 = .ok (.iconst 1, 1) := by decide +kernel
theorem dX7_addCustomer_43 : decode cX7_addCustomer 43 = .ok (.goto 17, 3) := by decide +kernel
theorem dX7_addCustomer_46 : decode cX7_addCustomer 46 = .ok (.aload_n 0, 1) := by decide +kernel
theorem dX7_addCustomer_47 : decode cX7_addCustomer 47 = .ok (.getfield 79, 3) := by decide +kernel
theorem dX7_addCustomer_50 : decode cX7_addCustomer 50 = .ok (.bipush 6, 2) := by decide +kernel
theorem dX7_addCustomer_52 : decode cX7_addCustomer 52 = .ok (.if_icmp .ne 7, 3) := by decide +kernel
theorem dX7_addCustomer_55 : decode cX7_addCustomer 55 = .ok (.iconst 2, 1) := by decide +kernel
theorem dX7_addCustomer_56 : decode cX7_addCustomer 56 = .ok (.goto 4, 3) := by decide +kernel
theorem dX7_addCustomer_59 : decode cX7_addCustomer 59 = .ok (.iconst 0, 1) := by decide +kernel
theorem dX7_addCustomer_60 : decode cX7_addCustomer 60 = .ok (.invokevirtual 96, 3) := by decide +kernel
theorem dX7_addCustomer_63 : decode cX7_addCustomer 63 = .ok (.ifCond .eq 5, 3) := by decide +kernel
theorem dX7_addCustomer_66 : decode cX7_addCustomer 66 = .ok (.iconst 0, 1) := by decide +kernel
theorem dX7_addCustomer_67 : decode cX7_addCustomer 67 = .ok (.ireturn, 1) := by decide +kernel
theorem dX7_addCustomer_68 : decode cX7_addCustomer 68 = .ok (.aload_n 0, 1) := by decide +kernel
theorem dX7_addCustomer_69 : decode cX7_addCustomer 69 = .ok (.getfield 7, 3) := by decide +kernel
theorem dX7_addCustomer_72 : decode cX7_addCustomer 72 = .ok (.aload_n 0, 1) := by decide +kernel
theorem dX7_addCustomer_73 : decode cX7_addCustomer 73 = .ok (.getfield 79, 3) := by decide +kernel
theorem dX7_addCustomer_76 : decode cX7_addCustomer 76 = .ok (.iload_n 1, 1) := by decide +kernel
theorem dX7_addCustomer_77 : decode cX7_addCustomer 77 = .ok (.iastore, 1) := by decide +kernel
theorem dX7_addCustomer_78 : decode cX7_addCustomer 78 = .ok (.aload_n 0, 1) := by decide +kernel
theorem dX7_addCustomer_79 : decode cX7_addCustomer 79 = .ok (.getfield 13, 3) := by decide +kernel
theorem dX7_addCustomer_82 : decode cX7_addCustomer 82 = .ok (.aload_n 0, 1) := by decide +kernel
theorem dX7_addCustomer_83 : decode cX7_addCustomer 83 = .ok (.getfield 79, 3) := by decide +kernel
theorem dX7_addCustomer_86 : decode cX7_addCustomer 86 = .ok (.iload_n 2, 1) := by decide +kernel
theorem dX7_addCustomer_87 : decode cX7_addCustomer 87 = .ok (.iastore, 1) := by decide +kernel
theorem dX7_addCustomer_88 : decode cX7_addCustomer 88 = .ok (.aload_n 0, 1) := by decide +kernel
theorem dX7_addCustomer_89 : decode cX7_addCustomer 89 = .ok (.getfield 16, 3) := by decide +kernel
theorem dX7_addCustomer_92 : decode cX7_addCustomer 92 = .ok (.aload_n 0, 1) := by decide +kernel
theorem dX7_addCustomer_93 : decode cX7_addCustomer 93 = .ok (.getfield 79, 3) := by decide +kernel
theorem dX7_addCustomer_96 : decode cX7_addCustomer 96 = .ok (.iload_n 3, 1) := by decide +kernel
theorem dX7_addCustomer_97 : decode cX7_addCustomer 97 = .ok (.iastore, 1) := by decide +kernel
theorem dX7_addCustomer_98 : decode cX7_addCustomer 98 = .ok (.aload_n 0, 1) := by decide +kernel
theorem dX7_addCustomer_99 : decode cX7_addCustomer 99 = .ok (.dup, 1) := by decide +kernel
theorem dX7_addCustomer_100 : decode cX7_addCustomer 100 = .ok (.getfield 79, 3) := by decide +kernel
theorem dX7_addCustomer_103 : decode cX7_addCustomer 103 = .ok (.iconst 1, 1) := by decide +kernel
theorem dX7_addCustomer_104 : decode cX7_addCustomer 104 = .ok (.iadd, 1) := by decide +kernel
theorem dX7_addCustomer_105 : decode cX7_addCustomer 105 = .ok (.putfield 79, 3) := by decide +kernel
theorem dX7_addCustomer_108 : decode cX7_addCustomer 108 = .ok (.aload_n 0, 1) := by decide +kernel
theorem dX7_addCustomer_109 : decode cX7_addCustomer 109 = .ok (.getfield 79, 3) := by decide +kernel
theorem dX7_addCustomer_112 : decode cX7_addCustomer 112 = .ok (.iconst 1, 1) := by decide +kernel
theorem dX7_addCustomer_113 : decode cX7_addCustomer 113 = .ok (.isub, 1) := by decide +kernel
theorem dX7_addCustomer_114 : decode cX7_addCustomer 114 = .ok (.ireturn, 1) := by decide +kernel
theorem dX7_setRule_0 : decode cX7_setRule 0 = .ok (.aload_n 0, 1) := by decide +kernel
theorem dX7_setRule_1 : decode cX7_setRule 1 = .ok (.aload_n 0, 1) := by decide +kernel
theorem dX7_setRule_2 : decode cX7_setRule 2 = .ok (.iload_n 1, 1) := by decide +kernel
theorem dX7_setRule_3 : decode cX7_setRule 3 = .ok (.invokevirtual 92, 3) := by decide +kernel
theorem dX7_setRule_6 : decode cX7_setRule 6 = .ok (.ifCond .ne 7, 3) := by decide +kernel
theorem dX7_setRule_9 : decode cX7_setRule 9 = .ok (.iconst 1, 1) := by decide +kernel
theorem dX7_setRule_10 : decode cX7_setRule 10 = .ok (.goto 17, 3) := by decide +kernel
theorem dX7_setRule_13 : decode cX7_setRule 13 = .ok (.iload_n 2, 1) := by decide +kernel
theorem dX7_setRule_14 : decode cX7_setRule 14 = .ok (.iconst 0, 1) := by decide +kernel
theorem dX7_setRule_15 : decode cX7_setRule 15 = .ok (.iconst 2, 1) := by decide +kernel
theorem dX7_setRule_16 : decode cX7_setRule 16 = .ok (.invokestatic 82, 3) := by decide +kernel
theorem dX7_setRule_19 : decode cX7_setRule 19 = .ok (.ifCond .ne 7, 3) := by decide +kernel
theorem dX7_setRule_22 : decode cX7_setRule 22 = .ok (.iconst 2, 1) := by decide +kernel
theorem dX7_setRule_23 : decode cX7_setRule 23 = .ok (.goto 4, 3) := by decide +kernel
theorem dX7_setRule_26 : decode cX7_setRule 26 = .ok (.iconst 0, 1) := by decide +kernel
theorem dX7_setRule_27 : decode cX7_setRule 27 = .ok (.invokevirtual 96, 3) := by decide +kernel
theorem dX7_setRule_30 : decode cX7_setRule 30 = .ok (.ifCond .eq 5, 3) := by decide +kernel
theorem dX7_setRule_33 : decode cX7_setRule 33 = .ok (.iconst 0, 1) := by decide +kernel
theorem dX7_setRule_34 : decode cX7_setRule 34 = .ok (.ireturn, 1) := by decide +kernel
theorem dX7_setRule_35 : decode cX7_setRule 35 = .ok (.aload_n 0, 1) := by decide +kernel
theorem dX7_setRule_36 : decode cX7_setRule 36 = .ok (.getfield 7, 3) := by decide +kernel
theorem dX7_setRule_39 : decode cX7_setRule 39 = .ok (.iload_n 1, 1) := by decide +kernel
theorem dX7_setRule_40 : decode cX7_setRule 40 = .ok (.iaload, 1) := by decide +kernel
theorem dX7_setRule_41 : decode cX7_setRule 41 = .ok (.istore_n 3, 1) := by decide +kernel
theorem dX7_setRule_42 : decode cX7_setRule 42 = .ok (.aload_n 0, 1) := by decide +kernel
theorem dX7_setRule_43 : decode cX7_setRule 43 = .ok (.getfield 7, 3) := by decide +kernel
theorem dX7_setRule_46 : decode cX7_setRule 46 = .ok (.iload_n 1, 1) := by decide +kernel
theorem dX7_setRule_47 : decode cX7_setRule 47 = .ok (.iload_n 2, 1) := by decide +kernel
theorem dX7_setRule_48 : decode cX7_setRule 48 = .ok (.iastore, 1) := by decide +kernel
theorem dX7_setRule_49 : decode cX7_setRule 49 = .ok (.iload_n 3, 1) := by decide +kernel
theorem dX7_setRule_50 : decode cX7_setRule 50 = .ok (.ireturn, 1) := by decide +kernel
theorem dX7_setRate_0 : decode cX7_setRate 0 = .ok (.aload_n 0, 1) := by decide +kernel
theorem dX7_setRate_1 : decode cX7_setRate 1 = .ok (.aload_n 0, 1) := by decide +kernel
theorem dX7_setRate_2 : decode cX7_setRate 2 = .ok (.iload_n 1, 1) := by decide +kernel
theorem dX7_setRate_3 : decode cX7_setRate 3 = .ok (.invokevirtual 92, 3) := by decide +kernel
theorem dX7_setRate_6 : decode cX7_setRate 6 = .ok (.ifCond .ne 7, 3) := by decide +kernel
theorem dX7_setRate_9 : decode cX7_setRate 9 = .ok (.iconst 1, 1) := by decide +kernel
theorem dX7_setRate_10 : decode cX7_setRate 10 = .ok (.goto 19, 3) := by decide +kernel
theorem dX7_setRate_13 : decode cX7_setRate 13 = .ok (.iload_n 2, 1) := by decide +kernel
theorem dX7_setRate_14 : decode cX7_setRate 14 = .ok (.iconst 0, 1) := by decide +kernel
theorem dX7_setRate_15 : decode cX7_setRate 15 = .ok (.sipush 3000, 3) := by decide +kernel
theorem dX7_setRate_18 : decode cX7_setRate 18 = .ok (.invokestatic 82, 3) := by decide +kernel
theorem dX7_setRate_21 : decode cX7_setRate 21 = .ok (.ifCond .ne 7, 3) := by decide +kernel
theorem dX7_setRate_24 : decode cX7_setRate 24 = .ok (.iconst 2, 1) := by decide +kernel
theorem dX7_setRate_25 : decode cX7_setRate 25 = .ok (.goto 4, 3) := by decide +kernel
theorem dX7_setRate_28 : decode cX7_setRate 28 = .ok (.iconst 0, 1) := by decide +kernel
theorem dX7_setRate_29 : decode cX7_setRate 29 = .ok (.invokevirtual 96, 3) := by decide +kernel
theorem dX7_setRate_32 : decode cX7_setRate 32 = .ok (.ifCond .eq 5, 3) := by decide +kernel
theorem dX7_setRate_35 : decode cX7_setRate 35 = .ok (.iconst 0, 1) := by decide +kernel
theorem dX7_setRate_36 : decode cX7_setRate 36 = .ok (.ireturn, 1) := by decide +kernel
theorem dX7_setRate_37 : decode cX7_setRate 37 = .ok (.aload_n 0, 1) := by decide +kernel
theorem dX7_setRate_38 : decode cX7_setRate 38 = .ok (.getfield 16, 3) := by decide +kernel
theorem dX7_setRate_41 : decode cX7_setRate 41 = .ok (.iload_n 1, 1) := by decide +kernel
theorem dX7_setRate_42 : decode cX7_setRate 42 = .ok (.iaload, 1) := by decide +kernel
theorem dX7_setRate_43 : decode cX7_setRate 43 = .ok (.istore_n 3, 1) := by decide +kernel
theorem dX7_setRate_44 : decode cX7_setRate 44 = .ok (.aload_n 0, 1) := by decide +kernel
theorem dX7_setRate_45 : decode cX7_setRate 45 = .ok (.getfield 16, 3) := by decide +kernel
theorem dX7_setRate_48 : decode cX7_setRate 48 = .ok (.iload_n 1, 1) := by decide +kernel
theorem dX7_setRate_49 : decode cX7_setRate 49 = .ok (.iload_n 2, 1) := by decide +kernel
theorem dX7_setRate_50 : decode cX7_setRate 50 = .ok (.iastore, 1) := by decide +kernel
theorem dX7_setRate_51 : decode cX7_setRate 51 = .ok (.iload_n 3, 1) := by decide +kernel
theorem dX7_setRate_52 : decode cX7_setRate 52 = .ok (.ireturn, 1) := by decide +kernel
theorem dX7_pauseReminders_0 : decode cX7_pauseReminders 0 = .ok (.aload_n 0, 1) := by decide +kernel
theorem dX7_pauseReminders_1 : decode cX7_pauseReminders 1 = .ok (.aload_n 0, 1) := by decide +kernel
theorem dX7_pauseReminders_2 : decode cX7_pauseReminders 2 = .ok (.iload_n 1, 1) := by decide +kernel
theorem dX7_pauseReminders_3 : decode cX7_pauseReminders 3 = .ok (.invokevirtual 92, 3) := by decide +kernel
theorem dX7_pauseReminders_6 : decode cX7_pauseReminders 6 = .ok (.ifCond .ne 7, 3) := by decide +kernel
theorem dX7_pauseReminders_9 : decode cX7_pauseReminders 9 = .ok (.iconst 1, 1) := by decide +kernel
theorem dX7_pauseReminders_10 : decode cX7_pauseReminders 10 = .ok (.goto 19, 3) := by decide +kernel
theorem dX7_pauseReminders_13 : decode cX7_pauseReminders 13 = .ok (.iload_n 2, 1) := by decide +kernel
theorem dX7_pauseReminders_14 : decode cX7_pauseReminders 14 = .ok (.iconst 0, 1) := by decide +kernel
theorem dX7_pauseReminders_15 : decode cX7_pauseReminders 15 = .ok (.sipush 200, 3) := by decide +kernel
theorem dX7_pauseReminders_18 : decode cX7_pauseReminders 18 = .ok (.invokestatic 82, 3) := by decide +kernel
theorem dX7_pauseReminders_21 : decode cX7_pauseReminders 21 = .ok (.ifCond .ne 7, 3) := by decide +kernel
theorem dX7_pauseReminders_24 : decode cX7_pauseReminders 24 = .ok (.iconst 2, 1) := by decide +kernel
theorem dX7_pauseReminders_25 : decode cX7_pauseReminders 25 = .ok (.goto 4, 3) := by decide +kernel
theorem dX7_pauseReminders_28 : decode cX7_pauseReminders 28 = .ok (.iconst 0, 1) := by decide +kernel
theorem dX7_pauseReminders_29 : decode cX7_pauseReminders 29 = .ok (.invokevirtual 96, 3) := by decide +kernel
theorem dX7_pauseReminders_32 : decode cX7_pauseReminders 32 = .ok (.ifCond .eq 5, 3) := by decide +kernel
theorem dX7_pauseReminders_35 : decode cX7_pauseReminders 35 = .ok (.iconst 0, 1) := by decide +kernel
theorem dX7_pauseReminders_36 : decode cX7_pauseReminders 36 = .ok (.ireturn, 1) := by decide +kernel
theorem dX7_pauseReminders_37 : decode cX7_pauseReminders 37 = .ok (.aload_n 0, 1) := by decide +kernel
theorem dX7_pauseReminders_38 : decode cX7_pauseReminders 38 = .ok (.getfield 19, 3) := by decide +kernel
theorem dX7_pauseReminders_41 : decode cX7_pauseReminders 41 = .ok (.iload_n 1, 1) := by decide +kernel
theorem dX7_pauseReminders_42 : decode cX7_pauseReminders 42 = .ok (.aload_n 0, 1) := by decide +kernel
theorem dX7_pauseReminders_43 : decode cX7_pauseReminders 43 = .ok (.getfield 112, 3) := by decide +kernel
theorem dX7_pauseReminders_46 : decode cX7_pauseReminders 46 = .ok (.iload_n 2, 1) := by decide +kernel
theorem dX7_pauseReminders_47 : decode cX7_pauseReminders 47 = .ok (.iadd, 1) := by decide +kernel
theorem dX7_pauseReminders_48 : decode cX7_pauseReminders 48 = .ok (.iastore, 1) := by decide +kernel
theorem dX7_pauseReminders_49 : decode cX7_pauseReminders 49 = .ok (.aload_n 0, 1) := by decide +kernel
theorem dX7_pauseReminders_50 : decode cX7_pauseReminders 50 = .ok (.getfield 112, 3) := by decide +kernel
theorem dX7_pauseReminders_53 : decode cX7_pauseReminders 53 = .ok (.iload_n 2, 1) := by decide +kernel
theorem dX7_pauseReminders_54 : decode cX7_pauseReminders 54 = .ok (.iadd, 1) := by decide +kernel
theorem dX7_pauseReminders_55 : decode cX7_pauseReminders 55 = .ok (.ireturn, 1) := by decide +kernel
theorem dX7_today_0 : decode cX7_today 0 = .ok (.aload_n 0, 1) := by decide +kernel
theorem dX7_today_1 : decode cX7_today 1 = .ok (.aload_n 0, 1) := by decide +kernel
theorem dX7_today_2 : decode cX7_today 2 = .ok (.getfield 112, 3) := by decide +kernel
theorem dX7_today_5 : decode cX7_today 5 = .ok (.invokevirtual 128, 3) := by decide +kernel
theorem dX7_today_8 : decode cX7_today 8 = .ok (.ireturn, 1) := by decide +kernel
theorem dX7_passDays_0 : decode cX7_passDays 0 = .ok (.aload_n 0, 1) := by decide +kernel
theorem dX7_passDays_1 : decode cX7_passDays 1 = .ok (.iload_n 1, 1) := by decide +kernel
theorem dX7_passDays_2 : decode cX7_passDays 2 = .ok (.iconst 1, 1) := by decide +kernel
theorem dX7_passDays_3 : decode cX7_passDays 3 = .ok (.sipush 400, 3) := by decide +kernel
theorem dX7_passDays_6 : decode cX7_passDays 6 = .ok (.invokestatic 82, 3) := by decide +kernel
theorem dX7_passDays_9 : decode cX7_passDays 9 = .ok (.ifCond .ne 7, 3) := by decide +kernel
theorem dX7_passDays_12 : decode cX7_passDays 12 = .ok (.iconst 1, 1) := by decide +kernel
theorem dX7_passDays_13 : decode cX7_passDays 13 = .ok (.goto 20, 3) := by decide +kernel
theorem dX7_passDays_16 : decode cX7_passDays 16 = .ok (.aload_n 0, 1) := by decide +kernel
theorem dX7_passDays_17 : decode cX7_passDays 17 = .ok (.getfield 112, 3) := by decide +kernel
theorem dX7_passDays_20 : decode cX7_passDays 20 = .ok (.iload_n 1, 1) := by decide +kernel
theorem dX7_passDays_21 : decode cX7_passDays 21 = .ok (.iadd, 1) := by decide +kernel
theorem dX7_passDays_22 : decode cX7_passDays 22 = .ok (.sipush 1460, 3) := by decide +kernel
theorem dX7_passDays_25 : decode cX7_passDays 25 = .ok (.if_icmp .le 7, 3) := by decide +kernel
theorem dX7_passDays_28 : decode cX7_passDays 28 = .ok (.iconst 2, 1) := by decide +kernel
theorem dX7_passDays_29 : decode cX7_passDays 29 = .ok (.goto 4, 3) := by decide +kernel
theorem dX7_passDays_32 : decode cX7_passDays 32 = .ok (.iconst 0, 1) := by decide +kernel
theorem dX7_passDays_33 : decode cX7_passDays 33 = .ok (.invokevirtual 96, 3) := by decide +kernel
theorem dX7_passDays_36 : decode cX7_passDays 36 = .ok (.ifCond .eq 5, 3) := by decide +kernel
theorem dX7_passDays_39 : decode cX7_passDays 39 = .ok (.iconst 0, 1) := by decide +kernel
theorem dX7_passDays_40 : decode cX7_passDays 40 = .ok (.ireturn, 1) := by decide +kernel
theorem dX7_passDays_41 : decode cX7_passDays 41 = .ok (.iconst 0, 1) := by decide +kernel
theorem dX7_passDays_42 : decode cX7_passDays 42 = .ok (.istore_n 2, 1) := by decide +kernel
theorem dX7_passDays_43 : decode cX7_passDays 43 = .ok (.iload_n 2, 1) := by decide +kernel
theorem dX7_passDays_44 : decode cX7_passDays 44 = .ok (.iload_n 1, 1) := by decide +kernel
theorem dX7_passDays_45 : decode cX7_passDays 45 = .ok (.if_icmp .ge 13, 3) := by decide +kernel
theorem dX7_passDays_48 : decode cX7_passDays 48 = .ok (.aload_n 0, 1) := by decide +kernel
theorem dX7_passDays_49 : decode cX7_passDays 49 = .ok (.invokevirtual 131, 3) := by decide +kernel
theorem dX7_passDays_52 : decode cX7_passDays 52 = .ok (.iinc 2 1, 3) := by decide +kernel
theorem dX7_passDays_55 : decode cX7_passDays 55 = .ok (.goto (-12), 3) := by decide +kernel
theorem dX7_passDays_58 : decode cX7_passDays 58 = .ok (.aload_n 0, 1) := by decide +kernel
theorem dX7_passDays_59 : decode cX7_passDays 59 = .ok (.getfield 112, 3) := by decide +kernel
theorem dX7_passDays_62 : decode cX7_passDays 62 = .ok (.ireturn, 1) := by decide +kernel
theorem dX7_countDays_0 : decode cX7_countDays 0 = .ok (.iload_n 1, 1) := by decide +kernel
theorem dX7_countDays_1 : decode cX7_countDays 1 = .ok (.iconst 0, 1) := by decide +kernel
theorem dX7_countDays_2 : decode cX7_countDays 2 = .ok (.iconst 2, 1) := by decide +kernel
theorem dX7_countDays_3 : decode cX7_countDays 3 = .ok (.invokestatic 82, 3) := by decide +kernel
theorem dX7_countDays_6 : decode cX7_countDays 6 = .ok (.ifCond .eq 29, 3) := by decide +kernel
theorem dX7_countDays_9 : decode cX7_countDays 9 = .ok (.iload_n 2, 1) := by decide +kernel
theorem dX7_countDays_10 : decode cX7_countDays 10 = .ok (.iconst 0, 1) := by decide +kernel
theorem dX7_countDays_11 : decode cX7_countDays 11 = .ok (.sipush 1460, 3) := by decide +kernel
theorem dX7_countDays_14 : decode cX7_countDays 14 = .ok (.invokestatic 82, 3) := by decide +kernel
theorem dX7_countDays_17 : decode cX7_countDays 17 = .ok (.ifCond .eq 18, 3) := by decide +kernel
theorem dX7_countDays_20 : decode cX7_countDays 20 = .ok (.iload_n 3, 1) := by decide +kernel
theorem dX7_countDays_21 : decode cX7_countDays 21 = .ok (.iload_n 2, 1) := by decide +kernel
theorem dX7_countDays_22 : decode cX7_countDays 22 = .ok (.sipush 1460, 3) := by decide +kernel
theorem dX7_countDays_25 : decode cX7_countDays 25 = .ok (.invokestatic 82, 3) := by decide +kernel
theorem dX7_countDays_28 : decode cX7_countDays 28 = .ok (.ifCond .eq 7, 3) := by decide +kernel
theorem dX7_countDays_31 : decode cX7_countDays 31 = .ok (.iconst 1, 1) := by decide +kernel
theorem dX7_countDays_32 : decode cX7_countDays 32 = .ok (.goto 4, 3) := by decide +kernel
theorem dX7_countDays_35 : decode cX7_countDays 35 = .ok (.iconst 0, 1) := by decide +kernel
theorem dX7_countDays_36 : decode cX7_countDays 36 = .ok (.istore 4, 2) := by decide +kernel
theorem dX7_countDays_38 : decode cX7_countDays 38 = .ok (.aload_n 0, 1) := by decide +kernel
theorem dX7_countDays_39 : decode cX7_countDays 39 = .ok (.iload 4, 2) := by decide +kernel
theorem dX7_countDays_41 : decode cX7_countDays 41 = .ok (.ifCond .eq 7, 3) := by decide +kernel
theorem dX7_countDays_44 : decode cX7_countDays 44 = .ok (.iconst 0, 1) := by decide +kernel
theorem dX7_countDays_45 : decode cX7_countDays 45 = .ok (.goto 4, 3) := by decide +kernel
theorem dX7_countDays_48 : decode cX7_countDays 48 = .ok (.iconst 1, 1) := by decide +kernel
theorem dX7_countDays_49 : decode cX7_countDays 49 = .ok (.invokevirtual 96, 3) := by decide +kernel
theorem dX7_countDays_52 : decode cX7_countDays 52 = .ok (.ifCond .eq 7, 3) := by decide +kernel
theorem dX7_countDays_55 : decode cX7_countDays 55 = .ok (.iconst 0, 1) := by decide +kernel
theorem dX7_countDays_56 : decode cX7_countDays 56 = .ok (.goto 9, 3) := by decide +kernel
theorem dX7_countDays_59 : decode cX7_countDays 59 = .ok (.iload_n 1, 1) := by decide +kernel
theorem dX7_countDays_60 : decode cX7_countDays 60 = .ok (.iload_n 2, 1) := by decide +kernel
theorem dX7_countDays_61 : decode cX7_countDays 61 = .ok (.iload_n 3, 1) := by decide +kernel
theorem dX7_countDays_62 : decode cX7_countDays 62 = .ok (.invokestatic 118, 3) := by decide +kernel
theorem dX7_countDays_65 : decode cX7_countDays 65 = .ok (.ireturn, 1) := by decide +kernel
theorem dX7_write_0 : decode cX7_write 0 = .ok (.iload_n 2, 1) := by decide +kernel
theorem dX7_write_1 : decode cX7_write 1 = .ok (.ifCond .eq 33, 3) := by decide +kernel
theorem dX7_write_4 : decode cX7_write 4 = .ok (.aload_n 0, 1) := by decide +kernel
theorem dX7_write_5 : decode cX7_write 5 = .ok (.getfield 63, 3) := by decide +kernel
theorem dX7_write_8 : decode cX7_write 8 = .ok (.aload_n 0, 1) := by decide +kernel
theorem dX7_write_9 : decode cX7_write 9 = .ok (.getfield 134, 3) := by decide +kernel
theorem dX7_write_12 : decode cX7_write 12 = .ok (.iload_n 1, 1) := by decide +kernel
theorem dX7_write_13 : decode cX7_write 13 = .ok (.iastore, 1) := by decide +kernel
theorem dX7_write_14 : decode cX7_write 14 = .ok (.aload_n 0, 1) := by decide +kernel
theorem dX7_write_15 : decode cX7_write 15 = .ok (.getfield 66, 3) := by decide +kernel
theorem dX7_write_18 : decode cX7_write 18 = .ok (.aload_n 0, 1) := by decide +kernel
theorem dX7_write_19 : decode cX7_write 19 = .ok (.getfield 134, 3) := by decide +kernel
theorem dX7_write_22 : decode cX7_write 22 = .ok (.iload_n 2, 1) := by decide +kernel
theorem dX7_write_23 : decode cX7_write 23 = .ok (.iastore, 1) := by decide +kernel
theorem dX7_write_24 : decode cX7_write 24 = .ok (.aload_n 0, 1) := by decide +kernel
theorem dX7_write_25 : decode cX7_write 25 = .ok (.dup, 1) := by decide +kernel
theorem dX7_write_26 : decode cX7_write 26 = .ok (.getfield 134, 3) := by decide +kernel
theorem dX7_write_29 : decode cX7_write 29 = .ok (.iconst 1, 1) := by decide +kernel
theorem dX7_write_30 : decode cX7_write 30 = .ok (.iadd, 1) := by decide +kernel
theorem dX7_write_31 : decode cX7_write 31 = .ok (.putfield 134, 3) := by decide +kernel
theorem dX7_write_34 : decode cX7_write 34 = .ok (.return_, 1) := by decide +kernel
theorem dX7_post_0 : decode cX7_post 0 = .ok (.aload_n 0, 1) := by decide +kernel
theorem dX7_post_1 : decode cX7_post 1 = .ok (.getfield 22, 3) := by decide +kernel
theorem dX7_post_4 : decode cX7_post 4 = .ok (.aload_n 0, 1) := by decide +kernel
theorem dX7_post_5 : decode cX7_post 5 = .ok (.getfield 86, 3) := by decide +kernel
theorem dX7_post_8 : decode cX7_post 8 = .ok (.iload_n 1, 1) := by decide +kernel
theorem dX7_post_9 : decode cX7_post 9 = .ok (.iastore, 1) := by decide +kernel
theorem dX7_post_10 : decode cX7_post 10 = .ok (.aload_n 0, 1) := by decide +kernel
theorem dX7_post_11 : decode cX7_post 11 = .ok (.getfield 25, 3) := by decide +kernel
theorem dX7_post_14 : decode cX7_post 14 = .ok (.aload_n 0, 1) := by decide +kernel
theorem dX7_post_15 : decode cX7_post 15 = .ok (.getfield 86, 3) := by decide +kernel
theorem dX7_post_18 : decode cX7_post 18 = .ok (.iload_n 2, 1) := by decide +kernel
theorem dX7_post_19 : decode cX7_post 19 = .ok (.iastore, 1) := by decide +kernel
theorem dX7_post_20 : decode cX7_post 20 = .ok (.aload_n 0, 1) := by decide +kernel
theorem dX7_post_21 : decode cX7_post 21 = .ok (.getfield 28, 3) := by decide +kernel
theorem dX7_post_24 : decode cX7_post 24 = .ok (.aload_n 0, 1) := by decide +kernel
theorem dX7_post_25 : decode cX7_post 25 = .ok (.getfield 86, 3) := by decide +kernel
theorem dX7_post_28 : decode cX7_post 28 = .ok (.aload_n 0, 1) := by decide +kernel
theorem dX7_post_29 : decode cX7_post 29 = .ok (.getfield 112, 3) := by decide +kernel
theorem dX7_post_32 : decode cX7_post 32 = .ok (.iload_n 3, 1) := by decide +kernel
theorem dX7_post_33 : decode cX7_post 33 = .ok (.iadd, 1) := by decide +kernel
theorem dX7_post_34 : decode cX7_post 34 = .ok (.iastore, 1) := by decide +kernel
theorem dX7_post_35 : decode cX7_post 35 = .ok (.aload_n 0, 1) := by decide +kernel
theorem dX7_post_36 : decode cX7_post 36 = .ok (.getfield 31, 3) := by decide +kernel
theorem dX7_post_39 : decode cX7_post 39 = .ok (.aload_n 0, 1) := by decide +kernel
theorem dX7_post_40 : decode cX7_post 40 = .ok (.getfield 86, 3) := by decide +kernel
theorem dX7_post_43 : decode cX7_post 43 = .ok (.iload_n 2, 1) := by decide +kernel
theorem dX7_post_44 : decode cX7_post 44 = .ok (.iastore, 1) := by decide +kernel
theorem dX7_post_45 : decode cX7_post 45 = .ok (.aload_n 0, 1) := by decide +kernel
theorem dX7_post_46 : decode cX7_post 46 = .ok (.getfield 41, 3) := by decide +kernel
theorem dX7_post_49 : decode cX7_post 49 = .ok (.aload_n 0, 1) := by decide +kernel
theorem dX7_post_50 : decode cX7_post 50 = .ok (.getfield 86, 3) := by decide +kernel
theorem dX7_post_53 : decode cX7_post 53 = .ok (.iload 4, 2) := by decide +kernel
theorem dX7_post_55 : decode cX7_post 55 = .ok (.bastore, 1) := by decide +kernel
theorem dX7_post_56 : decode cX7_post 56 = .ok (.aload_n 0, 1) := by decide +kernel
theorem dX7_post_57 : decode cX7_post 57 = .ok (.aload_n 0, 1) := by decide +kernel
theorem dX7_post_58 : decode cX7_post 58 = .ok (.getfield 86, 3) := by decide +kernel
theorem dX7_post_61 : decode cX7_post 61 = .ok (.iload_n 2, 1) := by decide +kernel
theorem dX7_post_62 : decode cX7_post 62 = .ok (.invokevirtual 137, 3) := by decide +kernel
theorem dX7_post_65 : decode cX7_post 65 = .ok (.aload_n 0, 1) := by decide +kernel
theorem dX7_post_66 : decode cX7_post 66 = .ok (.dup, 1) := by decide +kernel
theorem dX7_post_67 : decode cX7_post 67 = .ok (.getfield 86, 3) := by decide +kernel
theorem dX7_post_70 : decode cX7_post 70 = .ok (.iconst 1, 1) := by decide +kernel
theorem dX7_post_71 : decode cX7_post 71 = .ok (.iadd, 1) := by decide +kernel
theorem dX7_post_72 : decode cX7_post 72 = .ok (.putfield 86, 3) := by decide +kernel
theorem dX7_post_75 : decode cX7_post 75 = .ok (.aload_n 0, 1) := by decide +kernel
theorem dX7_post_76 : decode cX7_post 76 = .ok (.getfield 86, 3) := by decide +kernel
theorem dX7_post_79 : decode cX7_post 79 = .ok (.iconst 1, 1) := by decide +kernel
theorem dX7_post_80 : decode cX7_post 80 = .ok (.isub, 1) := by decide +kernel
theorem dX7_post_81 : decode cX7_post 81 = .ok (.ireturn, 1) := by decide +kernel
theorem dX7_postInvoice_0 : decode cX7_postInvoice 0 = .ok (.iload_n 2, 1) := by decide +kernel
theorem dX7_postInvoice_1 : decode cX7_postInvoice 1 = .ok (.iconst 1, 1) := by decide +kernel
theorem dX7_postInvoice_2 : decode cX7_postInvoice 2 = .ok (.ldc 141, 2) := by decide +kernel
theorem dX7_postInvoice_4 : decode cX7_postInvoice 4 = .ok (.invokestatic 82, 3) := by decide +kernel
theorem dX7_postInvoice_7 : decode cX7_postInvoice 7 = .ok (.ifCond .eq 17, 3) := by decide +kernel
theorem dX7_postInvoice_10 : decode cX7_postInvoice 10 = .ok (.iload_n 3, 1) := by decide +kernel
theorem dX7_postInvoice_11 : decode cX7_postInvoice 11 = .ok (.iconst 0, 1) := by decide +kernel
theorem dX7_postInvoice_12 : decode cX7_postInvoice 12 = .ok (.bipush 120, 2) := by decide +kernel
theorem dX7_postInvoice_14 : decode cX7_postInvoice 14 = .ok (.invokestatic 82, 3) := by decide +kernel
theorem dX7_postInvoice_17 : decode cX7_postInvoice 17 = .ok (.ifCond .eq 7, 3) := by decide +kernel
theorem dX7_postInvoice_20 : decode cX7_postInvoice 20 = .ok (.iconst 1, 1) := by decide +kernel
theorem dX7_postInvoice_21 : decode cX7_postInvoice 21 = .ok (.goto 4, 3) := by decide +kernel
theorem dX7_postInvoice_24 : decode cX7_postInvoice 24 = .ok (.iconst 0, 1) := by decide +kernel
theorem dX7_postInvoice_25 : decode cX7_postInvoice 25 = .ok (.istore 4, 2) := by decide +kernel
theorem dX7_postInvoice_27 : decode cX7_postInvoice 27 = .ok (.aload_n 0, 1) := by decide +kernel
theorem dX7_postInvoice_28 : decode cX7_postInvoice 28 = .ok (.aload_n 0, 1) := by decide +kernel
theorem dX7_postInvoice_29 : decode cX7_postInvoice 29 = .ok (.iload_n 1, 1) := by decide +kernel
theorem dX7_postInvoice_30 : decode cX7_postInvoice 30 = .ok (.invokevirtual 92, 3) := by decide +kernel
theorem dX7_postInvoice_33 : decode cX7_postInvoice 33 = .ok (.ifCond .ne 7, 3) := by decide +kernel
theorem dX7_postInvoice_36 : decode cX7_postInvoice 36 = .ok (.iconst 1, 1) := by decide +kernel
theorem dX7_postInvoice_37 : decode cX7_postInvoice 37 = .ok (.goto 26, 3) := by decide +kernel
theorem dX7_postInvoice_40 : decode cX7_postInvoice 40 = .ok (.iload 4, 2) := by decide +kernel
theorem dX7_postInvoice_42 : decode cX7_postInvoice 42 = .ok (.ifCond .ne 7, 3) := by decide +kernel
theorem dX7_postInvoice_45 : decode cX7_postInvoice 45 = .ok (.iconst 2, 1) := by decide +kernel
theorem dX7_postInvoice_46 : decode cX7_postInvoice 46 = .ok (.goto 17, 3) := by decide +kernel
theorem dX7_postInvoice_49 : decode cX7_postInvoice 49 = .ok (.aload_n 0, 1) := by decide +kernel
theorem dX7_postInvoice_50 : decode cX7_postInvoice 50 = .ok (.getfield 86, 3) := by decide +kernel
theorem dX7_postInvoice_53 : decode cX7_postInvoice 53 = .ok (.bipush 24, 2) := by decide +kernel
theorem dX7_postInvoice_55 : decode cX7_postInvoice 55 = .ok (.if_icmp .ne 7, 3) := by decide +kernel
theorem dX7_postInvoice_58 : decode cX7_postInvoice 58 = .ok (.iconst 3, 1) := by decide +kernel
theorem dX7_postInvoice_59 : decode cX7_postInvoice 59 = .ok (.goto 4, 3) := by decide +kernel
theorem dX7_postInvoice_62 : decode cX7_postInvoice 62 = .ok (.iconst 0, 1) := by decide +kernel
theorem dX7_postInvoice_63 : decode cX7_postInvoice 63 = .ok (.invokevirtual 96, 3) := by decide +kernel
theorem dX7_postInvoice_66 : decode cX7_postInvoice 66 = .ok (.ifCond .eq 5, 3) := by decide +kernel
theorem dX7_postInvoice_69 : decode cX7_postInvoice 69 = .ok (.iconst 0, 1) := by decide +kernel
theorem dX7_postInvoice_70 : decode cX7_postInvoice 70 = .ok (.ireturn, 1) := by decide +kernel
theorem dX7_postInvoice_71 : decode cX7_postInvoice 71 = .ok (.aload_n 0, 1) := by decide +kernel
theorem dX7_postInvoice_72 : decode cX7_postInvoice 72 = .ok (.iload_n 1, 1) := by decide +kernel
theorem dX7_postInvoice_73 : decode cX7_postInvoice 73 = .ok (.iload_n 2, 1) := by decide +kernel
theorem dX7_postInvoice_74 : decode cX7_postInvoice 74 = .ok (.iload_n 3, 1) := by decide +kernel
theorem dX7_postInvoice_75 : decode cX7_postInvoice 75 = .ok (.iconst 0, 1) := by decide +kernel
theorem dX7_postInvoice_76 : decode cX7_postInvoice 76 = .ok (.invokevirtual 142, 3) := by decide +kernel
theorem dX7_postInvoice_79 : decode cX7_postInvoice 79 = .ok (.ireturn, 1) := by decide +kernel
theorem dX7_put_0 : decode cX7_put 0 = .ok (.iload_n 3, 1) := by decide +kernel
theorem dX7_put_1 : decode cX7_put 1 = .ok (.ifCond .le 113, 3) := by decide +kernel
theorem dX7_put_4 : decode cX7_put 4 = .ok (.aload_n 0, 1) := by decide +kernel
theorem dX7_put_5 : decode cX7_put 5 = .ok (.getfield 60, 3) := by decide +kernel
theorem dX7_put_8 : decode cX7_put 8 = .ok (.bipush 24, 2) := by decide +kernel
theorem dX7_put_10 : decode cX7_put 10 = .ok (.iload_n 1, 1) := by decide +kernel
theorem dX7_put_11 : decode cX7_put 11 = .ok (.imul, 1) := by decide +kernel
theorem dX7_put_12 : decode cX7_put 12 = .ok (.iload_n 2, 1) := by decide +kernel
theorem dX7_put_13 : decode cX7_put 13 = .ok (.iadd, 1) := by decide +kernel
theorem dX7_put_14 : decode cX7_put 14 = .ok (.dup2, 1) := by decide +kernel
theorem dX7_put_15 : decode cX7_put 15 = .ok (.iaload, 1) := by decide +kernel
theorem dX7_put_16 : decode cX7_put 16 = .ok (.iload_n 3, 1) := by decide +kernel
theorem dX7_put_17 : decode cX7_put 17 = .ok (.iadd, 1) := by decide +kernel
theorem dX7_put_18 : decode cX7_put 18 = .ok (.iastore, 1) := by decide +kernel
theorem dX7_put_19 : decode cX7_put 19 = .ok (.aload_n 0, 1) := by decide +kernel
theorem dX7_put_20 : decode cX7_put 20 = .ok (.getfield 54, 3) := by decide +kernel
theorem dX7_put_23 : decode cX7_put 23 = .ok (.iload_n 1, 1) := by decide +kernel
theorem dX7_put_24 : decode cX7_put 24 = .ok (.dup2, 1) := by decide +kernel
theorem dX7_put_25 : decode cX7_put 25 = .ok (.iaload, 1) := by decide +kernel
theorem dX7_put_26 : decode cX7_put 26 = .ok (.iload_n 3, 1) := by decide +kernel
theorem dX7_put_27 : decode cX7_put 27 = .ok (.isub, 1) := by decide +kernel
theorem dX7_put_28 : decode cX7_put 28 = .ok (.iastore, 1) := by decide +kernel
theorem dX7_put_29 : decode cX7_put 29 = .ok (.aload_n 0, 1) := by decide +kernel
theorem dX7_put_30 : decode cX7_put 30 = .ok (.getfield 31, 3) := by decide +kernel
theorem dX7_put_33 : decode cX7_put 33 = .ok (.iload_n 2, 1) := by decide +kernel
theorem dX7_put_34 : decode cX7_put 34 = .ok (.dup2, 1) := by decide +kernel
theorem dX7_put_35 : decode cX7_put 35 = .ok (.iaload, 1) := by decide +kernel
theorem dX7_put_36 : decode cX7_put 36 = .ok (.iload_n 3, 1) := by decide +kernel
theorem dX7_put_37 : decode cX7_put 37 = .ok (.isub, 1) := by decide +kernel
theorem dX7_put_38 : decode cX7_put 38 = .ok (.iastore, 1) := by decide +kernel
theorem dX7_put_39 : decode cX7_put 39 = .ok (.aload_n 0, 1) := by decide +kernel
theorem dX7_put_40 : decode cX7_put 40 = .ok (.getfield 34, 3) := by decide +kernel
theorem dX7_put_43 : decode cX7_put 43 = .ok (.iload_n 2, 1) := by decide +kernel
theorem dX7_put_44 : decode cX7_put 44 = .ok (.aload_n 0, 1) := by decide +kernel
theorem dX7_put_45 : decode cX7_put 45 = .ok (.getfield 34, 3) := by decide +kernel
theorem dX7_put_48 : decode cX7_put 48 = .ok (.iload_n 2, 1) := by decide +kernel
theorem dX7_put_49 : decode cX7_put 49 = .ok (.iaload, 1) := by decide +kernel
theorem dX7_put_50 : decode cX7_put 50 = .ok (.aload_n 0, 1) := by decide +kernel
theorem dX7_put_51 : decode cX7_put 51 = .ok (.getfield 31, 3) := by decide +kernel
theorem dX7_put_54 : decode cX7_put 54 = .ok (.iload_n 2, 1) := by decide +kernel
theorem dX7_put_55 : decode cX7_put 55 = .ok (.iaload, 1) := by decide +kernel
theorem dX7_put_56 : decode cX7_put 56 = .ok (.if_icmp .le 12, 3) := by decide +kernel
theorem dX7_put_59 : decode cX7_put 59 = .ok (.aload_n 0, 1) := by decide +kernel
theorem dX7_put_60 : decode cX7_put 60 = .ok (.getfield 31, 3) := by decide +kernel
theorem dX7_put_63 : decode cX7_put 63 = .ok (.iload_n 2, 1) := by decide +kernel
theorem dX7_put_64 : decode cX7_put 64 = .ok (.iaload, 1) := by decide +kernel
theorem dX7_put_65 : decode cX7_put 65 = .ok (.goto 9, 3) := by decide +kernel
theorem dX7_put_68 : decode cX7_put 68 = .ok (.aload_n 0, 1) := by decide +kernel
theorem dX7_put_69 : decode cX7_put 69 = .ok (.getfield 34, 3) := by decide +kernel
theorem dX7_put_72 : decode cX7_put 72 = .ok (.iload_n 2, 1) := by decide +kernel
theorem dX7_put_73 : decode cX7_put 73 = .ok (.iaload, 1) := by decide +kernel
theorem dX7_put_74 : decode cX7_put 74 = .ok (.iastore, 1) := by decide +kernel
theorem dX7_put_75 : decode cX7_put 75 = .ok (.aload_n 0, 1) := by decide +kernel
theorem dX7_put_76 : decode cX7_put 76 = .ok (.getfield 48, 3) := by decide +kernel
theorem dX7_put_79 : decode cX7_put 79 = .ok (.iload_n 2, 1) := by decide +kernel
theorem dX7_put_80 : decode cX7_put 80 = .ok (.iconst 0, 1) := by decide +kernel
theorem dX7_put_81 : decode cX7_put 81 = .ok (.iastore, 1) := by decide +kernel
theorem dX7_put_82 : decode cX7_put 82 = .ok (.aload_n 0, 1) := by decide +kernel
theorem dX7_put_83 : decode cX7_put 83 = .ok (.getfield 45, 3) := by decide +kernel
theorem dX7_put_86 : decode cX7_put 86 = .ok (.iload_n 2, 1) := by decide +kernel
theorem dX7_put_87 : decode cX7_put 87 = .ok (.aload_n 0, 1) := by decide +kernel
theorem dX7_put_88 : decode cX7_put 88 = .ok (.getfield 31, 3) := by decide +kernel
theorem dX7_put_91 : decode cX7_put 91 = .ok (.iload_n 2, 1) := by decide +kernel
theorem dX7_put_92 : decode cX7_put 92 = .ok (.iaload, 1) := by decide +kernel
theorem dX7_put_93 : decode cX7_put 93 = .ok (.ifCond .ne 7, 3) := by decide +kernel
theorem dX7_put_96 : decode cX7_put 96 = .ok (.iconst 0, 1) := by decide +kernel
theorem dX7_put_97 : decode cX7_put 97 = .ok (.goto 9, 3) := by decide +kernel
theorem dX7_put_100 : decode cX7_put 100 = .ok (.aload_n 0, 1) := by decide +kernel
theorem dX7_put_101 : decode cX7_put 101 = .ok (.getfield 45, 3) := by decide +kernel
theorem dX7_put_104 : decode cX7_put 104 = .ok (.iload_n 2, 1) := by decide +kernel
theorem dX7_put_105 : decode cX7_put 105 = .ok (.iaload, 1) := by decide +kernel
theorem dX7_put_106 : decode cX7_put 106 = .ok (.iastore, 1) := by decide +kernel
theorem dX7_put_107 : decode cX7_put 107 = .ok (.aload_n 0, 1) := by decide +kernel
theorem dX7_put_108 : decode cX7_put 108 = .ok (.iload_n 2, 1) := by decide +kernel
theorem dX7_put_109 : decode cX7_put 109 = .ok (.iload_n 3, 1) := by decide +kernel
theorem dX7_put_110 : decode cX7_put 110 = .ok (.ineg, 1) := by decide +kernel
theorem dX7_put_111 : decode cX7_put 111 = .ok (.invokevirtual 137, 3) := by decide +kernel
theorem dX7_put_114 : decode cX7_put 114 = .ok (.return_, 1) := by decide +kernel
theorem dX7_clearOf_0 : decode cX7_clearOf 0 = .ok (.lconst 0, 1) := by decide +kernel
theorem dX7_clearOf_1 : decode cX7_clearOf 1 = .ok (.lstore_n 2, 1) := by decide +kernel
theorem dX7_clearOf_2 : decode cX7_clearOf 2 = .ok (.iconst 0, 1) := by decide +kernel
theorem dX7_clearOf_3 : decode cX7_clearOf 3 = .ok (.istore 4, 2) := by decide +kernel
theorem dX7_clearOf_5 : decode cX7_clearOf 5 = .ok (.iload 4, 2) := by decide +kernel
theorem dX7_clearOf_7 : decode cX7_clearOf 7 = .ok (.aload_n 0, 1) := by decide +kernel
theorem dX7_clearOf_8 : decode cX7_clearOf 8 = .ok (.getfield 86, 3) := by decide +kernel
theorem dX7_clearOf_11 : decode cX7_clearOf 11 = .ok (.if_icmp .ge 34, 3) := by decide +kernel
theorem dX7_clearOf_14 : decode cX7_clearOf 14 = .ok (.lload_n 2, 1) := by decide +kernel
theorem dX7_clearOf_15 : decode cX7_clearOf 15 = .ok (.aload_n 0, 1) := by decide +kernel
theorem dX7_clearOf_16 : decode cX7_clearOf 16 = .ok (.getfield 22, 3) := by decide +kernel
theorem dX7_clearOf_19 : decode cX7_clearOf 19 = .ok (.iload 4, 2) := by decide +kernel
theorem dX7_clearOf_21 : decode cX7_clearOf 21 = .ok (.iaload, 1) := by decide +kernel
theorem dX7_clearOf_22 : decode cX7_clearOf 22 = .ok (.iload_n 1, 1) := by decide +kernel
theorem dX7_clearOf_23 : decode cX7_clearOf 23 = .ok (.if_icmp .ne 13, 3) := by decide +kernel
theorem dX7_clearOf_26 : decode cX7_clearOf 26 = .ok (.aload_n 0, 1) := by decide +kernel
theorem dX7_clearOf_27 : decode cX7_clearOf 27 = .ok (.iload 4, 2) := by decide +kernel
theorem dX7_clearOf_29 : decode cX7_clearOf 29 = .ok (.invokevirtual 115, 3) := by decide +kernel
theorem dX7_clearOf_32 : decode cX7_clearOf 32 = .ok (.i2l, 1) := by decide +kernel
theorem dX7_clearOf_33 : decode cX7_clearOf 33 = .ok (.goto 4, 3) := by decide +kernel
theorem dX7_clearOf_36 : decode cX7_clearOf 36 = .ok (.lconst 0, 1) := by decide +kernel
theorem dX7_clearOf_37 : decode cX7_clearOf 37 = .ok (.ladd, 1) := by decide +kernel
theorem dX7_clearOf_38 : decode cX7_clearOf 38 = .ok (.lstore_n 2, 1) := by decide +kernel
theorem dX7_clearOf_39 : decode cX7_clearOf 39 = .ok (.iinc 4 1, 3) := by decide +kernel
theorem dX7_clearOf_42 : decode cX7_clearOf 42 = .ok (.goto (-37), 3) := by decide +kernel
theorem dX7_clearOf_45 : decode cX7_clearOf 45 = .ok (.lload_n 2, 1) := by decide +kernel
theorem dX7_clearOf_46 : decode cX7_clearOf 46 = .ok (.lreturn, 1) := by decide +kernel
theorem dX7_split_0 : decode cX7_split 0 = .ok (.aload_n 0, 1) := by decide +kernel
theorem dX7_split_1 : decode cX7_split 1 = .ok (.iload_n 1, 1) := by decide +kernel
theorem dX7_split_2 : decode cX7_split 2 = .ok (.invokevirtual 146, 3) := by decide +kernel
theorem dX7_split_5 : decode cX7_split 5 = .ok (.lstore_n 3, 1) := by decide +kernel
theorem dX7_split_6 : decode cX7_split 6 = .ok (.iload_n 2, 1) := by decide +kernel
theorem dX7_split_7 : decode cX7_split 7 = .ok (.istore 5, 2) := by decide +kernel
theorem dX7_split_9 : decode cX7_split 9 = .ok (.iconst 0, 1) := by decide +kernel
theorem dX7_split_10 : decode cX7_split 10 = .ok (.istore 6, 2) := by decide +kernel
theorem dX7_split_12 : decode cX7_split 12 = .ok (.iload 6, 2) := by decide +kernel
theorem dX7_split_14 : decode cX7_split 14 = .ok (.aload_n 0, 1) := by decide +kernel
theorem dX7_split_15 : decode cX7_split 15 = .ok (.getfield 86, 3) := by decide +kernel
theorem dX7_split_18 : decode cX7_split 18 = .ok (.if_icmp .ge 96, 3) := by decide +kernel
theorem dX7_split_21 : decode cX7_split 21 = .ok (.aload_n 0, 1) := by decide +kernel
theorem dX7_split_22 : decode cX7_split 22 = .ok (.getfield 22, 3) := by decide +kernel
theorem dX7_split_25 : decode cX7_split 25 = .ok (.iload 6, 2) := by decide +kernel
theorem dX7_split_27 : decode cX7_split 27 = .ok (.iaload, 1) := by decide +kernel
theorem dX7_split_28 : decode cX7_split 28 = .ok (.iload_n 1, 1) := by decide +kernel
theorem dX7_split_29 : decode cX7_split 29 = .ok (.if_icmp .ne 13, 3) := by decide +kernel
theorem dX7_split_32 : decode cX7_split 32 = .ok (.aload_n 0, 1) := by decide +kernel
theorem dX7_split_33 : decode cX7_split 33 = .ok (.iload 6, 2) := by decide +kernel
theorem dX7_split_35 : decode cX7_split 35 = .ok (.invokevirtual 115, 3) := by decide +kernel
theorem dX7_split_38 : decode cX7_split 38 = .ok (.i2l, 1) := by decide +kernel
theorem dX7_split_39 : decode cX7_split 39 = .ok (.goto 4, 3) := by decide +kernel
theorem dX7_split_42 : decode cX7_split 42 = .ok (.lconst 0, 1) := by decide +kernel
theorem dX7_split_43 : decode cX7_split 43 = .ok (.lstore 7, 2) := by decide +kernel
theorem dX7_split_45 : decode cX7_split 45 = .ok (.aload_n 0, 1) := by decide +kernel
theorem dX7_split_46 : decode cX7_split 46 = .ok (.getfield 69, 3) := by decide +kernel
theorem dX7_split_49 : decode cX7_split 49 = .ok (.iload 6, 2) := by decide +kernel
theorem dX7_split_51 : decode cX7_split 51 = .ok (.lload 7, 2) := by decide +kernel
theorem dX7_split_53 : decode cX7_split 53 = .ok (.lconst 0, 1) := by decide +kernel
theorem dX7_split_54 : decode cX7_split 54 = .ok (.lcmp, 1) := by decide +kernel
theorem dX7_split_55 : decode cX7_split 55 = .ok (.ifCond .ne 7, 3) := by decide +kernel
theorem dX7_split_58 : decode cX7_split 58 = .ok (.iconst 0, 1) := by decide +kernel
theorem dX7_split_59 : decode cX7_split 59 = .ok (.goto 11, 3) := by decide +kernel
theorem dX7_split_62 : decode cX7_split 62 = .ok (.iload_n 2, 1) := by decide +kernel
theorem dX7_split_63 : decode cX7_split 63 = .ok (.i2l, 1) := by decide +kernel
theorem dX7_split_64 : decode cX7_split 64 = .ok (.lload 7, 2) := by decide +kernel
theorem dX7_split_66 : decode cX7_split 66 = .ok (.lmul, 1) := by decide +kernel
theorem dX7_split_67 : decode cX7_split 67 = .ok (.lload_n 3, 1) := by decide +kernel
theorem dX7_split_68 : decode cX7_split 68 = .ok (.ldiv, 1) := by decide +kernel
theorem dX7_split_69 : decode cX7_split 69 = .ok (.l2i, 1) := by decide +kernel
theorem dX7_split_70 : decode cX7_split 70 = .ok (.iastore, 1) := by decide +kernel
theorem dX7_split_71 : decode cX7_split 71 = .ok (.aload_n 0, 1) := by decide +kernel
theorem dX7_split_72 : decode cX7_split 72 = .ok (.getfield 72, 3) := by decide +kernel
theorem dX7_split_75 : decode cX7_split 75 = .ok (.iload 6, 2) := by decide +kernel
theorem dX7_split_77 : decode cX7_split 77 = .ok (.lload 7, 2) := by decide +kernel
theorem dX7_split_79 : decode cX7_split 79 = .ok (.lconst 0, 1) := by decide +kernel
theorem dX7_split_80 : decode cX7_split 80 = .ok (.lcmp, 1) := by decide +kernel
theorem dX7_split_81 : decode cX7_split 81 = .ok (.ifCond .ne 7, 3) := by decide +kernel
theorem dX7_split_84 : decode cX7_split 84 = .ok (.lconst 0, 1) := by decide +kernel
theorem dX7_split_85 : decode cX7_split 85 = .ok (.goto 10, 3) := by decide +kernel
theorem dX7_split_88 : decode cX7_split 88 = .ok (.iload_n 2, 1) := by decide +kernel
theorem dX7_split_89 : decode cX7_split 89 = .ok (.i2l, 1) := by decide +kernel
theorem dX7_split_90 : decode cX7_split 90 = .ok (.lload 7, 2) := by decide +kernel
theorem dX7_split_92 : decode cX7_split 92 = .ok (.lmul, 1) := by decide +kernel
theorem dX7_split_93 : decode cX7_split 93 = .ok (.lload_n 3, 1) := by decide +kernel
theorem dX7_split_94 : decode cX7_split 94 = .ok (.lrem, 1) := by decide +kernel
theorem dX7_split_95 : decode cX7_split 95 = .ok (.lastore, 1) := by decide +kernel
theorem dX7_split_96 : decode cX7_split 96 = .ok (.iload 5, 2) := by decide +kernel
theorem dX7_split_98 : decode cX7_split 98 = .ok (.aload_n 0, 1) := by decide +kernel
theorem dX7_split_99 : decode cX7_split 99 = .ok (.getfield 69, 3) := by decide +kernel
theorem dX7_split_102 : decode cX7_split 102 = .ok (.iload 6, 2) := by decide +kernel
theorem dX7_split_104 : decode cX7_split 104 = .ok (.iaload, 1) := by decide +kernel
theorem dX7_split_105 : decode cX7_split 105 = .ok (.isub, 1) := by decide +kernel
theorem dX7_split_106 : decode cX7_split 106 = .ok (.istore 5, 2) := by decide +kernel
theorem dX7_split_108 : decode cX7_split 108 = .ok (.iinc 6 1, 3) := by decide +kernel
theorem dX7_split_111 : decode cX7_split 111 = .ok (.goto (-99), 3) := by decide +kernel
theorem dX7_split_114 : decode cX7_split 114 = .ok (.iload 5, 2) := by decide +kernel
theorem dX7_split_116 : decode cX7_split 116 = .ok (.ifCond .le 76, 3) := by decide +kernel
theorem dX7_split_119 : decode cX7_split 119 = .ok (.iconst 0, 1) := by decide +kernel
theorem dX7_split_120 : decode cX7_split 120 = .ok (.istore 6, 2) := by decide +kernel
theorem dX7_split_122 : decode cX7_split 122 = .ok (.iconst 1, 1) := by decide +kernel
theorem dX7_split_123 : decode cX7_split 123 = .ok (.istore 7, 2) := by decide +kernel
theorem dX7_split_125 : decode cX7_split 125 = .ok (.iload 7, 2) := by decide +kernel
theorem dX7_split_127 : decode cX7_split 127 = .ok (.aload_n 0, 1) := by decide +kernel
theorem dX7_split_128 : decode cX7_split 128 = .ok (.getfield 86, 3) := by decide +kernel
theorem dX7_split_131 : decode cX7_split 131 = .ok (.if_icmp .ge 36, 3) := by decide +kernel
theorem dX7_split_134 : decode cX7_split 134 = .ok (.aload_n 0, 1) := by decide +kernel
theorem dX7_split_135 : decode cX7_split 135 = .ok (.getfield 72, 3) := by decide +kernel
theorem dX7_split_138 : decode cX7_split 138 = .ok (.iload 7, 2) := by decide +kernel
theorem dX7_split_140 : decode cX7_split 140 = .ok (.laload, 1) := by decide +kernel
theorem dX7_split_141 : decode cX7_split 141 = .ok (.aload_n 0, 1) := by decide +kernel
theorem dX7_split_142 : decode cX7_split 142 = .ok (.getfield 72, 3) := by decide +kernel
theorem dX7_split_145 : decode cX7_split 145 = .ok (.iload 6, 2) := by decide +kernel
theorem dX7_split_147 : decode cX7_split 147 = .ok (.laload, 1) := by decide +kernel
theorem dX7_split_148 : decode cX7_split 148 = .ok (.lcmp, 1) := by decide +kernel
theorem dX7_split_149 : decode cX7_split 149 = .ok (.ifCond .le 8, 3) := by decide +kernel
theorem dX7_split_152 : decode cX7_split 152 = .ok (.iload 7, 2) := by decide +kernel
theorem dX7_split_154 : decode cX7_split 154 = .ok (.goto 5, 3) := by decide +kernel
theorem dX7_split_157 : decode cX7_split 157 = .ok (.iload 6, 2) := by decide +kernel
theorem dX7_split_159 : decode cX7_split 159 = .ok (.istore 6, 2) := by decide +kernel
theorem dX7_split_161 : decode cX7_split 161 = .ok (.iinc 7 1, 3) := by decide +kernel
theorem dX7_split_164 : decode cX7_split 164 = .ok (.goto (-39), 3) := by decide +kernel
theorem dX7_split_167 : decode cX7_split 167 = .ok (.aload_n 0, 1) := by decide +kernel
theorem dX7_split_168 : decode cX7_split 168 = .ok (.getfield 69, 3) := by decide +kernel
theorem dX7_split_171 : decode cX7_split 171 = .ok (.iload 6, 2) := by decide +kernel
theorem dX7_split_173 : decode cX7_split 173 = .ok (.dup2, 1) := by decide +kernel
theorem dX7_split_174 : decode cX7_split 174 = .ok (.iaload, 1) := by decide +kernel
theorem dX7_split_175 : decode cX7_split 175 = .ok (.iconst 1, 1) := by decide +kernel
theorem dX7_split_176 : decode cX7_split 176 = .ok (.iadd, 1) := by decide +kernel
theorem dX7_split_177 : decode cX7_split 177 = .ok (.iastore, 1) := by decide +kernel
theorem dX7_split_178 : decode cX7_split 178 = .ok (.aload_n 0, 1) := by decide +kernel
theorem dX7_split_179 : decode cX7_split 179 = .ok (.getfield 72, 3) := by decide +kernel
theorem dX7_split_182 : decode cX7_split 182 = .ok (.iload 6, 2) := by decide +kernel
theorem dX7_split_184 : decode cX7_split 184 = .ok (.lconst 0, 1) := by decide +kernel
theorem dX7_split_185 : decode cX7_split 185 = .ok (.lastore, 1) := by decide +kernel
theorem dX7_split_186 : decode cX7_split 186 = .ok (.iinc 5 (-1), 3) := by decide +kernel
theorem dX7_split_189 : decode cX7_split 189 = .ok (.goto (-75), 3) := by decide +kernel
theorem dX7_split_192 : decode cX7_split 192 = .ok (.return_, 1) := by decide +kernel
theorem dX7_oldestOf_0 : decode cX7_oldestOf 0 = .ok (.iconst (-1), 1) := by decide +kernel
theorem dX7_oldestOf_1 : decode cX7_oldestOf 1 = .ok (.istore_n 2, 1) := by decide +kernel
theorem dX7_oldestOf_2 : decode cX7_oldestOf 2 = .ok (.iconst 0, 1) := by decide +kernel
theorem dX7_oldestOf_3 : decode cX7_oldestOf 3 = .ok (.istore_n 3, 1) := by decide +kernel
theorem dX7_oldestOf_4 : decode cX7_oldestOf 4 = .ok (.iload_n 3, 1) := by decide +kernel
theorem dX7_oldestOf_5 : decode cX7_oldestOf 5 = .ok (.aload_n 0, 1) := by decide +kernel
theorem dX7_oldestOf_6 : decode cX7_oldestOf 6 = .ok (.getfield 86, 3) := by decide +kernel
theorem dX7_oldestOf_9 : decode cX7_oldestOf 9 = .ok (.if_icmp .ge 53, 3) := by decide +kernel
theorem dX7_oldestOf_12 : decode cX7_oldestOf 12 = .ok (.aload_n 0, 1) := by decide +kernel
theorem dX7_oldestOf_13 : decode cX7_oldestOf 13 = .ok (.getfield 22, 3) := by decide +kernel
theorem dX7_oldestOf_16 : decode cX7_oldestOf 16 = .ok (.iload_n 3, 1) := by decide +kernel
theorem dX7_oldestOf_17 : decode cX7_oldestOf 17 = .ok (.iaload, 1) := by decide +kernel
theorem dX7_oldestOf_18 : decode cX7_oldestOf 18 = .ok (.iload_n 1, 1) := by decide +kernel
theorem dX7_oldestOf_19 : decode cX7_oldestOf 19 = .ok (.if_icmp .ne 35, 3) := by decide +kernel
theorem dX7_oldestOf_22 : decode cX7_oldestOf 22 = .ok (.aload_n 0, 1) := by decide +kernel
theorem dX7_oldestOf_23 : decode cX7_oldestOf 23 = .ok (.iload_n 3, 1) := by decide +kernel
theorem dX7_oldestOf_24 : decode cX7_oldestOf 24 = .ok (.invokevirtual 115, 3) := by decide +kernel
theorem dX7_oldestOf_27 : decode cX7_oldestOf 27 = .ok (.ifCond .le 27, 3) := by decide +kernel
theorem dX7_oldestOf_30 : decode cX7_oldestOf 30 = .ok (.iload_n 2, 1) := by decide +kernel
theorem dX7_oldestOf_31 : decode cX7_oldestOf 31 = .ok (.iconst (-1), 1) := by decide +kernel
theorem dX7_oldestOf_32 : decode cX7_oldestOf 32 = .ok (.if_icmp .eq 18, 3) := by decide +kernel
theorem dX7_oldestOf_35 : decode cX7_oldestOf 35 = .ok (.aload_n 0, 1) := by decide +kernel
theorem dX7_oldestOf_36 : decode cX7_oldestOf 36 = .ok (.getfield 28, 3) := by decide +kernel
theorem dX7_oldestOf_39 : decode cX7_oldestOf 39 = .ok (.iload_n 3, 1) := by decide +kernel
theorem dX7_oldestOf_40 : decode cX7_oldestOf 40 = .ok (.iaload, 1) := by decide +kernel
theorem dX7_oldestOf_41 : decode cX7_oldestOf 41 = .ok (.aload_n 0, 1) := by decide +kernel
theorem dX7_oldestOf_42 : decode cX7_oldestOf 42 = .ok (.getfield 28, 3) := by decide +kernel
theorem dX7_oldestOf_45 : decode cX7_oldestOf 45 = .ok (.iload_n 2, 1) := by decide +kernel
theorem dX7_oldestOf_46 : decode cX7_oldestOf 46 = .ok (.iaload, 1) := by decide +kernel
theorem dX7_oldestOf_47 : decode cX7_oldestOf 47 = .ok (.if_icmp .ge 7, 3) := by decide +kernel
theorem dX7_oldestOf_50 : decode cX7_oldestOf 50 = .ok (.iload_n 3, 1) := by decide +kernel
theorem dX7_oldestOf_51 : decode cX7_oldestOf 51 = .ok (.goto 4, 3) := by decide +kernel
theorem dX7_oldestOf_54 : decode cX7_oldestOf 54 = .ok (.iload_n 2, 1) := by decide +kernel
theorem dX7_oldestOf_55 : decode cX7_oldestOf 55 = .ok (.istore_n 2, 1) := by decide +kernel
theorem dX7_oldestOf_56 : decode cX7_oldestOf 56 = .ok (.iinc 3 1, 3) := by decide +kernel
theorem dX7_oldestOf_59 : decode cX7_oldestOf 59 = .ok (.goto (-55), 3) := by decide +kernel
theorem dX7_oldestOf_62 : decode cX7_oldestOf 62 = .ok (.iload_n 2, 1) := by decide +kernel
theorem dX7_oldestOf_63 : decode cX7_oldestOf 63 = .ok (.ireturn, 1) := by decide +kernel
theorem dX7_share_0 : decode cX7_share 0 = .ok (.aload_n 0, 1) := by decide +kernel
theorem dX7_share_1 : decode cX7_share 1 = .ok (.iload_n 1, 1) := by decide +kernel
theorem dX7_share_2 : decode cX7_share 2 = .ok (.invokevirtual 146, 3) := by decide +kernel
theorem dX7_share_5 : decode cX7_share 5 = .ok (.lstore_n 3, 1) := by decide +kernel
theorem dX7_share_6 : decode cX7_share 6 = .ok (.iload_n 2, 1) := by decide +kernel
theorem dX7_share_7 : decode cX7_share 7 = .ok (.i2l, 1) := by decide +kernel
theorem dX7_share_8 : decode cX7_share 8 = .ok (.lload_n 3, 1) := by decide +kernel
theorem dX7_share_9 : decode cX7_share 9 = .ok (.lcmp, 1) := by decide +kernel
theorem dX7_share_10 : decode cX7_share 10 = .ok (.ifCond .ge 8, 3) := by decide +kernel
theorem dX7_share_13 : decode cX7_share 13 = .ok (.iload_n 2, 1) := by decide +kernel
theorem dX7_share_14 : decode cX7_share 14 = .ok (.i2l, 1) := by decide +kernel
theorem dX7_share_15 : decode cX7_share 15 = .ok (.goto 4, 3) := by decide +kernel
theorem dX7_share_18 : decode cX7_share 18 = .ok (.lload_n 3, 1) := by decide +kernel
theorem dX7_share_19 : decode cX7_share 19 = .ok (.l2i, 1) := by decide +kernel
theorem dX7_share_20 : decode cX7_share 20 = .ok (.istore 5, 2) := by decide +kernel
theorem dX7_share_22 : decode cX7_share 22 = .ok (.aload_n 0, 1) := by decide +kernel
theorem dX7_share_23 : decode cX7_share 23 = .ok (.getfield 7, 3) := by decide +kernel
theorem dX7_share_26 : decode cX7_share 26 = .ok (.iload_n 1, 1) := by decide +kernel
theorem dX7_share_27 : decode cX7_share 27 = .ok (.iaload, 1) := by decide +kernel
theorem dX7_share_28 : decode cX7_share 28 = .ok (.iconst 1, 1) := by decide +kernel
theorem dX7_share_29 : decode cX7_share 29 = .ok (.if_icmp .ne 11, 3) := by decide +kernel
theorem dX7_share_32 : decode cX7_share 32 = .ok (.aload_n 0, 1) := by decide +kernel
theorem dX7_share_33 : decode cX7_share 33 = .ok (.iload_n 1, 1) := by decide +kernel
theorem dX7_share_34 : decode cX7_share 34 = .ok (.iload 5, 2) := by decide +kernel
theorem dX7_share_36 : decode cX7_share 36 = .ok (.invokevirtual 150, 3) := by decide +kernel
theorem dX7_share_39 : decode cX7_share 39 = .ok (.return_, 1) := by decide +kernel
theorem dX7_share_40 : decode cX7_share 40 = .ok (.iconst 0, 1) := by decide +kernel
theorem dX7_share_41 : decode cX7_share 41 = .ok (.istore 6, 2) := by decide +kernel
theorem dX7_share_43 : decode cX7_share 43 = .ok (.iload 6, 2) := by decide +kernel
theorem dX7_share_45 : decode cX7_share 45 = .ok (.aload_n 0, 1) := by decide +kernel
theorem dX7_share_46 : decode cX7_share 46 = .ok (.getfield 86, 3) := by decide +kernel
theorem dX7_share_49 : decode cX7_share 49 = .ok (.if_icmp .ge 17, 3) := by decide +kernel
theorem dX7_share_52 : decode cX7_share 52 = .ok (.aload_n 0, 1) := by decide +kernel
theorem dX7_share_53 : decode cX7_share 53 = .ok (.getfield 69, 3) := by decide +kernel
theorem dX7_share_56 : decode cX7_share 56 = .ok (.iload 6, 2) := by decide +kernel
theorem dX7_share_58 : decode cX7_share 58 = .ok (.iconst 0, 1) := by decide +kernel
theorem dX7_share_59 : decode cX7_share 59 = .ok (.iastore, 1) := by decide +kernel
theorem dX7_share_60 : decode cX7_share 60 = .ok (.iinc 6 1, 3) := by decide +kernel
theorem dX7_share_63 : decode cX7_share 63 = .ok (.goto (-20), 3) := by decide +kernel
theorem dX7_share_66 : decode cX7_share 66 = .ok (.aload_n 0, 1) := by decide +kernel
theorem dX7_share_67 : decode cX7_share 67 = .ok (.getfield 7, 3) := by decide +kernel
theorem dX7_share_70 : decode cX7_share 70 = .ok (.iload_n 1, 1) := by decide +kernel
theorem dX7_share_71 : decode cX7_share 71 = .ok (.iaload, 1) := by decide +kernel
theorem dX7_share_72 : decode cX7_share 72 = .ok (.ifCond .ne 48, 3) := by decide +kernel
theorem dX7_share_75 : decode cX7_share 75 = .ok (.iconst 0, 1) := by decide +kernel
theorem dX7_share_76 : decode cX7_share 76 = .ok (.istore 6, 2) := by decide +kernel
theorem dX7_share_78 : decode cX7_share 78 = .ok (.iload 6, 2) := by decide +kernel
theorem dX7_share_80 : decode cX7_share 80 = .ok (.aload_n 0, 1) := by decide +kernel
theorem dX7_share_81 : decode cX7_share 81 = .ok (.getfield 86, 3) := by decide +kernel
theorem dX7_share_84 : decode cX7_share 84 = .ok (.if_icmp .ge 36, 3) := by decide +kernel
theorem dX7_share_87 : decode cX7_share 87 = .ok (.aload_n 0, 1) := by decide +kernel
theorem dX7_share_88 : decode cX7_share 88 = .ok (.getfield 22, 3) := by decide +kernel
theorem dX7_share_91 : decode cX7_share 91 = .ok (.iload 6, 2) := by decide +kernel
theorem dX7_share_93 : decode cX7_share 93 = .ok (.iaload, 1) := by decide +kernel
theorem dX7_share_94 : decode cX7_share 94 = .ok (.iload_n 1, 1) := by decide +kernel
theorem dX7_share_95 : decode cX7_share 95 = .ok (.if_icmp .ne 19, 3) := by decide +kernel
theorem dX7_share_98 : decode cX7_share 98 = .ok (.aload_n 0, 1) := by decide +kernel
theorem dX7_share_99 : decode cX7_share 99 = .ok (.getfield 69, 3) := by decide +kernel
theorem dX7_share_102 : decode cX7_share 102 = .ok (.iload 6, 2) := by decide +kernel
theorem dX7_share_104 : decode cX7_share 104 = .ok (.aload_n 0, 1) := by decide +kernel
theorem dX7_share_105 : decode cX7_share 105 = .ok (.iload_n 1, 1) := by decide +kernel
theorem dX7_share_106 : decode cX7_share 106 = .ok (.iload 6, 2) := by decide +kernel
theorem dX7_share_108 : decode cX7_share 108 = .ok (.iload 5, 2) := by decide +kernel
theorem dX7_share_110 : decode cX7_share 110 = .ok (.invokevirtual 153, 3) := by decide +kernel
theorem dX7_share_113 : decode cX7_share 113 = .ok (.iastore, 1) := by decide +kernel
theorem dX7_share_114 : decode cX7_share 114 = .ok (.iinc 6 1, 3) := by decide +kernel
theorem dX7_share_117 : decode cX7_share 117 = .ok (.goto (-39), 3) := by decide +kernel
theorem dX7_share_120 : decode cX7_share 120 = .ok (.return_, 1) := by decide +kernel
theorem dX7_fromOldest_0 : decode cX7_fromOldest 0 = .ok (.lconst 0, 1) := by decide +kernel
theorem dX7_fromOldest_1 : decode cX7_fromOldest 1 = .ok (.lstore 4, 2) := by decide +kernel
theorem dX7_fromOldest_3 : decode cX7_fromOldest 3 = .ok (.iconst 0, 1) := by decide +kernel
theorem dX7_fromOldest_4 : decode cX7_fromOldest 4 = .ok (.istore 6, 2) := by decide +kernel
theorem dX7_fromOldest_6 : decode cX7_fromOldest 6 = .ok (.iload 6, 2) := by decide +kernel
theorem dX7_fromOldest_8 : decode cX7_fromOldest 8 = .ok (.aload_n 0, 1) := by decide +kernel
theorem dX7_fromOldest_9 : decode cX7_fromOldest 9 = .ok (.getfield 86, 3) := by decide +kernel
theorem dX7_fromOldest_12 : decode cX7_fromOldest 12 = .ok (.if_icmp .ge 86, 3) := by decide +kernel
theorem dX7_fromOldest_15 : decode cX7_fromOldest 15 = .ok (.aload_n 0, 1) := by decide +kernel
theorem dX7_fromOldest_16 : decode cX7_fromOldest 16 = .ok (.getfield 28, 3) := by decide +kernel
theorem dX7_fromOldest_19 : decode cX7_fromOldest 19 = .ok (.iload 6, 2) := by decide +kernel
theorem dX7_fromOldest_21 : decode cX7_fromOldest 21 = .ok (.iaload, 1) := by decide +kernel
theorem dX7_fromOldest_22 : decode cX7_fromOldest 22 = .ok (.aload_n 0, 1) := by decide +kernel
theorem dX7_fromOldest_23 : decode cX7_fromOldest 23 = .ok (.getfield 28, 3) := by decide +kernel
theorem dX7_fromOldest_26 : decode cX7_fromOldest 26 = .ok (.iload_n 2, 1) := by decide +kernel
theorem dX7_fromOldest_27 : decode cX7_fromOldest 27 = .ok (.iaload, 1) := by decide +kernel
theorem dX7_fromOldest_28 : decode cX7_fromOldest 28 = .ok (.if_icmp .lt 25, 3) := by decide +kernel
theorem dX7_fromOldest_31 : decode cX7_fromOldest 31 = .ok (.aload_n 0, 1) := by decide +kernel
theorem dX7_fromOldest_32 : decode cX7_fromOldest 32 = .ok (.getfield 28, 3) := by decide +kernel
theorem dX7_fromOldest_35 : decode cX7_fromOldest 35 = .ok (.iload 6, 2) := by decide +kernel
theorem dX7_fromOldest_37 : decode cX7_fromOldest 37 = .ok (.iaload, 1) := by decide +kernel
theorem dX7_fromOldest_38 : decode cX7_fromOldest 38 = .ok (.aload_n 0, 1) := by decide +kernel
theorem dX7_fromOldest_39 : decode cX7_fromOldest 39 = .ok (.getfield 28, 3) := by decide +kernel
theorem dX7_fromOldest_42 : decode cX7_fromOldest 42 = .ok (.iload_n 2, 1) := by decide +kernel
theorem dX7_fromOldest_43 : decode cX7_fromOldest 43 = .ok (.iaload, 1) := by decide +kernel
theorem dX7_fromOldest_44 : decode cX7_fromOldest 44 = .ok (.if_icmp .ne 13, 3) := by decide +kernel
theorem dX7_fromOldest_47 : decode cX7_fromOldest 47 = .ok (.iload 6, 2) := by decide +kernel
theorem dX7_fromOldest_49 : decode cX7_fromOldest 49 = .ok (.iload_n 2, 1) := by decide +kernel
theorem dX7_fromOldest_50 : decode cX7_fromOldest 50 = .ok (.if_icmp .ge 7, 3) := by decide +kernel
theorem dX7_fromOldest_53 : decode cX7_fromOldest 53 = .ok (.iconst 1, 1) := by decide +kernel
theorem dX7_fromOldest_54 : decode cX7_fromOldest 54 = .ok (.goto 4, 3) := by decide +kernel
theorem dX7_fromOldest_57 : decode cX7_fromOldest 57 = .ok (.iconst 0, 1) := by decide +kernel
theorem dX7_fromOldest_58 : decode cX7_fromOldest 58 = .ok (.istore 7, 2) := by decide +kernel
theorem dX7_fromOldest_60 : decode cX7_fromOldest 60 = .ok (.lload 4, 2) := by decide +kernel
theorem dX7_fromOldest_62 : decode cX7_fromOldest 62 = .ok (.aload_n 0, 1) := by decide +kernel
theorem dX7_fromOldest_63 : decode cX7_fromOldest 63 = .ok (.getfield 22, 3) := by decide +kernel
theorem dX7_fromOldest_66 : decode cX7_fromOldest 66 = .ok (.iload 6, 2) := by decide +kernel
theorem dX7_fromOldest_68 : decode cX7_fromOldest 68 = .ok (.iaload, 1) := by decide +kernel
theorem dX7_fromOldest_69 : decode cX7_fromOldest 69 = .ok (.iload_n 1, 1) := by decide +kernel
theorem dX7_fromOldest_70 : decode cX7_fromOldest 70 = .ok (.if_icmp .ne 18, 3) := by decide +kernel
theorem dX7_fromOldest_73 : decode cX7_fromOldest 73 = .ok (.iload 7, 2) := by decide +kernel
theorem dX7_fromOldest_75 : decode cX7_fromOldest 75 = .ok (.ifCond .eq 13, 3) := by decide +kernel
theorem dX7_fromOldest_78 : decode cX7_fromOldest 78 = .ok (.aload_n 0, 1) := by decide +kernel
theorem dX7_fromOldest_79 : decode cX7_fromOldest 79 = .ok (.iload 6, 2) := by decide +kernel
theorem dX7_fromOldest_81 : decode cX7_fromOldest 81 = .ok (.invokevirtual 115, 3) := by decide +kernel
theorem dX7_fromOldest_84 : decode cX7_fromOldest 84 = .ok (.i2l, 1) := by decide +kernel
theorem dX7_fromOldest_85 : decode cX7_fromOldest 85 = .ok (.goto 4, 3) := by decide +kernel
theorem dX7_fromOldest_88 : decode cX7_fromOldest 88 = .ok (.lconst 0, 1) := by decide +kernel
theorem dX7_fromOldest_89 : decode cX7_fromOldest 89 = .ok (.ladd, 1) := by decide +kernel
theorem dX7_fromOldest_90 : decode cX7_fromOldest 90 = .ok (.lstore 4, 2) := by decide +kernel
theorem dX7_fromOldest_92 : decode cX7_fromOldest 92 = .ok (.iinc 6 1, 3) := by decide +kernel
theorem dX7_fromOldest_95 : decode cX7_fromOldest 95 = .ok (.goto (-89), 3) := by decide +kernel
theorem dX7_fromOldest_98 : decode cX7_fromOldest 98 = .ok (.iload_n 3, 1) := by decide +kernel
theorem dX7_fromOldest_99 : decode cX7_fromOldest 99 = .ok (.i2l, 1) := by decide +kernel
theorem dX7_fromOldest_100 : decode cX7_fromOldest 100 = .ok (.lload 4, 2) := by decide +kernel
theorem dX7_fromOldest_102 : decode cX7_fromOldest 102 = .ok (.lsub, 1) := by decide +kernel
theorem dX7_fromOldest_103 : decode cX7_fromOldest 103 = .ok (.lstore 6, 2) := by decide +kernel
theorem dX7_fromOldest_105 : decode cX7_fromOldest 105 = .ok (.lload 6, 2) := by decide +kernel
theorem dX7_fromOldest_107 : decode cX7_fromOldest 107 = .ok (.lconst 0, 1) := by decide +kernel
theorem dX7_fromOldest_108 : decode cX7_fromOldest 108 = .ok (.lcmp, 1) := by decide +kernel
theorem dX7_fromOldest_109 : decode cX7_fromOldest 109 = .ok (.ifCond .gt 7, 3) := by decide +kernel
theorem dX7_fromOldest_112 : decode cX7_fromOldest 112 = .ok (.iconst 0, 1) := by decide +kernel
theorem dX7_fromOldest_113 : decode cX7_fromOldest 113 = .ok (.goto 27, 3) := by decide +kernel
theorem dX7_fromOldest_116 : decode cX7_fromOldest 116 = .ok (.lload 6, 2) := by decide +kernel
theorem dX7_fromOldest_118 : decode cX7_fromOldest 118 = .ok (.aload_n 0, 1) := by decide +kernel
theorem dX7_fromOldest_119 : decode cX7_fromOldest 119 = .ok (.iload_n 2, 1) := by decide +kernel
theorem dX7_fromOldest_120 : decode cX7_fromOldest 120 = .ok (.invokevirtual 115, 3) := by decide +kernel
theorem dX7_fromOldest_123 : decode cX7_fromOldest 123 = .ok (.i2l, 1) := by decide +kernel
theorem dX7_fromOldest_124 : decode cX7_fromOldest 124 = .ok (.lcmp, 1) := by decide +kernel
theorem dX7_fromOldest_125 : decode cX7_fromOldest 125 = .ok (.ifCond .ge 8, 3) := by decide +kernel
theorem dX7_fromOldest_128 : decode cX7_fromOldest 128 = .ok (.lload 6, 2) := by decide +kernel
theorem dX7_fromOldest_130 : decode cX7_fromOldest 130 = .ok (.goto 9, 3) := by decide +kernel
theorem dX7_fromOldest_133 : decode cX7_fromOldest 133 = .ok (.aload_n 0, 1) := by decide +kernel
theorem dX7_fromOldest_134 : decode cX7_fromOldest 134 = .ok (.iload_n 2, 1) := by decide +kernel
theorem dX7_fromOldest_135 : decode cX7_fromOldest 135 = .ok (.invokevirtual 115, 3) := by decide +kernel
theorem dX7_fromOldest_138 : decode cX7_fromOldest 138 = .ok (.i2l, 1) := by decide +kernel
theorem dX7_fromOldest_139 : decode cX7_fromOldest 139 = .ok (.l2i, 1) := by decide +kernel
theorem dX7_fromOldest_140 : decode cX7_fromOldest 140 = .ok (.ireturn, 1) := by decide +kernel
theorem dX7_allocateByRule_0 : decode cX7_allocateByRule 0 = .ok (.aload_n 0, 1) := by decide +kernel
theorem dX7_allocateByRule_1 : decode cX7_allocateByRule 1 = .ok (.getfield 54, 3) := by decide +kernel
theorem dX7_allocateByRule_4 : decode cX7_allocateByRule 4 = .ok (.iload_n 1, 1) := by decide +kernel
theorem dX7_allocateByRule_5 : decode cX7_allocateByRule 5 = .ok (.iaload, 1) := by decide +kernel
theorem dX7_allocateByRule_6 : decode cX7_allocateByRule 6 = .ok (.istore_n 2, 1) := by decide +kernel
theorem dX7_allocateByRule_7 : decode cX7_allocateByRule 7 = .ok (.iload_n 2, 1) := by decide +kernel
theorem dX7_allocateByRule_8 : decode cX7_allocateByRule 8 = .ok (.ifCond .le 42, 3) := by decide +kernel
theorem dX7_allocateByRule_11 : decode cX7_allocateByRule 11 = .ok (.aload_n 0, 1) := by decide +kernel
theorem dX7_allocateByRule_12 : decode cX7_allocateByRule 12 = .ok (.aload_n 0, 1) := by decide +kernel
theorem dX7_allocateByRule_13 : decode cX7_allocateByRule 13 = .ok (.getfield 51, 3) := by decide +kernel
theorem dX7_allocateByRule_16 : decode cX7_allocateByRule 16 = .ok (.iload_n 1, 1) := by decide +kernel
theorem dX7_allocateByRule_17 : decode cX7_allocateByRule 17 = .ok (.iaload, 1) := by decide +kernel
theorem dX7_allocateByRule_18 : decode cX7_allocateByRule 18 = .ok (.iload_n 2, 1) := by decide +kernel
theorem dX7_allocateByRule_19 : decode cX7_allocateByRule 19 = .ok (.invokevirtual 156, 3) := by decide +kernel
theorem dX7_allocateByRule_22 : decode cX7_allocateByRule 22 = .ok (.iconst 0, 1) := by decide +kernel
theorem dX7_allocateByRule_23 : decode cX7_allocateByRule 23 = .ok (.istore_n 3, 1) := by decide +kernel
theorem dX7_allocateByRule_24 : decode cX7_allocateByRule 24 = .ok (.iload_n 3, 1) := by decide +kernel
theorem dX7_allocateByRule_25 : decode cX7_allocateByRule 25 = .ok (.aload_n 0, 1) := by decide +kernel
theorem dX7_allocateByRule_26 : decode cX7_allocateByRule 26 = .ok (.getfield 86, 3) := by decide +kernel
theorem dX7_allocateByRule_29 : decode cX7_allocateByRule 29 = .ok (.if_icmp .ge 21, 3) := by decide +kernel
theorem dX7_allocateByRule_32 : decode cX7_allocateByRule 32 = .ok (.aload_n 0, 1) := by decide +kernel
theorem dX7_allocateByRule_33 : decode cX7_allocateByRule 33 = .ok (.iload_n 1, 1) := by decide +kernel
theorem dX7_allocateByRule_34 : decode cX7_allocateByRule 34 = .ok (.iload_n 3, 1) := by decide +kernel
theorem dX7_allocateByRule_35 : decode cX7_allocateByRule 35 = .ok (.aload_n 0, 1) := by decide +kernel
theorem dX7_allocateByRule_36 : decode cX7_allocateByRule 36 = .ok (.getfield 69, 3) := by decide +kernel
theorem dX7_allocateByRule_39 : decode cX7_allocateByRule 39 = .ok (.iload_n 3, 1) := by decide +kernel
theorem dX7_allocateByRule_40 : decode cX7_allocateByRule 40 = .ok (.iaload, 1) := by decide +kernel
theorem dX7_allocateByRule_41 : decode cX7_allocateByRule 41 = .ok (.invokevirtual 159, 3) := by decide +kernel
theorem dX7_allocateByRule_44 : decode cX7_allocateByRule 44 = .ok (.iinc 3 1, 3) := by decide +kernel
theorem dX7_allocateByRule_47 : decode cX7_allocateByRule 47 = .ok (.goto (-23), 3) := by decide +kernel
theorem dX7_allocateByRule_50 : decode cX7_allocateByRule 50 = .ok (.iload_n 2, 1) := by decide +kernel
theorem dX7_allocateByRule_51 : decode cX7_allocateByRule 51 = .ok (.aload_n 0, 1) := by decide +kernel
theorem dX7_allocateByRule_52 : decode cX7_allocateByRule 52 = .ok (.getfield 54, 3) := by decide +kernel
theorem dX7_allocateByRule_55 : decode cX7_allocateByRule 55 = .ok (.iload_n 1, 1) := by decide +kernel
theorem dX7_allocateByRule_56 : decode cX7_allocateByRule 56 = .ok (.iaload, 1) := by decide +kernel
theorem dX7_allocateByRule_57 : decode cX7_allocateByRule 57 = .ok (.isub, 1) := by decide +kernel
theorem dX7_allocateByRule_58 : decode cX7_allocateByRule 58 = .ok (.ireturn, 1) := by decide +kernel
theorem dX7_postPayment_0 : decode cX7_postPayment 0 = .ok (.aload_n 0, 1) := by decide +kernel
theorem dX7_postPayment_1 : decode cX7_postPayment 1 = .ok (.aload_n 0, 1) := by decide +kernel
theorem dX7_postPayment_2 : decode cX7_postPayment 2 = .ok (.iload_n 1, 1) := by decide +kernel
theorem dX7_postPayment_3 : decode cX7_postPayment 3 = .ok (.invokevirtual 92, 3) := by decide +kernel
theorem dX7_postPayment_6 : decode cX7_postPayment 6 = .ok (.ifCond .ne 7, 3) := by decide +kernel
theorem dX7_postPayment_9 : decode cX7_postPayment 9 = .ok (.iconst 1, 1) := by decide +kernel
theorem dX7_postPayment_10 : decode cX7_postPayment 10 = .ok (.goto 31, 3) := by decide +kernel
theorem dX7_postPayment_13 : decode cX7_postPayment 13 = .ok (.iload_n 2, 1) := by decide +kernel
theorem dX7_postPayment_14 : decode cX7_postPayment 14 = .ok (.iconst 1, 1) := by decide +kernel
theorem dX7_postPayment_15 : decode cX7_postPayment 15 = .ok (.ldc 141, 2) := by decide +kernel
theorem dX7_postPayment_17 : decode cX7_postPayment 17 = .ok (.invokestatic 82, 3) := by decide +kernel
theorem dX7_postPayment_20 : decode cX7_postPayment 20 = .ok (.ifCond .ne 7, 3) := by decide +kernel
theorem dX7_postPayment_23 : decode cX7_postPayment 23 = .ok (.iconst 2, 1) := by decide +kernel
theorem dX7_postPayment_24 : decode cX7_postPayment 24 = .ok (.goto 17, 3) := by decide +kernel
theorem dX7_postPayment_27 : decode cX7_postPayment 27 = .ok (.aload_n 0, 1) := by decide +kernel
theorem dX7_postPayment_28 : decode cX7_postPayment 28 = .ok (.getfield 89, 3) := by decide +kernel
theorem dX7_postPayment_31 : decode cX7_postPayment 31 = .ok (.bipush 24, 2) := by decide +kernel
theorem dX7_postPayment_33 : decode cX7_postPayment 33 = .ok (.if_icmp .ne 7, 3) := by decide +kernel
theorem dX7_postPayment_36 : decode cX7_postPayment 36 = .ok (.iconst 3, 1) := by decide +kernel
theorem dX7_postPayment_37 : decode cX7_postPayment 37 = .ok (.goto 4, 3) := by decide +kernel
theorem dX7_postPayment_40 : decode cX7_postPayment 40 = .ok (.iconst 0, 1) := by decide +kernel
theorem dX7_postPayment_41 : decode cX7_postPayment 41 = .ok (.invokevirtual 96, 3) := by decide +kernel
theorem dX7_postPayment_44 : decode cX7_postPayment 44 = .ok (.ifCond .eq 5, 3) := by decide +kernel
theorem dX7_postPayment_47 : decode cX7_postPayment 47 = .ok (.iconst 0, 1) := by decide +kernel
theorem dX7_postPayment_48 : decode cX7_postPayment 48 = .ok (.ireturn, 1) := by decide +kernel
theorem dX7_postPayment_49 : decode cX7_postPayment 49 = .ok (.aload_n 0, 1) := by decide +kernel
theorem dX7_postPayment_50 : decode cX7_postPayment 50 = .ok (.getfield 51, 3) := by decide +kernel
theorem dX7_postPayment_53 : decode cX7_postPayment 53 = .ok (.aload_n 0, 1) := by decide +kernel
theorem dX7_postPayment_54 : decode cX7_postPayment 54 = .ok (.getfield 89, 3) := by decide +kernel
theorem dX7_postPayment_57 : decode cX7_postPayment 57 = .ok (.iload_n 1, 1) := by decide +kernel
theorem dX7_postPayment_58 : decode cX7_postPayment 58 = .ok (.iastore, 1) := by decide +kernel
theorem dX7_postPayment_59 : decode cX7_postPayment 59 = .ok (.aload_n 0, 1) := by decide +kernel
theorem dX7_postPayment_60 : decode cX7_postPayment 60 = .ok (.getfield 54, 3) := by decide +kernel
theorem dX7_postPayment_63 : decode cX7_postPayment 63 = .ok (.aload_n 0, 1) := by decide +kernel
theorem dX7_postPayment_64 : decode cX7_postPayment 64 = .ok (.getfield 89, 3) := by decide +kernel
theorem dX7_postPayment_67 : decode cX7_postPayment 67 = .ok (.iload_n 2, 1) := by decide +kernel
theorem dX7_postPayment_68 : decode cX7_postPayment 68 = .ok (.iastore, 1) := by decide +kernel
theorem dX7_postPayment_69 : decode cX7_postPayment 69 = .ok (.aload_n 0, 1) := by decide +kernel
theorem dX7_postPayment_70 : decode cX7_postPayment 70 = .ok (.dup, 1) := by decide +kernel
theorem dX7_postPayment_71 : decode cX7_postPayment 71 = .ok (.getfield 89, 3) := by decide +kernel
theorem dX7_postPayment_74 : decode cX7_postPayment 74 = .ok (.iconst 1, 1) := by decide +kernel
theorem dX7_postPayment_75 : decode cX7_postPayment 75 = .ok (.iadd, 1) := by decide +kernel
theorem dX7_postPayment_76 : decode cX7_postPayment 76 = .ok (.putfield 89, 3) := by decide +kernel
theorem dX7_postPayment_79 : decode cX7_postPayment 79 = .ok (.aload_n 0, 1) := by decide +kernel
theorem dX7_postPayment_80 : decode cX7_postPayment 80 = .ok (.aload_n 0, 1) := by decide +kernel
theorem dX7_postPayment_81 : decode cX7_postPayment 81 = .ok (.getfield 89, 3) := by decide +kernel
theorem dX7_postPayment_84 : decode cX7_postPayment 84 = .ok (.iconst 1, 1) := by decide +kernel
theorem dX7_postPayment_85 : decode cX7_postPayment 85 = .ok (.isub, 1) := by decide +kernel
theorem dX7_postPayment_86 : decode cX7_postPayment 86 = .ok (.invokevirtual 163, 3) := by decide +kernel
theorem dX7_postPayment_89 : decode cX7_postPayment 89 = .ok (.istore_n 3, 1) := by decide +kernel
theorem dX7_postPayment_90 : decode cX7_postPayment 90 = .ok (.aload_n 0, 1) := by decide +kernel
theorem dX7_postPayment_91 : decode cX7_postPayment 91 = .ok (.getfield 89, 3) := by decide +kernel
theorem dX7_postPayment_94 : decode cX7_postPayment 94 = .ok (.iconst 1, 1) := by decide +kernel
theorem dX7_postPayment_95 : decode cX7_postPayment 95 = .ok (.isub, 1) := by decide +kernel
theorem dX7_postPayment_96 : decode cX7_postPayment 96 = .ok (.ireturn, 1) := by decide +kernel
theorem dX7_allocate_0 : decode cX7_allocate 0 = .ok (.aload_n 0, 1) := by decide +kernel
theorem dX7_allocate_1 : decode cX7_allocate 1 = .ok (.iload_n 1, 1) := by decide +kernel
theorem dX7_allocate_2 : decode cX7_allocate 2 = .ok (.invokevirtual 166, 3) := by decide +kernel
theorem dX7_allocate_5 : decode cX7_allocate 5 = .ok (.ifCond .eq 15, 3) := by decide +kernel
theorem dX7_allocate_8 : decode cX7_allocate 8 = .ok (.aload_n 0, 1) := by decide +kernel
theorem dX7_allocate_9 : decode cX7_allocate 9 = .ok (.iload_n 2, 1) := by decide +kernel
theorem dX7_allocate_10 : decode cX7_allocate 10 = .ok (.invokevirtual 99, 3) := by decide +kernel
theorem dX7_allocate_13 : decode cX7_allocate 13 = .ok (.ifCond .eq 7, 3) := by decide +kernel
theorem dX7_allocate_16 : decode cX7_allocate 16 = .ok (.iconst 1, 1) := by decide +kernel
theorem dX7_allocate_17 : decode cX7_allocate 17 = .ok (.goto 4, 3) := by decide +kernel
theorem dX7_allocate_20 : decode cX7_allocate 20 = .ok (.iconst 0, 1) := by decide +kernel
theorem dX7_allocate_21 : decode cX7_allocate 21 = .ok (.istore 4, 2) := by decide +kernel
theorem dX7_allocate_23 : decode cX7_allocate 23 = .ok (.aload_n 0, 1) := by decide +kernel
theorem dX7_allocate_24 : decode cX7_allocate 24 = .ok (.iload 4, 2) := by decide +kernel
theorem dX7_allocate_26 : decode cX7_allocate 26 = .ok (.ifCond .ne 7, 3) := by decide +kernel
theorem dX7_allocate_29 : decode cX7_allocate 29 = .ok (.iconst 1, 1) := by decide +kernel
theorem dX7_allocate_30 : decode cX7_allocate 30 = .ok (.goto 52, 3) := by decide +kernel
theorem dX7_allocate_33 : decode cX7_allocate 33 = .ok (.iload_n 3, 1) := by decide +kernel
theorem dX7_allocate_34 : decode cX7_allocate 34 = .ok (.iconst 1, 1) := by decide +kernel
theorem dX7_allocate_35 : decode cX7_allocate 35 = .ok (.if_icmp .ge 7, 3) := by decide +kernel
theorem dX7_allocate_38 : decode cX7_allocate 38 = .ok (.iconst 2, 1) := by decide +kernel
theorem dX7_allocate_39 : decode cX7_allocate 39 = .ok (.goto 43, 3) := by decide +kernel
theorem dX7_allocate_42 : decode cX7_allocate 42 = .ok (.aload_n 0, 1) := by decide +kernel
theorem dX7_allocate_43 : decode cX7_allocate 43 = .ok (.getfield 22, 3) := by decide +kernel
theorem dX7_allocate_46 : decode cX7_allocate 46 = .ok (.iload_n 2, 1) := by decide +kernel
theorem dX7_allocate_47 : decode cX7_allocate 47 = .ok (.iaload, 1) := by decide +kernel
theorem dX7_allocate_48 : decode cX7_allocate 48 = .ok (.aload_n 0, 1) := by decide +kernel
theorem dX7_allocate_49 : decode cX7_allocate 49 = .ok (.getfield 51, 3) := by decide +kernel
theorem dX7_allocate_52 : decode cX7_allocate 52 = .ok (.iload_n 1, 1) := by decide +kernel
theorem dX7_allocate_53 : decode cX7_allocate 53 = .ok (.iaload, 1) := by decide +kernel
theorem dX7_allocate_54 : decode cX7_allocate 54 = .ok (.if_icmp .ne 23, 3) := by decide +kernel
theorem dX7_allocate_57 : decode cX7_allocate 57 = .ok (.iload_n 3, 1) := by decide +kernel
theorem dX7_allocate_58 : decode cX7_allocate 58 = .ok (.aload_n 0, 1) := by decide +kernel
theorem dX7_allocate_59 : decode cX7_allocate 59 = .ok (.getfield 54, 3) := by decide +kernel
theorem dX7_allocate_62 : decode cX7_allocate 62 = .ok (.iload_n 1, 1) := by decide +kernel
theorem dX7_allocate_63 : decode cX7_allocate 63 = .ok (.iaload, 1) := by decide +kernel
theorem dX7_allocate_64 : decode cX7_allocate 64 = .ok (.if_icmp .gt 13, 3) := by decide +kernel
theorem dX7_allocate_67 : decode cX7_allocate 67 = .ok (.iload_n 3, 1) := by decide +kernel
theorem dX7_allocate_68 : decode cX7_allocate 68 = .ok (.aload_n 0, 1) := by decide +kernel
theorem dX7_allocate_69 : decode cX7_allocate 69 = .ok (.getfield 31, 3) := by decide +kernel
theorem dX7_allocate_72 : decode cX7_allocate 72 = .ok (.iload_n 2, 1) := by decide +kernel
theorem dX7_allocate_73 : decode cX7_allocate 73 = .ok (.iaload, 1) := by decide +kernel
theorem dX7_allocate_74 : decode cX7_allocate 74 = .ok (.if_icmp .le 7, 3) := by decide +kernel
theorem dX7_allocate_77 : decode cX7_allocate 77 = .ok (.iconst 3, 1) := by decide +kernel
theorem dX7_allocate_78 : decode cX7_allocate 78 = .ok (.goto 4, 3) := by decide +kernel
theorem dX7_allocate_81 : decode cX7_allocate 81 = .ok (.iconst 0, 1) := by decide +kernel
theorem dX7_allocate_82 : decode cX7_allocate 82 = .ok (.invokevirtual 96, 3) := by decide +kernel
theorem dX7_allocate_85 : decode cX7_allocate 85 = .ok (.ifCond .eq 5, 3) := by decide +kernel
theorem dX7_allocate_88 : decode cX7_allocate 88 = .ok (.iconst 0, 1) := by decide +kernel
theorem dX7_allocate_89 : decode cX7_allocate 89 = .ok (.ireturn, 1) := by decide +kernel
theorem dX7_allocate_90 : decode cX7_allocate 90 = .ok (.aload_n 0, 1) := by decide +kernel
theorem dX7_allocate_91 : decode cX7_allocate 91 = .ok (.iload_n 1, 1) := by decide +kernel
theorem dX7_allocate_92 : decode cX7_allocate 92 = .ok (.iload_n 2, 1) := by decide +kernel
theorem dX7_allocate_93 : decode cX7_allocate 93 = .ok (.iload_n 3, 1) := by decide +kernel
theorem dX7_allocate_94 : decode cX7_allocate 94 = .ok (.invokevirtual 159, 3) := by decide +kernel
theorem dX7_allocate_97 : decode cX7_allocate 97 = .ok (.aload_n 0, 1) := by decide +kernel
theorem dX7_allocate_98 : decode cX7_allocate 98 = .ok (.getfield 31, 3) := by decide +kernel
theorem dX7_allocate_101 : decode cX7_allocate 101 = .ok (.iload_n 2, 1) := by decide +kernel
theorem dX7_allocate_102 : decode cX7_allocate 102 = .ok (.iaload, 1) := by decide +kernel
theorem dX7_allocate_103 : decode cX7_allocate 103 = .ok (.ireturn, 1) := by decide +kernel
theorem dX7_allocateRest_0 : decode cX7_allocateRest 0 = .ok (.aload_n 0, 1) := by decide +kernel
theorem dX7_allocateRest_1 : decode cX7_allocateRest 1 = .ok (.iload_n 1, 1) := by decide +kernel
theorem dX7_allocateRest_2 : decode cX7_allocateRest 2 = .ok (.invokevirtual 169, 3) := by decide +kernel
theorem dX7_allocateRest_5 : decode cX7_allocateRest 5 = .ok (.ifCond .eq 5, 3) := by decide +kernel
theorem dX7_allocateRest_8 : decode cX7_allocateRest 8 = .ok (.iconst 0, 1) := by decide +kernel
theorem dX7_allocateRest_9 : decode cX7_allocateRest 9 = .ok (.ireturn, 1) := by decide +kernel
theorem dX7_allocateRest_10 : decode cX7_allocateRest 10 = .ok (.iconst 0, 1) := by decide +kernel
theorem dX7_allocateRest_11 : decode cX7_allocateRest 11 = .ok (.istore_n 2, 1) := by decide +kernel
theorem dX7_allocateRest_12 : decode cX7_allocateRest 12 = .ok (.iconst 0, 1) := by decide +kernel
theorem dX7_allocateRest_13 : decode cX7_allocateRest 13 = .ok (.istore_n 3, 1) := by decide +kernel
theorem dX7_allocateRest_14 : decode cX7_allocateRest 14 = .ok (.iload_n 3, 1) := by decide +kernel
theorem dX7_allocateRest_15 : decode cX7_allocateRest 15 = .ok (.aload_n 0, 1) := by decide +kernel
theorem dX7_allocateRest_16 : decode cX7_allocateRest 16 = .ok (.getfield 89, 3) := by decide +kernel
theorem dX7_allocateRest_19 : decode cX7_allocateRest 19 = .ok (.if_icmp .ge 31, 3) := by decide +kernel
theorem dX7_allocateRest_22 : decode cX7_allocateRest 22 = .ok (.iload_n 2, 1) := by decide +kernel
theorem dX7_allocateRest_23 : decode cX7_allocateRest 23 = .ok (.aload_n 0, 1) := by decide +kernel
theorem dX7_allocateRest_24 : decode cX7_allocateRest 24 = .ok (.getfield 51, 3) := by decide +kernel
theorem dX7_allocateRest_27 : decode cX7_allocateRest 27 = .ok (.iload_n 3, 1) := by decide +kernel
theorem dX7_allocateRest_28 : decode cX7_allocateRest 28 = .ok (.iaload, 1) := by decide +kernel
theorem dX7_allocateRest_29 : decode cX7_allocateRest 29 = .ok (.iload_n 1, 1) := by decide +kernel
theorem dX7_allocateRest_30 : decode cX7_allocateRest 30 = .ok (.if_icmp .ne 11, 3) := by decide +kernel
theorem dX7_allocateRest_33 : decode cX7_allocateRest 33 = .ok (.aload_n 0, 1) := by decide +kernel
theorem dX7_allocateRest_34 : decode cX7_allocateRest 34 = .ok (.iload_n 3, 1) := by decide +kernel
theorem dX7_allocateRest_35 : decode cX7_allocateRest 35 = .ok (.invokevirtual 163, 3) := by decide +kernel
theorem dX7_allocateRest_38 : decode cX7_allocateRest 38 = .ok (.goto 4, 3) := by decide +kernel
theorem dX7_allocateRest_41 : decode cX7_allocateRest 41 = .ok (.iconst 0, 1) := by decide +kernel
theorem dX7_allocateRest_42 : decode cX7_allocateRest 42 = .ok (.iadd, 1) := by decide +kernel
theorem dX7_allocateRest_43 : decode cX7_allocateRest 43 = .ok (.istore_n 2, 1) := by decide +kernel
theorem dX7_allocateRest_44 : decode cX7_allocateRest 44 = .ok (.iinc 3 1, 3) := by decide +kernel
theorem dX7_allocateRest_47 : decode cX7_allocateRest 47 = .ok (.goto (-33), 3) := by decide +kernel
theorem dX7_allocateRest_50 : decode cX7_allocateRest 50 = .ok (.iload_n 2, 1) := by decide +kernel
theorem dX7_allocateRest_51 : decode cX7_allocateRest 51 = .ok (.ireturn, 1) := by decide +kernel
theorem dX7_takeBack_0 : decode cX7_takeBack 0 = .ok (.aload_n 0, 1) := by decide +kernel
theorem dX7_takeBack_1 : decode cX7_takeBack 1 = .ok (.getfield 60, 3) := by decide +kernel
theorem dX7_takeBack_4 : decode cX7_takeBack 4 = .ok (.bipush 24, 2) := by decide +kernel
theorem dX7_takeBack_6 : decode cX7_takeBack 6 = .ok (.iload_n 1, 1) := by decide +kernel
theorem dX7_takeBack_7 : decode cX7_takeBack 7 = .ok (.imul, 1) := by decide +kernel
theorem dX7_takeBack_8 : decode cX7_takeBack 8 = .ok (.iload_n 2, 1) := by decide +kernel
theorem dX7_takeBack_9 : decode cX7_takeBack 9 = .ok (.iadd, 1) := by decide +kernel
theorem dX7_takeBack_10 : decode cX7_takeBack 10 = .ok (.iaload, 1) := by decide +kernel
theorem dX7_takeBack_11 : decode cX7_takeBack 11 = .ok (.istore_n 3, 1) := by decide +kernel
theorem dX7_takeBack_12 : decode cX7_takeBack 12 = .ok (.aload_n 0, 1) := by decide +kernel
theorem dX7_takeBack_13 : decode cX7_takeBack 13 = .ok (.getfield 60, 3) := by decide +kernel
theorem dX7_takeBack_16 : decode cX7_takeBack 16 = .ok (.bipush 24, 2) := by decide +kernel
theorem dX7_takeBack_18 : decode cX7_takeBack 18 = .ok (.iload_n 1, 1) := by decide +kernel
theorem dX7_takeBack_19 : decode cX7_takeBack 19 = .ok (.imul, 1) := by decide +kernel
theorem dX7_takeBack_20 : decode cX7_takeBack 20 = .ok (.iload_n 2, 1) := by decide +kernel
theorem dX7_takeBack_21 : decode cX7_takeBack 21 = .ok (.iadd, 1) := by decide +kernel
theorem dX7_takeBack_22 : decode cX7_takeBack 22 = .ok (.iconst 0, 1) := by decide +kernel
theorem dX7_takeBack_23 : decode cX7_takeBack 23 = .ok (.iastore, 1) := by decide +kernel
theorem dX7_takeBack_24 : decode cX7_takeBack 24 = .ok (.aload_n 0, 1) := by decide +kernel
theorem dX7_takeBack_25 : decode cX7_takeBack 25 = .ok (.getfield 54, 3) := by decide +kernel
theorem dX7_takeBack_28 : decode cX7_takeBack 28 = .ok (.iload_n 1, 1) := by decide +kernel
theorem dX7_takeBack_29 : decode cX7_takeBack 29 = .ok (.dup2, 1) := by decide +kernel
theorem dX7_takeBack_30 : decode cX7_takeBack 30 = .ok (.iaload, 1) := by decide +kernel
theorem dX7_takeBack_31 : decode cX7_takeBack 31 = .ok (.iload_n 3, 1) := by decide +kernel
theorem dX7_takeBack_32 : decode cX7_takeBack 32 = .ok (.iadd, 1) := by decide +kernel
theorem dX7_takeBack_33 : decode cX7_takeBack 33 = .ok (.iastore, 1) := by decide +kernel
theorem dX7_takeBack_34 : decode cX7_takeBack 34 = .ok (.aload_n 0, 1) := by decide +kernel
theorem dX7_takeBack_35 : decode cX7_takeBack 35 = .ok (.getfield 31, 3) := by decide +kernel
theorem dX7_takeBack_38 : decode cX7_takeBack 38 = .ok (.iload_n 2, 1) := by decide +kernel
theorem dX7_takeBack_39 : decode cX7_takeBack 39 = .ok (.dup2, 1) := by decide +kernel
theorem dX7_takeBack_40 : decode cX7_takeBack 40 = .ok (.iaload, 1) := by decide +kernel
theorem dX7_takeBack_41 : decode cX7_takeBack 41 = .ok (.iload_n 3, 1) := by decide +kernel
theorem dX7_takeBack_42 : decode cX7_takeBack 42 = .ok (.iadd, 1) := by decide +kernel
theorem dX7_takeBack_43 : decode cX7_takeBack 43 = .ok (.iastore, 1) := by decide +kernel
theorem dX7_takeBack_44 : decode cX7_takeBack 44 = .ok (.aload_n 0, 1) := by decide +kernel
theorem dX7_takeBack_45 : decode cX7_takeBack 45 = .ok (.iload_n 2, 1) := by decide +kernel
theorem dX7_takeBack_46 : decode cX7_takeBack 46 = .ok (.iload_n 3, 1) := by decide +kernel
theorem dX7_takeBack_47 : decode cX7_takeBack 47 = .ok (.invokevirtual 137, 3) := by decide +kernel
theorem dX7_takeBack_50 : decode cX7_takeBack 50 = .ok (.iload_n 3, 1) := by decide +kernel
theorem dX7_takeBack_51 : decode cX7_takeBack 51 = .ok (.ireturn, 1) := by decide +kernel
theorem dX7_release_0 : decode cX7_release 0 = .ok (.aload_n 0, 1) := by decide +kernel
theorem dX7_release_1 : decode cX7_release 1 = .ok (.aload_n 0, 1) := by decide +kernel
theorem dX7_release_2 : decode cX7_release 2 = .ok (.iload_n 1, 1) := by decide +kernel
theorem dX7_release_3 : decode cX7_release 3 = .ok (.invokevirtual 166, 3) := by decide +kernel
theorem dX7_release_6 : decode cX7_release 6 = .ok (.ifCond .eq 15, 3) := by decide +kernel
theorem dX7_release_9 : decode cX7_release 9 = .ok (.aload_n 0, 1) := by decide +kernel
theorem dX7_release_10 : decode cX7_release 10 = .ok (.iload_n 2, 1) := by decide +kernel
theorem dX7_release_11 : decode cX7_release 11 = .ok (.invokevirtual 99, 3) := by decide +kernel
theorem dX7_release_14 : decode cX7_release 14 = .ok (.ifCond .eq 7, 3) := by decide +kernel
theorem dX7_release_17 : decode cX7_release 17 = .ok (.iconst 0, 1) := by decide +kernel
theorem dX7_release_18 : decode cX7_release 18 = .ok (.goto 4, 3) := by decide +kernel
theorem dX7_release_21 : decode cX7_release 21 = .ok (.iconst 1, 1) := by decide +kernel
theorem dX7_release_22 : decode cX7_release 22 = .ok (.invokevirtual 96, 3) := by decide +kernel
theorem dX7_release_25 : decode cX7_release 25 = .ok (.ifCond .eq 7, 3) := by decide +kernel
theorem dX7_release_28 : decode cX7_release 28 = .ok (.iconst 0, 1) := by decide +kernel
theorem dX7_release_29 : decode cX7_release 29 = .ok (.goto 9, 3) := by decide +kernel
theorem dX7_release_32 : decode cX7_release 32 = .ok (.aload_n 0, 1) := by decide +kernel
theorem dX7_release_33 : decode cX7_release 33 = .ok (.iload_n 1, 1) := by decide +kernel
theorem dX7_release_34 : decode cX7_release 34 = .ok (.iload_n 2, 1) := by decide +kernel
theorem dX7_release_35 : decode cX7_release 35 = .ok (.invokevirtual 172, 3) := by decide +kernel
theorem dX7_release_38 : decode cX7_release 38 = .ok (.ireturn, 1) := by decide +kernel
theorem dX7_reverse_0 : decode cX7_reverse 0 = .ok (.aload_n 0, 1) := by decide +kernel
theorem dX7_reverse_1 : decode cX7_reverse 1 = .ok (.aload_n 0, 1) := by decide +kernel
theorem dX7_reverse_2 : decode cX7_reverse 2 = .ok (.iload_n 1, 1) := by decide +kernel
theorem dX7_reverse_3 : decode cX7_reverse 3 = .ok (.invokevirtual 166, 3) := by decide +kernel
theorem dX7_reverse_6 : decode cX7_reverse 6 = .ok (.ifCond .ne 7, 3) := by decide +kernel
theorem dX7_reverse_9 : decode cX7_reverse 9 = .ok (.iconst 1, 1) := by decide +kernel
theorem dX7_reverse_10 : decode cX7_reverse 10 = .ok (.goto 17, 3) := by decide +kernel
theorem dX7_reverse_13 : decode cX7_reverse 13 = .ok (.aload_n 0, 1) := by decide +kernel
theorem dX7_reverse_14 : decode cX7_reverse 14 = .ok (.getfield 57, 3) := by decide +kernel
theorem dX7_reverse_17 : decode cX7_reverse 17 = .ok (.iload_n 1, 1) := by decide +kernel
theorem dX7_reverse_18 : decode cX7_reverse 18 = .ok (.baload, 1) := by decide +kernel
theorem dX7_reverse_19 : decode cX7_reverse 19 = .ok (.ifCond .eq 7, 3) := by decide +kernel
theorem dX7_reverse_22 : decode cX7_reverse 22 = .ok (.iconst 2, 1) := by decide +kernel
theorem dX7_reverse_23 : decode cX7_reverse 23 = .ok (.goto 4, 3) := by decide +kernel
theorem dX7_reverse_26 : decode cX7_reverse 26 = .ok (.iconst 0, 1) := by decide +kernel
theorem dX7_reverse_27 : decode cX7_reverse 27 = .ok (.invokevirtual 96, 3) := by decide +kernel
theorem dX7_reverse_30 : decode cX7_reverse 30 = .ok (.ifCond .eq 5, 3) := by decide +kernel
theorem dX7_reverse_33 : decode cX7_reverse 33 = .ok (.iconst 0, 1) := by decide +kernel
theorem dX7_reverse_34 : decode cX7_reverse 34 = .ok (.ireturn, 1) := by decide +kernel
theorem dX7_reverse_35 : decode cX7_reverse 35 = .ok (.iconst 0, 1) := by decide +kernel
theorem dX7_reverse_36 : decode cX7_reverse 36 = .ok (.istore_n 2, 1) := by decide +kernel
theorem dX7_reverse_37 : decode cX7_reverse 37 = .ok (.iconst 0, 1) := by decide +kernel
theorem dX7_reverse_38 : decode cX7_reverse 38 = .ok (.istore_n 3, 1) := by decide +kernel
theorem dX7_reverse_39 : decode cX7_reverse 39 = .ok (.iload_n 3, 1) := by decide +kernel
theorem dX7_reverse_40 : decode cX7_reverse 40 = .ok (.aload_n 0, 1) := by decide +kernel
theorem dX7_reverse_41 : decode cX7_reverse 41 = .ok (.getfield 86, 3) := by decide +kernel
theorem dX7_reverse_44 : decode cX7_reverse 44 = .ok (.if_icmp .ge 18, 3) := by decide +kernel
theorem dX7_reverse_47 : decode cX7_reverse 47 = .ok (.iload_n 2, 1) := by decide +kernel
theorem dX7_reverse_48 : decode cX7_reverse 48 = .ok (.aload_n 0, 1) := by decide +kernel
theorem dX7_reverse_49 : decode cX7_reverse 49 = .ok (.iload_n 1, 1) := by decide +kernel
theorem dX7_reverse_50 : decode cX7_reverse 50 = .ok (.iload_n 3, 1) := by decide +kernel
theorem dX7_reverse_51 : decode cX7_reverse 51 = .ok (.invokevirtual 172, 3) := by decide +kernel
theorem dX7_reverse_54 : decode cX7_reverse 54 = .ok (.iadd, 1) := by decide +kernel
theorem dX7_reverse_55 : decode cX7_reverse 55 = .ok (.istore_n 2, 1) := by decide +kernel
theorem dX7_reverse_56 : decode cX7_reverse 56 = .ok (.iinc 3 1, 3) := by decide +kernel
theorem dX7_reverse_59 : decode cX7_reverse 59 = .ok (.goto (-20), 3) := by decide +kernel
theorem dX7_reverse_62 : decode cX7_reverse 62 = .ok (.aload_n 0, 1) := by decide +kernel
theorem dX7_reverse_63 : decode cX7_reverse 63 = .ok (.getfield 54, 3) := by decide +kernel
theorem dX7_reverse_66 : decode cX7_reverse 66 = .ok (.iload_n 1, 1) := by decide +kernel
theorem dX7_reverse_67 : decode cX7_reverse 67 = .ok (.iconst 0, 1) := by decide +kernel
theorem dX7_reverse_68 : decode cX7_reverse 68 = .ok (.iastore, 1) := by decide +kernel
theorem dX7_reverse_69 : decode cX7_reverse 69 = .ok (.aload_n 0, 1) := by decide +kernel
theorem dX7_reverse_70 : decode cX7_reverse 70 = .ok (.getfield 57, 3) := by decide +kernel
theorem dX7_reverse_73 : decode cX7_reverse 73 = .ok (.iload_n 1, 1) := by decide +kernel
theorem dX7_reverse_74 : decode cX7_reverse 74 = .ok (.iconst 1, 1) := by decide +kernel
theorem dX7_reverse_75 : decode cX7_reverse 75 = .ok (.bastore, 1) := by decide +kernel
theorem dX7_reverse_76 : decode cX7_reverse 76 = .ok (.iload_n 2, 1) := by decide +kernel
theorem dX7_reverse_77 : decode cX7_reverse 77 = .ok (.ireturn, 1) := by decide +kernel
theorem dX7_dispute_0 : decode cX7_dispute 0 = .ok (.aload_n 0, 1) := by decide +kernel
theorem dX7_dispute_1 : decode cX7_dispute 1 = .ok (.aload_n 0, 1) := by decide +kernel
theorem dX7_dispute_2 : decode cX7_dispute 2 = .ok (.iload_n 1, 1) := by decide +kernel
theorem dX7_dispute_3 : decode cX7_dispute 3 = .ok (.invokevirtual 99, 3) := by decide +kernel
theorem dX7_dispute_6 : decode cX7_dispute 6 = .ok (.ifCond .ne 7, 3) := by decide +kernel
theorem dX7_dispute_9 : decode cX7_dispute 9 = .ok (.iconst 1, 1) := by decide +kernel
theorem dX7_dispute_10 : decode cX7_dispute 10 = .ok (.goto 26, 3) := by decide +kernel
theorem dX7_dispute_13 : decode cX7_dispute 13 = .ok (.iload_n 2, 1) := by decide +kernel
theorem dX7_dispute_14 : decode cX7_dispute 14 = .ok (.iconst 1, 1) := by decide +kernel
theorem dX7_dispute_15 : decode cX7_dispute 15 = .ok (.if_icmp .ge 7, 3) := by decide +kernel
theorem dX7_dispute_18 : decode cX7_dispute 18 = .ok (.iconst 2, 1) := by decide +kernel
theorem dX7_dispute_19 : decode cX7_dispute 19 = .ok (.goto 17, 3) := by decide +kernel
theorem dX7_dispute_22 : decode cX7_dispute 22 = .ok (.iload_n 2, 1) := by decide +kernel
theorem dX7_dispute_23 : decode cX7_dispute 23 = .ok (.aload_n 0, 1) := by decide +kernel
theorem dX7_dispute_24 : decode cX7_dispute 24 = .ok (.iload_n 1, 1) := by decide +kernel
theorem dX7_dispute_25 : decode cX7_dispute 25 = .ok (.invokevirtual 115, 3) := by decide +kernel
theorem dX7_dispute_28 : decode cX7_dispute 28 = .ok (.if_icmp .le 7, 3) := by decide +kernel
theorem dX7_dispute_31 : decode cX7_dispute 31 = .ok (.iconst 3, 1) := by decide +kernel
theorem dX7_dispute_32 : decode cX7_dispute 32 = .ok (.goto 4, 3) := by decide +kernel
theorem dX7_dispute_35 : decode cX7_dispute 35 = .ok (.iconst 0, 1) := by decide +kernel
theorem dX7_dispute_36 : decode cX7_dispute 36 = .ok (.invokevirtual 96, 3) := by decide +kernel
theorem dX7_dispute_39 : decode cX7_dispute 39 = .ok (.ifCond .eq 5, 3) := by decide +kernel
theorem dX7_dispute_42 : decode cX7_dispute 42 = .ok (.iconst 0, 1) := by decide +kernel
theorem dX7_dispute_43 : decode cX7_dispute 43 = .ok (.ireturn, 1) := by decide +kernel
theorem dX7_dispute_44 : decode cX7_dispute 44 = .ok (.aload_n 0, 1) := by decide +kernel
theorem dX7_dispute_45 : decode cX7_dispute 45 = .ok (.getfield 34, 3) := by decide +kernel
theorem dX7_dispute_48 : decode cX7_dispute 48 = .ok (.iload_n 1, 1) := by decide +kernel
theorem dX7_dispute_49 : decode cX7_dispute 49 = .ok (.dup2, 1) := by decide +kernel
theorem dX7_dispute_50 : decode cX7_dispute 50 = .ok (.iaload, 1) := by decide +kernel
theorem dX7_dispute_51 : decode cX7_dispute 51 = .ok (.iload_n 2, 1) := by decide +kernel
theorem dX7_dispute_52 : decode cX7_dispute 52 = .ok (.iadd, 1) := by decide +kernel
theorem dX7_dispute_53 : decode cX7_dispute 53 = .ok (.iastore, 1) := by decide +kernel
theorem dX7_dispute_54 : decode cX7_dispute 54 = .ok (.aload_n 0, 1) := by decide +kernel
theorem dX7_dispute_55 : decode cX7_dispute 55 = .ok (.getfield 34, 3) := by decide +kernel
theorem dX7_dispute_58 : decode cX7_dispute 58 = .ok (.iload_n 1, 1) := by decide +kernel
theorem dX7_dispute_59 : decode cX7_dispute 59 = .ok (.iaload, 1) := by decide +kernel
theorem dX7_dispute_60 : decode cX7_dispute 60 = .ok (.ireturn, 1) := by decide +kernel
theorem dX7_disputeAll_0 : decode cX7_disputeAll 0 = .ok (.aload_n 0, 1) := by decide +kernel
theorem dX7_disputeAll_1 : decode cX7_disputeAll 1 = .ok (.aload_n 0, 1) := by decide +kernel
theorem dX7_disputeAll_2 : decode cX7_disputeAll 2 = .ok (.iload_n 1, 1) := by decide +kernel
theorem dX7_disputeAll_3 : decode cX7_disputeAll 3 = .ok (.invokevirtual 92, 3) := by decide +kernel
theorem dX7_disputeAll_6 : decode cX7_disputeAll 6 = .ok (.ifCond .ne 7, 3) := by decide +kernel
theorem dX7_disputeAll_9 : decode cX7_disputeAll 9 = .ok (.iconst 1, 1) := by decide +kernel
theorem dX7_disputeAll_10 : decode cX7_disputeAll 10 = .ok (.goto 28, 3) := by decide +kernel
theorem dX7_disputeAll_13 : decode cX7_disputeAll 13 = .ok (.iload_n 2, 1) := by decide +kernel
theorem dX7_disputeAll_14 : decode cX7_disputeAll 14 = .ok (.iconst 1, 1) := by decide +kernel
theorem dX7_disputeAll_15 : decode cX7_disputeAll 15 = .ok (.if_icmp .ge 7, 3) := by decide +kernel
theorem dX7_disputeAll_18 : decode cX7_disputeAll 18 = .ok (.iconst 2, 1) := by decide +kernel
theorem dX7_disputeAll_19 : decode cX7_disputeAll 19 = .ok (.goto 19, 3) := by decide +kernel
theorem dX7_disputeAll_22 : decode cX7_disputeAll 22 = .ok (.iload_n 2, 1) := by decide +kernel
theorem dX7_disputeAll_23 : decode cX7_disputeAll 23 = .ok (.i2l, 1) := by decide +kernel
theorem dX7_disputeAll_24 : decode cX7_disputeAll 24 = .ok (.aload_n 0, 1) := by decide +kernel
theorem dX7_disputeAll_25 : decode cX7_disputeAll 25 = .ok (.iload_n 1, 1) := by decide +kernel
theorem dX7_disputeAll_26 : decode cX7_disputeAll 26 = .ok (.invokevirtual 146, 3) := by decide +kernel
theorem dX7_disputeAll_29 : decode cX7_disputeAll 29 = .ok (.lcmp, 1) := by decide +kernel
theorem dX7_disputeAll_30 : decode cX7_disputeAll 30 = .ok (.ifCond .le 7, 3) := by decide +kernel
theorem dX7_disputeAll_33 : decode cX7_disputeAll 33 = .ok (.iconst 3, 1) := by decide +kernel
theorem dX7_disputeAll_34 : decode cX7_disputeAll 34 = .ok (.goto 4, 3) := by decide +kernel
theorem dX7_disputeAll_37 : decode cX7_disputeAll 37 = .ok (.iconst 0, 1) := by decide +kernel
theorem dX7_disputeAll_38 : decode cX7_disputeAll 38 = .ok (.invokevirtual 96, 3) := by decide +kernel
theorem dX7_disputeAll_41 : decode cX7_disputeAll 41 = .ok (.ifCond .eq 5, 3) := by decide +kernel
theorem dX7_disputeAll_44 : decode cX7_disputeAll 44 = .ok (.iconst 0, 1) := by decide +kernel
theorem dX7_disputeAll_45 : decode cX7_disputeAll 45 = .ok (.ireturn, 1) := by decide +kernel
theorem dX7_disputeAll_46 : decode cX7_disputeAll 46 = .ok (.aload_n 0, 1) := by decide +kernel
theorem dX7_disputeAll_47 : decode cX7_disputeAll 47 = .ok (.iload_n 1, 1) := by decide +kernel
theorem dX7_disputeAll_48 : decode cX7_disputeAll 48 = .ok (.iload_n 2, 1) := by decide +kernel
theorem dX7_disputeAll_49 : decode cX7_disputeAll 49 = .ok (.invokevirtual 150, 3) := by decide +kernel
theorem dX7_disputeAll_52 : decode cX7_disputeAll 52 = .ok (.iconst 0, 1) := by decide +kernel
theorem dX7_disputeAll_53 : decode cX7_disputeAll 53 = .ok (.istore_n 3, 1) := by decide +kernel
theorem dX7_disputeAll_54 : decode cX7_disputeAll 54 = .ok (.iconst 0, 1) := by decide +kernel
theorem dX7_disputeAll_55 : decode cX7_disputeAll 55 = .ok (.istore 4, 2) := by decide +kernel
theorem dX7_disputeAll_57 : decode cX7_disputeAll 57 = .ok (.iload 4, 2) := by decide +kernel
theorem dX7_disputeAll_59 : decode cX7_disputeAll 59 = .ok (.aload_n 0, 1) := by decide +kernel
theorem dX7_disputeAll_60 : decode cX7_disputeAll 60 = .ok (.getfield 86, 3) := by decide +kernel
theorem dX7_disputeAll_63 : decode cX7_disputeAll 63 = .ok (.if_icmp .ge 44, 3) := by decide +kernel
theorem dX7_disputeAll_66 : decode cX7_disputeAll 66 = .ok (.aload_n 0, 1) := by decide +kernel
theorem dX7_disputeAll_67 : decode cX7_disputeAll 67 = .ok (.getfield 34, 3) := by decide +kernel
theorem dX7_disputeAll_70 : decode cX7_disputeAll 70 = .ok (.iload 4, 2) := by decide +kernel
theorem dX7_disputeAll_72 : decode cX7_disputeAll 72 = .ok (.dup2, 1) := by decide +kernel
theorem dX7_disputeAll_73 : decode cX7_disputeAll 73 = .ok (.iaload, 1) := by decide +kernel
theorem dX7_disputeAll_74 : decode cX7_disputeAll 74 = .ok (.aload_n 0, 1) := by decide +kernel
theorem dX7_disputeAll_75 : decode cX7_disputeAll 75 = .ok (.getfield 69, 3) := by decide +kernel
theorem dX7_disputeAll_78 : decode cX7_disputeAll 78 = .ok (.iload 4, 2) := by decide +kernel
theorem dX7_disputeAll_80 : decode cX7_disputeAll 80 = .ok (.iaload, 1) := by decide +kernel
theorem dX7_disputeAll_81 : decode cX7_disputeAll 81 = .ok (.iadd, 1) := by decide +kernel
theorem dX7_disputeAll_82 : decode cX7_disputeAll 82 = .ok (.iastore, 1) := by decide +kernel
theorem dX7_disputeAll_83 : decode cX7_disputeAll 83 = .ok (.iload_n 3, 1) := by decide +kernel
theorem dX7_disputeAll_84 : decode cX7_disputeAll 84 = .ok (.aload_n 0, 1) := by decide +kernel
theorem dX7_disputeAll_85 : decode cX7_disputeAll 85 = .ok (.getfield 69, 3) := by decide +kernel
theorem dX7_disputeAll_88 : decode cX7_disputeAll 88 = .ok (.iload 4, 2) := by decide +kernel
theorem dX7_disputeAll_90 : decode cX7_disputeAll 90 = .ok (.iaload, 1) := by decide +kernel
theorem dX7_disputeAll_91 : decode cX7_disputeAll 91 = .ok (.ifCond .le 7, 3) := by decide +kernel
theorem dX7_disputeAll_94 : decode cX7_disputeAll 94 = .ok (.iconst 1, 1) := by decide +kernel
theorem dX7_disputeAll_95 : decode cX7_disputeAll 95 = .ok (.goto 4, 3) := by decide +kernel
theorem dX7_disputeAll_98 : decode cX7_disputeAll 98 = .ok (.iconst 0, 1) := by decide +kernel
theorem dX7_disputeAll_99 : decode cX7_disputeAll 99 = .ok (.iadd, 1) := by decide +kernel
theorem dX7_disputeAll_100 : decode cX7_disputeAll 100 = .ok (.istore_n 3, 1) := by decide +kernel
theorem dX7_disputeAll_101 : decode cX7_disputeAll 101 = .ok (.iinc 4 1, 3) := by decide +kernel
theorem dX7_disputeAll_104 : decode cX7_disputeAll 104 = .ok (.goto (-47), 3) := by decide +kernel
theorem dX7_disputeAll_107 : decode cX7_disputeAll 107 = .ok (.iload_n 3, 1) := by decide +kernel
theorem dX7_disputeAll_108 : decode cX7_disputeAll 108 = .ok (.ireturn, 1) := by decide +kernel
theorem dX7_settle_0 : decode cX7_settle 0 = .ok (.aload_n 0, 1) := by decide +kernel
theorem dX7_settle_1 : decode cX7_settle 1 = .ok (.aload_n 0, 1) := by decide +kernel
theorem dX7_settle_2 : decode cX7_settle 2 = .ok (.iload_n 1, 1) := by decide +kernel
theorem dX7_settle_3 : decode cX7_settle 3 = .ok (.invokevirtual 99, 3) := by decide +kernel
theorem dX7_settle_6 : decode cX7_settle 6 = .ok (.ifCond .ne 7, 3) := by decide +kernel
theorem dX7_settle_9 : decode cX7_settle 9 = .ok (.iconst 1, 1) := by decide +kernel
theorem dX7_settle_10 : decode cX7_settle 10 = .ok (.goto 35, 3) := by decide +kernel
theorem dX7_settle_13 : decode cX7_settle 13 = .ok (.aload_n 0, 1) := by decide +kernel
theorem dX7_settle_14 : decode cX7_settle 14 = .ok (.getfield 34, 3) := by decide +kernel
theorem dX7_settle_17 : decode cX7_settle 17 = .ok (.iload_n 1, 1) := by decide +kernel
theorem dX7_settle_18 : decode cX7_settle 18 = .ok (.iaload, 1) := by decide +kernel
theorem dX7_settle_19 : decode cX7_settle 19 = .ok (.ifCond .ne 7, 3) := by decide +kernel
theorem dX7_settle_22 : decode cX7_settle 22 = .ok (.iconst 2, 1) := by decide +kernel
theorem dX7_settle_23 : decode cX7_settle 23 = .ok (.goto 22, 3) := by decide +kernel
theorem dX7_settle_26 : decode cX7_settle 26 = .ok (.iload_n 2, 1) := by decide +kernel
theorem dX7_settle_27 : decode cX7_settle 27 = .ok (.iconst 0, 1) := by decide +kernel
theorem dX7_settle_28 : decode cX7_settle 28 = .ok (.aload_n 0, 1) := by decide +kernel
theorem dX7_settle_29 : decode cX7_settle 29 = .ok (.getfield 34, 3) := by decide +kernel
theorem dX7_settle_32 : decode cX7_settle 32 = .ok (.iload_n 1, 1) := by decide +kernel
theorem dX7_settle_33 : decode cX7_settle 33 = .ok (.iaload, 1) := by decide +kernel
theorem dX7_settle_34 : decode cX7_settle 34 = .ok (.invokestatic 82, 3) := by decide +kernel
theorem dX7_settle_37 : decode cX7_settle 37 = .ok (.ifCond .ne 7, 3) := by decide +kernel
theorem dX7_settle_40 : decode cX7_settle 40 = .ok (.iconst 3, 1) := by decide +kernel
theorem dX7_settle_41 : decode cX7_settle 41 = .ok (.goto 4, 3) := by decide +kernel
theorem dX7_settle_44 : decode cX7_settle 44 = .ok (.iconst 0, 1) := by decide +kernel
theorem dX7_settle_45 : decode cX7_settle 45 = .ok (.invokevirtual 96, 3) := by decide +kernel
theorem dX7_settle_48 : decode cX7_settle 48 = .ok (.ifCond .eq 5, 3) := by decide +kernel
theorem dX7_settle_51 : decode cX7_settle 51 = .ok (.iconst 0, 1) := by decide +kernel
theorem dX7_settle_52 : decode cX7_settle 52 = .ok (.ireturn, 1) := by decide +kernel
theorem dX7_settle_53 : decode cX7_settle 53 = .ok (.aload_n 0, 1) := by decide +kernel
theorem dX7_settle_54 : decode cX7_settle 54 = .ok (.getfield 31, 3) := by decide +kernel
theorem dX7_settle_57 : decode cX7_settle 57 = .ok (.iload_n 1, 1) := by decide +kernel
theorem dX7_settle_58 : decode cX7_settle 58 = .ok (.dup2, 1) := by decide +kernel
theorem dX7_settle_59 : decode cX7_settle 59 = .ok (.iaload, 1) := by decide +kernel
theorem dX7_settle_60 : decode cX7_settle 60 = .ok (.iload_n 2, 1) := by decide +kernel
theorem dX7_settle_61 : decode cX7_settle 61 = .ok (.isub, 1) := by decide +kernel
theorem dX7_settle_62 : decode cX7_settle 62 = .ok (.iastore, 1) := by decide +kernel
theorem dX7_settle_63 : decode cX7_settle 63 = .ok (.aload_n 0, 1) := by decide +kernel
theorem dX7_settle_64 : decode cX7_settle 64 = .ok (.getfield 34, 3) := by decide +kernel
theorem dX7_settle_67 : decode cX7_settle 67 = .ok (.iload_n 1, 1) := by decide +kernel
theorem dX7_settle_68 : decode cX7_settle 68 = .ok (.iconst 0, 1) := by decide +kernel
theorem dX7_settle_69 : decode cX7_settle 69 = .ok (.iastore, 1) := by decide +kernel
theorem dX7_settle_70 : decode cX7_settle 70 = .ok (.aload_n 0, 1) := by decide +kernel
theorem dX7_settle_71 : decode cX7_settle 71 = .ok (.getfield 31, 3) := by decide +kernel
theorem dX7_settle_74 : decode cX7_settle 74 = .ok (.iload_n 1, 1) := by decide +kernel
theorem dX7_settle_75 : decode cX7_settle 75 = .ok (.iaload, 1) := by decide +kernel
theorem dX7_settle_76 : decode cX7_settle 76 = .ok (.ifCond .ne 17, 3) := by decide +kernel
theorem dX7_settle_79 : decode cX7_settle 79 = .ok (.aload_n 0, 1) := by decide +kernel
theorem dX7_settle_80 : decode cX7_settle 80 = .ok (.getfield 45, 3) := by decide +kernel
theorem dX7_settle_83 : decode cX7_settle 83 = .ok (.iload_n 1, 1) := by decide +kernel
theorem dX7_settle_84 : decode cX7_settle 84 = .ok (.iconst 0, 1) := by decide +kernel
theorem dX7_settle_85 : decode cX7_settle 85 = .ok (.iastore, 1) := by decide +kernel
theorem dX7_settle_86 : decode cX7_settle 86 = .ok (.aload_n 0, 1) := by decide +kernel
theorem dX7_settle_87 : decode cX7_settle 87 = .ok (.getfield 48, 3) := by decide +kernel
theorem dX7_settle_90 : decode cX7_settle 90 = .ok (.iload_n 1, 1) := by decide +kernel
theorem dX7_settle_91 : decode cX7_settle 91 = .ok (.iconst 0, 1) := by decide +kernel
theorem dX7_settle_92 : decode cX7_settle 92 = .ok (.iastore, 1) := by decide +kernel
theorem dX7_settle_93 : decode cX7_settle 93 = .ok (.aload_n 0, 1) := by decide +kernel
theorem dX7_settle_94 : decode cX7_settle 94 = .ok (.iload_n 1, 1) := by decide +kernel
theorem dX7_settle_95 : decode cX7_settle 95 = .ok (.iload_n 2, 1) := by decide +kernel
theorem dX7_settle_96 : decode cX7_settle 96 = .ok (.ineg, 1) := by decide +kernel
theorem dX7_settle_97 : decode cX7_settle 97 = .ok (.invokevirtual 137, 3) := by decide +kernel
theorem dX7_settle_100 : decode cX7_settle 100 = .ok (.aload_n 0, 1) := by decide +kernel
theorem dX7_settle_101 : decode cX7_settle 101 = .ok (.getfield 31, 3) := by decide +kernel
theorem dX7_settle_104 : decode cX7_settle 104 = .ok (.iload_n 1, 1) := by decide +kernel
theorem dX7_settle_105 : decode cX7_settle 105 = .ok (.iaload, 1) := by decide +kernel
theorem dX7_settle_106 : decode cX7_settle 106 = .ok (.ireturn, 1) := by decide +kernel
theorem dX7_accruedOf_0 : decode cX7_accruedOf 0 = .ok (.aload_n 0, 1) := by decide +kernel
theorem dX7_accruedOf_1 : decode cX7_accruedOf 1 = .ok (.getfield 37, 3) := by decide +kernel
theorem dX7_accruedOf_4 : decode cX7_accruedOf 4 = .ok (.iload_n 1, 1) := by decide +kernel
theorem dX7_accruedOf_5 : decode cX7_accruedOf 5 = .ok (.laload, 1) := by decide +kernel
theorem dX7_accruedOf_6 : decode cX7_accruedOf 6 = .ok (.aload_n 0, 1) := by decide +kernel
theorem dX7_accruedOf_7 : decode cX7_accruedOf 7 = .ok (.getfield 13, 3) := by decide +kernel
theorem dX7_accruedOf_10 : decode cX7_accruedOf 10 = .ok (.aload_n 0, 1) := by decide +kernel
theorem dX7_accruedOf_11 : decode cX7_accruedOf 11 = .ok (.getfield 22, 3) := by decide +kernel
theorem dX7_accruedOf_14 : decode cX7_accruedOf 14 = .ok (.iload_n 1, 1) := by decide +kernel
theorem dX7_accruedOf_15 : decode cX7_accruedOf 15 = .ok (.iaload, 1) := by decide +kernel
theorem dX7_accruedOf_16 : decode cX7_accruedOf 16 = .ok (.iaload, 1) := by decide +kernel
theorem dX7_accruedOf_17 : decode cX7_accruedOf 17 = .ok (.invokestatic 175, 3) := by decide +kernel
theorem dX7_accruedOf_20 : decode cX7_accruedOf 20 = .ok (.ldiv, 1) := by decide +kernel
theorem dX7_accruedOf_21 : decode cX7_accruedOf 21 = .ok (.l2i, 1) := by decide +kernel
theorem dX7_accruedOf_22 : decode cX7_accruedOf 22 = .ok (.ireturn, 1) := by decide +kernel
theorem dX7_chargeInterest_0 : decode cX7_chargeInterest 0 = .ok (.iload_n 2, 1) := by decide +kernel
theorem dX7_chargeInterest_1 : decode cX7_chargeInterest 1 = .ok (.iconst 0, 1) := by decide +kernel
theorem dX7_chargeInterest_2 : decode cX7_chargeInterest 2 = .ok (.bipush 120, 2) := by decide +kernel
theorem dX7_chargeInterest_4 : decode cX7_chargeInterest 4 = .ok (.invokestatic 82, 3) := by decide +kernel
theorem dX7_chargeInterest_7 : decode cX7_chargeInterest 7 = .ok (.istore_n 3, 1) := by decide +kernel
theorem dX7_chargeInterest_8 : decode cX7_chargeInterest 8 = .ok (.iconst 0, 1) := by decide +kernel
theorem dX7_chargeInterest_9 : decode cX7_chargeInterest 9 = .ok (.istore 4, 2) := by decide +kernel
theorem dX7_chargeInterest_11 : decode cX7_chargeInterest 11 = .ok (.iconst 0, 1) := by decide +kernel
theorem dX7_chargeInterest_12 : decode cX7_chargeInterest 12 = .ok (.istore 5, 2) := by decide +kernel
theorem dX7_chargeInterest_14 : decode cX7_chargeInterest 14 = .ok (.iload 5, 2) := by decide +kernel
theorem dX7_chargeInterest_16 : decode cX7_chargeInterest 16 = .ok (.aload_n 0, 1) := by decide +kernel
theorem dX7_chargeInterest_17 : decode cX7_chargeInterest 17 = .ok (.getfield 86, 3) := by decide +kernel
theorem dX7_chargeInterest_20 : decode cX7_chargeInterest 20 = .ok (.if_icmp .ge 43, 3) := by decide +kernel
theorem dX7_chargeInterest_23 : decode cX7_chargeInterest 23 = .ok (.aload_n 0, 1) := by decide +kernel
theorem dX7_chargeInterest_24 : decode cX7_chargeInterest 24 = .ok (.iload_n 1, 1) := by decide +kernel
theorem dX7_chargeInterest_25 : decode cX7_chargeInterest 25 = .ok (.invokevirtual 92, 3) := by decide +kernel
theorem dX7_chargeInterest_28 : decode cX7_chargeInterest 28 = .ok (.ifCond .eq 35, 3) := by decide +kernel
theorem dX7_chargeInterest_31 : decode cX7_chargeInterest 31 = .ok (.iload 4, 2) := by decide +kernel
theorem dX7_chargeInterest_33 : decode cX7_chargeInterest 33 = .ok (.aload_n 0, 1) := by decide +kernel
theorem dX7_chargeInterest_34 : decode cX7_chargeInterest 34 = .ok (.getfield 22, 3) := by decide +kernel
theorem dX7_chargeInterest_37 : decode cX7_chargeInterest 37 = .ok (.iload 5, 2) := by decide +kernel
theorem dX7_chargeInterest_39 : decode cX7_chargeInterest 39 = .ok (.iaload, 1) := by decide +kernel
theorem dX7_chargeInterest_40 : decode cX7_chargeInterest 40 = .ok (.iload_n 1, 1) := by decide +kernel
theorem dX7_chargeInterest_41 : decode cX7_chargeInterest 41 = .ok (.if_icmp .ne 12, 3) := by decide +kernel
theorem dX7_chargeInterest_44 : decode cX7_chargeInterest 44 = .ok (.aload_n 0, 1) := by decide +kernel
theorem dX7_chargeInterest_45 : decode cX7_chargeInterest 45 = .ok (.iload 5, 2) := by decide +kernel
theorem dX7_chargeInterest_47 : decode cX7_chargeInterest 47 = .ok (.invokevirtual 178, 3) := by decide +kernel
theorem dX7_chargeInterest_50 : decode cX7_chargeInterest 50 = .ok (.goto 4, 3) := by decide +kernel
theorem dX7_chargeInterest_53 : decode cX7_chargeInterest 53 = .ok (.iconst 0, 1) := by decide +kernel
theorem dX7_chargeInterest_54 : decode cX7_chargeInterest 54 = .ok (.iadd, 1) := by decide +kernel
theorem dX7_chargeInterest_55 : decode cX7_chargeInterest 55 = .ok (.istore 4, 2) := by decide +kernel
theorem dX7_chargeInterest_57 : decode cX7_chargeInterest 57 = .ok (.iinc 5 1, 3) := by decide +kernel
theorem dX7_chargeInterest_60 : decode cX7_chargeInterest 60 = .ok (.goto (-46), 3) := by decide +kernel
theorem dX7_chargeInterest_63 : decode cX7_chargeInterest 63 = .ok (.aload_n 0, 1) := by decide +kernel
theorem dX7_chargeInterest_64 : decode cX7_chargeInterest 64 = .ok (.aload_n 0, 1) := by decide +kernel
theorem dX7_chargeInterest_65 : decode cX7_chargeInterest 65 = .ok (.iload_n 1, 1) := by decide +kernel
theorem dX7_chargeInterest_66 : decode cX7_chargeInterest 66 = .ok (.invokevirtual 92, 3) := by decide +kernel
theorem dX7_chargeInterest_69 : decode cX7_chargeInterest 69 = .ok (.ifCond .ne 7, 3) := by decide +kernel
theorem dX7_chargeInterest_72 : decode cX7_chargeInterest 72 = .ok (.iconst 1, 1) := by decide +kernel
theorem dX7_chargeInterest_73 : decode cX7_chargeInterest 73 = .ok (.goto 30, 3) := by decide +kernel
theorem dX7_chargeInterest_76 : decode cX7_chargeInterest 76 = .ok (.iload_n 3, 1) := by decide +kernel
theorem dX7_chargeInterest_77 : decode cX7_chargeInterest 77 = .ok (.ifCond .ne 7, 3) := by decide +kernel
theorem dX7_chargeInterest_80 : decode cX7_chargeInterest 80 = .ok (.iconst 2, 1) := by decide +kernel
theorem dX7_chargeInterest_81 : decode cX7_chargeInterest 81 = .ok (.goto 22, 3) := by decide +kernel
theorem dX7_chargeInterest_84 : decode cX7_chargeInterest 84 = .ok (.iload 4, 2) := by decide +kernel
theorem dX7_chargeInterest_86 : decode cX7_chargeInterest 86 = .ok (.ifCond .le 16, 3) := by decide +kernel
theorem dX7_chargeInterest_89 : decode cX7_chargeInterest 89 = .ok (.aload_n 0, 1) := by decide +kernel
theorem dX7_chargeInterest_90 : decode cX7_chargeInterest 90 = .ok (.getfield 86, 3) := by decide +kernel
theorem dX7_chargeInterest_93 : decode cX7_chargeInterest 93 = .ok (.bipush 24, 2) := by decide +kernel
theorem dX7_chargeInterest_95 : decode cX7_chargeInterest 95 = .ok (.if_icmp .ne 7, 3) := by decide +kernel
theorem dX7_chargeInterest_98 : decode cX7_chargeInterest 98 = .ok (.iconst 3, 1) := by decide +kernel
theorem dX7_chargeInterest_99 : decode cX7_chargeInterest 99 = .ok (.goto 4, 3) := by decide +kernel
theorem dX7_chargeInterest_102 : decode cX7_chargeInterest 102 = .ok (.iconst 0, 1) := by decide +kernel
theorem dX7_chargeInterest_103 : decode cX7_chargeInterest 103 = .ok (.invokevirtual 96, 3) := by decide +kernel
theorem dX7_chargeInterest_106 : decode cX7_chargeInterest 106 = .ok (.ifCond .eq 5, 3) := by decide +kernel
theorem dX7_chargeInterest_109 : decode cX7_chargeInterest 109 = .ok (.iconst 0, 1) := by decide +kernel
theorem dX7_chargeInterest_110 : decode cX7_chargeInterest 110 = .ok (.ireturn, 1) := by decide +kernel
theorem dX7_chargeInterest_111 : decode cX7_chargeInterest 111 = .ok (.iload 4, 2) := by decide +kernel
theorem dX7_chargeInterest_113 : decode cX7_chargeInterest 113 = .ok (.ifCond .ne 5, 3) := by decide +kernel
theorem dX7_chargeInterest_116 : decode cX7_chargeInterest 116 = .ok (.iconst (-1), 1) := by decide +kernel
theorem dX7_chargeInterest_117 : decode cX7_chargeInterest 117 = .ok (.ireturn, 1) := by decide +kernel
theorem dX7_chargeInterest_118 : decode cX7_chargeInterest 118 = .ok (.iconst 0, 1) := by decide +kernel
theorem dX7_chargeInterest_119 : decode cX7_chargeInterest 119 = .ok (.istore 5, 2) := by decide +kernel
theorem dX7_chargeInterest_121 : decode cX7_chargeInterest 121 = .ok (.iload 5, 2) := by decide +kernel
theorem dX7_chargeInterest_123 : decode cX7_chargeInterest 123 = .ok (.aload_n 0, 1) := by decide +kernel
theorem dX7_chargeInterest_124 : decode cX7_chargeInterest 124 = .ok (.getfield 86, 3) := by decide +kernel
theorem dX7_chargeInterest_127 : decode cX7_chargeInterest 127 = .ok (.if_icmp .ge 51, 3) := by decide +kernel
theorem dX7_chargeInterest_130 : decode cX7_chargeInterest 130 = .ok (.aload_n 0, 1) := by decide +kernel
theorem dX7_chargeInterest_131 : decode cX7_chargeInterest 131 = .ok (.getfield 37, 3) := by decide +kernel
theorem dX7_chargeInterest_134 : decode cX7_chargeInterest 134 = .ok (.iload 5, 2) := by decide +kernel
theorem dX7_chargeInterest_136 : decode cX7_chargeInterest 136 = .ok (.dup2, 1) := by decide +kernel
theorem dX7_chargeInterest_137 : decode cX7_chargeInterest 137 = .ok (.laload, 1) := by decide +kernel
theorem dX7_chargeInterest_138 : decode cX7_chargeInterest 138 = .ok (.aload_n 0, 1) := by decide +kernel
theorem dX7_chargeInterest_139 : decode cX7_chargeInterest 139 = .ok (.getfield 22, 3) := by decide +kernel
theorem dX7_chargeInterest_142 : decode cX7_chargeInterest 142 = .ok (.iload 5, 2) := by decide +kernel
theorem dX7_chargeInterest_144 : decode cX7_chargeInterest 144 = .ok (.iaload, 1) := by decide +kernel
theorem dX7_chargeInterest_145 : decode cX7_chargeInterest 145 = .ok (.iload_n 1, 1) := by decide +kernel
theorem dX7_chargeInterest_146 : decode cX7_chargeInterest 146 = .ok (.if_icmp .ne 23, 3) := by decide +kernel
theorem dX7_chargeInterest_149 : decode cX7_chargeInterest 149 = .ok (.aload_n 0, 1) := by decide +kernel
theorem dX7_chargeInterest_150 : decode cX7_chargeInterest 150 = .ok (.iload 5, 2) := by decide +kernel
theorem dX7_chargeInterest_152 : decode cX7_chargeInterest 152 = .ok (.invokevirtual 178, 3) := by decide +kernel
theorem dX7_chargeInterest_155 : decode cX7_chargeInterest 155 = .ok (.i2l, 1) := by decide +kernel
theorem dX7_chargeInterest_156 : decode cX7_chargeInterest 156 = .ok (.aload_n 0, 1) := by decide +kernel
theorem dX7_chargeInterest_157 : decode cX7_chargeInterest 157 = .ok (.getfield 13, 3) := by decide +kernel
theorem dX7_chargeInterest_160 : decode cX7_chargeInterest 160 = .ok (.iload_n 1, 1) := by decide +kernel
theorem dX7_chargeInterest_161 : decode cX7_chargeInterest 161 = .ok (.iaload, 1) := by decide +kernel
theorem dX7_chargeInterest_162 : decode cX7_chargeInterest 162 = .ok (.invokestatic 175, 3) := by decide +kernel
theorem dX7_chargeInterest_165 : decode cX7_chargeInterest 165 = .ok (.lmul, 1) := by decide +kernel
theorem dX7_chargeInterest_166 : decode cX7_chargeInterest 166 = .ok (.goto 4, 3) := by decide +kernel
theorem dX7_chargeInterest_169 : decode cX7_chargeInterest 169 = .ok (.lconst 0, 1) := by decide +kernel
theorem dX7_chargeInterest_170 : decode cX7_chargeInterest 170 = .ok (.lsub, 1) := by decide +kernel
theorem dX7_chargeInterest_171 : decode cX7_chargeInterest 171 = .ok (.lastore, 1) := by decide +kernel
theorem dX7_chargeInterest_172 : decode cX7_chargeInterest 172 = .ok (.iinc 5 1, 3) := by decide +kernel
theorem dX7_chargeInterest_175 : decode cX7_chargeInterest 175 = .ok (.goto (-54), 3) := by decide +kernel
theorem dX7_chargeInterest_178 : decode cX7_chargeInterest 178 = .ok (.aload_n 0, 1) := by decide +kernel
theorem dX7_chargeInterest_179 : decode cX7_chargeInterest 179 = .ok (.iload_n 1, 1) := by decide +kernel
theorem dX7_chargeInterest_180 : decode cX7_chargeInterest 180 = .ok (.iload 4, 2) := by decide +kernel
theorem dX7_chargeInterest_182 : decode cX7_chargeInterest 182 = .ok (.iload_n 2, 1) := by decide +kernel
theorem dX7_chargeInterest_183 : decode cX7_chargeInterest 183 = .ok (.iconst 1, 1) := by decide +kernel
theorem dX7_chargeInterest_184 : decode cX7_chargeInterest 184 = .ok (.invokevirtual 142, 3) := by decide +kernel
theorem dX7_chargeInterest_187 : decode cX7_chargeInterest 187 = .ok (.ireturn, 1) := by decide +kernel
theorem dX7_accrued_0 : decode cX7_accrued 0 = .ok (.aload_n 0, 1) := by decide +kernel
theorem dX7_accrued_1 : decode cX7_accrued 1 = .ok (.iload_n 1, 1) := by decide +kernel
theorem dX7_accrued_2 : decode cX7_accrued 2 = .ok (.invokevirtual 181, 3) := by decide +kernel
theorem dX7_accrued_5 : decode cX7_accrued 5 = .ok (.ifCond .eq 7, 3) := by decide +kernel
theorem dX7_accrued_8 : decode cX7_accrued 8 = .ok (.iconst 0, 1) := by decide +kernel
theorem dX7_accrued_9 : decode cX7_accrued 9 = .ok (.goto 8, 3) := by decide +kernel
theorem dX7_accrued_12 : decode cX7_accrued 12 = .ok (.aload_n 0, 1) := by decide +kernel
theorem dX7_accrued_13 : decode cX7_accrued 13 = .ok (.iload_n 1, 1) := by decide +kernel
theorem dX7_accrued_14 : decode cX7_accrued 14 = .ok (.invokevirtual 178, 3) := by decide +kernel
theorem dX7_accrued_17 : decode cX7_accrued 17 = .ok (.ireturn, 1) := by decide +kernel
theorem dX7_isInterest_0 : decode cX7_isInterest 0 = .ok (.aload_n 0, 1) := by decide +kernel
theorem dX7_isInterest_1 : decode cX7_isInterest 1 = .ok (.iload_n 1, 1) := by decide +kernel
theorem dX7_isInterest_2 : decode cX7_isInterest 2 = .ok (.invokevirtual 181, 3) := by decide +kernel
theorem dX7_isInterest_5 : decode cX7_isInterest 5 = .ok (.ifCond .ne 16, 3) := by decide +kernel
theorem dX7_isInterest_8 : decode cX7_isInterest 8 = .ok (.aload_n 0, 1) := by decide +kernel
theorem dX7_isInterest_9 : decode cX7_isInterest 9 = .ok (.getfield 41, 3) := by decide +kernel
theorem dX7_isInterest_12 : decode cX7_isInterest 12 = .ok (.iload_n 1, 1) := by decide +kernel
theorem dX7_isInterest_13 : decode cX7_isInterest 13 = .ok (.baload, 1) := by decide +kernel
theorem dX7_isInterest_14 : decode cX7_isInterest 14 = .ok (.ifCond .eq 7, 3) := by decide +kernel
theorem dX7_isInterest_17 : decode cX7_isInterest 17 = .ok (.iconst 1, 1) := by decide +kernel
theorem dX7_isInterest_18 : decode cX7_isInterest 18 = .ok (.goto 4, 3) := by decide +kernel
theorem dX7_isInterest_21 : decode cX7_isInterest 21 = .ok (.iconst 0, 1) := by decide +kernel
theorem dX7_isInterest_22 : decode cX7_isInterest 22 = .ok (.ireturn, 1) := by decide +kernel
theorem dX7_customers_0 : decode cX7_customers 0 = .ok (.aload_n 0, 1) := by decide +kernel
theorem dX7_customers_1 : decode cX7_customers 1 = .ok (.aload_n 0, 1) := by decide +kernel
theorem dX7_customers_2 : decode cX7_customers 2 = .ok (.getfield 79, 3) := by decide +kernel
theorem dX7_customers_5 : decode cX7_customers 5 = .ok (.invokevirtual 128, 3) := by decide +kernel
theorem dX7_customers_8 : decode cX7_customers 8 = .ok (.ireturn, 1) := by decide +kernel
theorem dX7_invoices_0 : decode cX7_invoices 0 = .ok (.aload_n 0, 1) := by decide +kernel
theorem dX7_invoices_1 : decode cX7_invoices 1 = .ok (.aload_n 0, 1) := by decide +kernel
theorem dX7_invoices_2 : decode cX7_invoices 2 = .ok (.getfield 86, 3) := by decide +kernel
theorem dX7_invoices_5 : decode cX7_invoices 5 = .ok (.invokevirtual 128, 3) := by decide +kernel
theorem dX7_invoices_8 : decode cX7_invoices 8 = .ok (.ireturn, 1) := by decide +kernel
theorem dX7_payments_0 : decode cX7_payments 0 = .ok (.aload_n 0, 1) := by decide +kernel
theorem dX7_payments_1 : decode cX7_payments 1 = .ok (.aload_n 0, 1) := by decide +kernel
theorem dX7_payments_2 : decode cX7_payments 2 = .ok (.getfield 89, 3) := by decide +kernel
theorem dX7_payments_5 : decode cX7_payments 5 = .ok (.invokevirtual 128, 3) := by decide +kernel
theorem dX7_payments_8 : decode cX7_payments 8 = .ok (.ireturn, 1) := by decide +kernel
theorem dX7_amountOf_0 : decode cX7_amountOf 0 = .ok (.aload_n 0, 1) := by decide +kernel
theorem dX7_amountOf_1 : decode cX7_amountOf 1 = .ok (.iload_n 1, 1) := by decide +kernel
theorem dX7_amountOf_2 : decode cX7_amountOf 2 = .ok (.invokevirtual 181, 3) := by decide +kernel
theorem dX7_amountOf_5 : decode cX7_amountOf 5 = .ok (.ifCond .eq 7, 3) := by decide +kernel
theorem dX7_amountOf_8 : decode cX7_amountOf 8 = .ok (.iconst 0, 1) := by decide +kernel
theorem dX7_amountOf_9 : decode cX7_amountOf 9 = .ok (.goto 9, 3) := by decide +kernel
theorem dX7_amountOf_12 : decode cX7_amountOf 12 = .ok (.aload_n 0, 1) := by decide +kernel
theorem dX7_amountOf_13 : decode cX7_amountOf 13 = .ok (.getfield 25, 3) := by decide +kernel
theorem dX7_amountOf_16 : decode cX7_amountOf 16 = .ok (.iload_n 1, 1) := by decide +kernel
theorem dX7_amountOf_17 : decode cX7_amountOf 17 = .ok (.iaload, 1) := by decide +kernel
theorem dX7_amountOf_18 : decode cX7_amountOf 18 = .ok (.ireturn, 1) := by decide +kernel
theorem dX7_dueDay_0 : decode cX7_dueDay 0 = .ok (.aload_n 0, 1) := by decide +kernel
theorem dX7_dueDay_1 : decode cX7_dueDay 1 = .ok (.iload_n 1, 1) := by decide +kernel
theorem dX7_dueDay_2 : decode cX7_dueDay 2 = .ok (.invokevirtual 181, 3) := by decide +kernel
theorem dX7_dueDay_5 : decode cX7_dueDay 5 = .ok (.ifCond .eq 7, 3) := by decide +kernel
theorem dX7_dueDay_8 : decode cX7_dueDay 8 = .ok (.iconst 0, 1) := by decide +kernel
theorem dX7_dueDay_9 : decode cX7_dueDay 9 = .ok (.goto 9, 3) := by decide +kernel
theorem dX7_dueDay_12 : decode cX7_dueDay 12 = .ok (.aload_n 0, 1) := by decide +kernel
theorem dX7_dueDay_13 : decode cX7_dueDay 13 = .ok (.getfield 28, 3) := by decide +kernel
theorem dX7_dueDay_16 : decode cX7_dueDay 16 = .ok (.iload_n 1, 1) := by decide +kernel
theorem dX7_dueDay_17 : decode cX7_dueDay 17 = .ok (.iaload, 1) := by decide +kernel
theorem dX7_dueDay_18 : decode cX7_dueDay 18 = .ok (.ireturn, 1) := by decide +kernel
theorem dX7_openOf_0 : decode cX7_openOf 0 = .ok (.aload_n 0, 1) := by decide +kernel
theorem dX7_openOf_1 : decode cX7_openOf 1 = .ok (.iload_n 1, 1) := by decide +kernel
theorem dX7_openOf_2 : decode cX7_openOf 2 = .ok (.invokevirtual 181, 3) := by decide +kernel
theorem dX7_openOf_5 : decode cX7_openOf 5 = .ok (.ifCond .eq 7, 3) := by decide +kernel
theorem dX7_openOf_8 : decode cX7_openOf 8 = .ok (.iconst 0, 1) := by decide +kernel
theorem dX7_openOf_9 : decode cX7_openOf 9 = .ok (.goto 9, 3) := by decide +kernel
theorem dX7_openOf_12 : decode cX7_openOf 12 = .ok (.aload_n 0, 1) := by decide +kernel
theorem dX7_openOf_13 : decode cX7_openOf 13 = .ok (.getfield 31, 3) := by decide +kernel
theorem dX7_openOf_16 : decode cX7_openOf 16 = .ok (.iload_n 1, 1) := by decide +kernel
theorem dX7_openOf_17 : decode cX7_openOf 17 = .ok (.iaload, 1) := by decide +kernel
theorem dX7_openOf_18 : decode cX7_openOf 18 = .ok (.ireturn, 1) := by decide +kernel
theorem dX7_openByLedger_0 : decode cX7_openByLedger 0 = .ok (.aload_n 0, 1) := by decide +kernel
theorem dX7_openByLedger_1 : decode cX7_openByLedger 1 = .ok (.iload_n 1, 1) := by decide +kernel
theorem dX7_openByLedger_2 : decode cX7_openByLedger 2 = .ok (.invokevirtual 181, 3) := by decide +kernel
theorem dX7_openByLedger_5 : decode cX7_openByLedger 5 = .ok (.ifCond .eq 5, 3) := by decide +kernel
theorem dX7_openByLedger_8 : decode cX7_openByLedger 8 = .ok (.iconst 0, 1) := by decide +kernel
theorem dX7_openByLedger_9 : decode cX7_openByLedger 9 = .ok (.ireturn, 1) := by decide +kernel
theorem dX7_openByLedger_10 : decode cX7_openByLedger 10 = .ok (.iconst 0, 1) := by decide +kernel
theorem dX7_openByLedger_11 : decode cX7_openByLedger 11 = .ok (.istore_n 2, 1) := by decide +kernel
theorem dX7_openByLedger_12 : decode cX7_openByLedger 12 = .ok (.iconst 0, 1) := by decide +kernel
theorem dX7_openByLedger_13 : decode cX7_openByLedger 13 = .ok (.istore_n 3, 1) := by decide +kernel
theorem dX7_openByLedger_14 : decode cX7_openByLedger 14 = .ok (.iload_n 3, 1) := by decide +kernel
theorem dX7_openByLedger_15 : decode cX7_openByLedger 15 = .ok (.aload_n 0, 1) := by decide +kernel
theorem dX7_openByLedger_16 : decode cX7_openByLedger 16 = .ok (.getfield 134, 3) := by decide +kernel
theorem dX7_openByLedger_19 : decode cX7_openByLedger 19 = .ok (.if_icmp .ge 32, 3) := by decide +kernel
theorem dX7_openByLedger_22 : decode cX7_openByLedger 22 = .ok (.iload_n 2, 1) := by decide +kernel
theorem dX7_openByLedger_23 : decode cX7_openByLedger 23 = .ok (.aload_n 0, 1) := by decide +kernel
theorem dX7_openByLedger_24 : decode cX7_openByLedger 24 = .ok (.getfield 63, 3) := by decide +kernel
theorem dX7_openByLedger_27 : decode cX7_openByLedger 27 = .ok (.iload_n 3, 1) := by decide +kernel
theorem dX7_openByLedger_28 : decode cX7_openByLedger 28 = .ok (.iaload, 1) := by decide +kernel
theorem dX7_openByLedger_29 : decode cX7_openByLedger 29 = .ok (.iload_n 1, 1) := by decide +kernel
theorem dX7_openByLedger_30 : decode cX7_openByLedger 30 = .ok (.if_icmp .ne 12, 3) := by decide +kernel
theorem dX7_openByLedger_33 : decode cX7_openByLedger 33 = .ok (.aload_n 0, 1) := by decide +kernel
theorem dX7_openByLedger_34 : decode cX7_openByLedger 34 = .ok (.getfield 66, 3) := by decide +kernel
theorem dX7_openByLedger_37 : decode cX7_openByLedger 37 = .ok (.iload_n 3, 1) := by decide +kernel
theorem dX7_openByLedger_38 : decode cX7_openByLedger 38 = .ok (.iaload, 1) := by decide +kernel
theorem dX7_openByLedger_39 : decode cX7_openByLedger 39 = .ok (.goto 4, 3) := by decide +kernel
theorem dX7_openByLedger_42 : decode cX7_openByLedger 42 = .ok (.iconst 0, 1) := by decide +kernel
theorem dX7_openByLedger_43 : decode cX7_openByLedger 43 = .ok (.iadd, 1) := by decide +kernel
theorem dX7_openByLedger_44 : decode cX7_openByLedger 44 = .ok (.istore_n 2, 1) := by decide +kernel
theorem dX7_openByLedger_45 : decode cX7_openByLedger 45 = .ok (.iinc 3 1, 3) := by decide +kernel
theorem dX7_openByLedger_48 : decode cX7_openByLedger 48 = .ok (.goto (-34), 3) := by decide +kernel
theorem dX7_openByLedger_51 : decode cX7_openByLedger 51 = .ok (.iload_n 2, 1) := by decide +kernel
theorem dX7_openByLedger_52 : decode cX7_openByLedger 52 = .ok (.ireturn, 1) := by decide +kernel
theorem dX7_disputedOf_0 : decode cX7_disputedOf 0 = .ok (.aload_n 0, 1) := by decide +kernel
theorem dX7_disputedOf_1 : decode cX7_disputedOf 1 = .ok (.iload_n 1, 1) := by decide +kernel
theorem dX7_disputedOf_2 : decode cX7_disputedOf 2 = .ok (.invokevirtual 181, 3) := by decide +kernel
theorem dX7_disputedOf_5 : decode cX7_disputedOf 5 = .ok (.ifCond .eq 7, 3) := by decide +kernel
theorem dX7_disputedOf_8 : decode cX7_disputedOf 8 = .ok (.iconst 0, 1) := by decide +kernel
theorem dX7_disputedOf_9 : decode cX7_disputedOf 9 = .ok (.goto 9, 3) := by decide +kernel
theorem dX7_disputedOf_12 : decode cX7_disputedOf 12 = .ok (.aload_n 0, 1) := by decide +kernel
theorem dX7_disputedOf_13 : decode cX7_disputedOf 13 = .ok (.getfield 34, 3) := by decide +kernel
theorem dX7_disputedOf_16 : decode cX7_disputedOf 16 = .ok (.iload_n 1, 1) := by decide +kernel
theorem dX7_disputedOf_17 : decode cX7_disputedOf 17 = .ok (.iaload, 1) := by decide +kernel
theorem dX7_disputedOf_18 : decode cX7_disputedOf 18 = .ok (.ireturn, 1) := by decide +kernel
theorem dX7_allocated_0 : decode cX7_allocated 0 = .ok (.aload_n 0, 1) := by decide +kernel
theorem dX7_allocated_1 : decode cX7_allocated 1 = .ok (.aload_n 0, 1) := by decide +kernel
theorem dX7_allocated_2 : decode cX7_allocated 2 = .ok (.iload_n 1, 1) := by decide +kernel
theorem dX7_allocated_3 : decode cX7_allocated 3 = .ok (.invokevirtual 166, 3) := by decide +kernel
theorem dX7_allocated_6 : decode cX7_allocated 6 = .ok (.ifCond .eq 15, 3) := by decide +kernel
theorem dX7_allocated_9 : decode cX7_allocated 9 = .ok (.aload_n 0, 1) := by decide +kernel
theorem dX7_allocated_10 : decode cX7_allocated 10 = .ok (.iload_n 2, 1) := by decide +kernel
theorem dX7_allocated_11 : decode cX7_allocated 11 = .ok (.invokevirtual 99, 3) := by decide +kernel
theorem dX7_allocated_14 : decode cX7_allocated 14 = .ok (.ifCond .eq 7, 3) := by decide +kernel
theorem dX7_allocated_17 : decode cX7_allocated 17 = .ok (.iconst 0, 1) := by decide +kernel
theorem dX7_allocated_18 : decode cX7_allocated 18 = .ok (.goto 4, 3) := by decide +kernel
theorem dX7_allocated_21 : decode cX7_allocated 21 = .ok (.iconst 1, 1) := by decide +kernel
theorem dX7_allocated_22 : decode cX7_allocated 22 = .ok (.invokevirtual 96, 3) := by decide +kernel
theorem dX7_allocated_25 : decode cX7_allocated 25 = .ok (.ifCond .eq 7, 3) := by decide +kernel
theorem dX7_allocated_28 : decode cX7_allocated 28 = .ok (.iconst 0, 1) := by decide +kernel
theorem dX7_allocated_29 : decode cX7_allocated 29 = .ok (.goto 14, 3) := by decide +kernel
theorem dX7_allocated_32 : decode cX7_allocated 32 = .ok (.aload_n 0, 1) := by decide +kernel
theorem dX7_allocated_33 : decode cX7_allocated 33 = .ok (.getfield 60, 3) := by decide +kernel
theorem dX7_allocated_36 : decode cX7_allocated 36 = .ok (.bipush 24, 2) := by decide +kernel
theorem dX7_allocated_38 : decode cX7_allocated 38 = .ok (.iload_n 1, 1) := by decide +kernel
theorem dX7_allocated_39 : decode cX7_allocated 39 = .ok (.imul, 1) := by decide +kernel
theorem dX7_allocated_40 : decode cX7_allocated 40 = .ok (.iload_n 2, 1) := by decide +kernel
theorem dX7_allocated_41 : decode cX7_allocated 41 = .ok (.iadd, 1) := by decide +kernel
theorem dX7_allocated_42 : decode cX7_allocated 42 = .ok (.iaload, 1) := by decide +kernel
theorem dX7_allocated_43 : decode cX7_allocated 43 = .ok (.ireturn, 1) := by decide +kernel
theorem dX7_unallocated_0 : decode cX7_unallocated 0 = .ok (.aload_n 0, 1) := by decide +kernel
theorem dX7_unallocated_1 : decode cX7_unallocated 1 = .ok (.aload_n 0, 1) := by decide +kernel
theorem dX7_unallocated_2 : decode cX7_unallocated 2 = .ok (.iload_n 1, 1) := by decide +kernel
theorem dX7_unallocated_3 : decode cX7_unallocated 3 = .ok (.invokevirtual 166, 3) := by decide +kernel
theorem dX7_unallocated_6 : decode cX7_unallocated 6 = .ok (.ifCond .eq 7, 3) := by decide +kernel
theorem dX7_unallocated_9 : decode cX7_unallocated 9 = .ok (.iconst 0, 1) := by decide +kernel
theorem dX7_unallocated_10 : decode cX7_unallocated 10 = .ok (.goto 4, 3) := by decide +kernel
theorem dX7_unallocated_13 : decode cX7_unallocated 13 = .ok (.iconst 1, 1) := by decide +kernel
theorem dX7_unallocated_14 : decode cX7_unallocated 14 = .ok (.invokevirtual 96, 3) := by decide +kernel
theorem dX7_unallocated_17 : decode cX7_unallocated 17 = .ok (.ifCond .eq 7, 3) := by decide +kernel
theorem dX7_unallocated_20 : decode cX7_unallocated 20 = .ok (.iconst 0, 1) := by decide +kernel
theorem dX7_unallocated_21 : decode cX7_unallocated 21 = .ok (.goto 9, 3) := by decide +kernel
theorem dX7_unallocated_24 : decode cX7_unallocated 24 = .ok (.aload_n 0, 1) := by decide +kernel
theorem dX7_unallocated_25 : decode cX7_unallocated 25 = .ok (.getfield 54, 3) := by decide +kernel
theorem dX7_unallocated_28 : decode cX7_unallocated 28 = .ok (.iload_n 1, 1) := by decide +kernel
theorem dX7_unallocated_29 : decode cX7_unallocated 29 = .ok (.iaload, 1) := by decide +kernel
theorem dX7_unallocated_30 : decode cX7_unallocated 30 = .ok (.ireturn, 1) := by decide +kernel
theorem dX7_balance_0 : decode cX7_balance 0 = .ok (.aload_n 0, 1) := by decide +kernel
theorem dX7_balance_1 : decode cX7_balance 1 = .ok (.iload_n 1, 1) := by decide +kernel
theorem dX7_balance_2 : decode cX7_balance 2 = .ok (.invokevirtual 169, 3) := by decide +kernel
theorem dX7_balance_5 : decode cX7_balance 5 = .ok (.ifCond .eq 5, 3) := by decide +kernel
theorem dX7_balance_8 : decode cX7_balance 8 = .ok (.iconst 0, 1) := by decide +kernel
theorem dX7_balance_9 : decode cX7_balance 9 = .ok (.ireturn, 1) := by decide +kernel
theorem dX7_balance_10 : decode cX7_balance 10 = .ok (.iconst 0, 1) := by decide +kernel
theorem dX7_balance_11 : decode cX7_balance 11 = .ok (.istore_n 2, 1) := by decide +kernel
theorem dX7_balance_12 : decode cX7_balance 12 = .ok (.iconst 0, 1) := by decide +kernel
theorem dX7_balance_13 : decode cX7_balance 13 = .ok (.istore_n 3, 1) := by decide +kernel
theorem dX7_balance_14 : decode cX7_balance 14 = .ok (.iload_n 3, 1) := by decide +kernel
theorem dX7_balance_15 : decode cX7_balance 15 = .ok (.aload_n 0, 1) := by decide +kernel
theorem dX7_balance_16 : decode cX7_balance 16 = .ok (.getfield 86, 3) := by decide +kernel
theorem dX7_balance_19 : decode cX7_balance 19 = .ok (.if_icmp .ge 32, 3) := by decide +kernel
theorem dX7_balance_22 : decode cX7_balance 22 = .ok (.iload_n 2, 1) := by decide +kernel
theorem dX7_balance_23 : decode cX7_balance 23 = .ok (.aload_n 0, 1) := by decide +kernel
theorem dX7_balance_24 : decode cX7_balance 24 = .ok (.getfield 22, 3) := by decide +kernel
theorem dX7_balance_27 : decode cX7_balance 27 = .ok (.iload_n 3, 1) := by decide +kernel
theorem dX7_balance_28 : decode cX7_balance 28 = .ok (.iaload, 1) := by decide +kernel
theorem dX7_balance_29 : decode cX7_balance 29 = .ok (.iload_n 1, 1) := by decide +kernel
theorem dX7_balance_30 : decode cX7_balance 30 = .ok (.if_icmp .ne 12, 3) := by decide +kernel
theorem dX7_balance_33 : decode cX7_balance 33 = .ok (.aload_n 0, 1) := by decide +kernel
theorem dX7_balance_34 : decode cX7_balance 34 = .ok (.getfield 31, 3) := by decide +kernel
theorem dX7_balance_37 : decode cX7_balance 37 = .ok (.iload_n 3, 1) := by decide +kernel
theorem dX7_balance_38 : decode cX7_balance 38 = .ok (.iaload, 1) := by decide +kernel
theorem dX7_balance_39 : decode cX7_balance 39 = .ok (.goto 4, 3) := by decide +kernel
theorem dX7_balance_42 : decode cX7_balance 42 = .ok (.iconst 0, 1) := by decide +kernel
theorem dX7_balance_43 : decode cX7_balance 43 = .ok (.iadd, 1) := by decide +kernel
theorem dX7_balance_44 : decode cX7_balance 44 = .ok (.istore_n 2, 1) := by decide +kernel
theorem dX7_balance_45 : decode cX7_balance 45 = .ok (.iinc 3 1, 3) := by decide +kernel
theorem dX7_balance_48 : decode cX7_balance 48 = .ok (.goto (-34), 3) := by decide +kernel
theorem dX7_balance_51 : decode cX7_balance 51 = .ok (.iconst 0, 1) := by decide +kernel
theorem dX7_balance_52 : decode cX7_balance 52 = .ok (.istore_n 3, 1) := by decide +kernel
theorem dX7_balance_53 : decode cX7_balance 53 = .ok (.iload_n 3, 1) := by decide +kernel
theorem dX7_balance_54 : decode cX7_balance 54 = .ok (.aload_n 0, 1) := by decide +kernel
theorem dX7_balance_55 : decode cX7_balance 55 = .ok (.getfield 89, 3) := by decide +kernel
theorem dX7_balance_58 : decode cX7_balance 58 = .ok (.if_icmp .ge 32, 3) := by decide +kernel
theorem dX7_balance_61 : decode cX7_balance 61 = .ok (.iload_n 2, 1) := by decide +kernel
theorem dX7_balance_62 : decode cX7_balance 62 = .ok (.aload_n 0, 1) := by decide +kernel
theorem dX7_balance_63 : decode cX7_balance 63 = .ok (.getfield 51, 3) := by decide +kernel
theorem dX7_balance_66 : decode cX7_balance 66 = .ok (.iload_n 3, 1) := by decide +kernel
theorem dX7_balance_67 : decode cX7_balance 67 = .ok (.iaload, 1) := by decide +kernel
theorem dX7_balance_68 : decode cX7_balance 68 = .ok (.iload_n 1, 1) := by decide +kernel
theorem dX7_balance_69 : decode cX7_balance 69 = .ok (.if_icmp .ne 12, 3) := by decide +kernel
theorem dX7_balance_72 : decode cX7_balance 72 = .ok (.aload_n 0, 1) := by decide +kernel
theorem dX7_balance_73 : decode cX7_balance 73 = .ok (.getfield 54, 3) := by decide +kernel
theorem dX7_balance_76 : decode cX7_balance 76 = .ok (.iload_n 3, 1) := by decide +kernel
theorem dX7_balance_77 : decode cX7_balance 77 = .ok (.iaload, 1) := by decide +kernel
theorem dX7_balance_78 : decode cX7_balance 78 = .ok (.goto 4, 3) := by decide +kernel
theorem dX7_balance_81 : decode cX7_balance 81 = .ok (.iconst 0, 1) := by decide +kernel
theorem dX7_balance_82 : decode cX7_balance 82 = .ok (.isub, 1) := by decide +kernel
theorem dX7_balance_83 : decode cX7_balance 83 = .ok (.istore_n 2, 1) := by decide +kernel
theorem dX7_balance_84 : decode cX7_balance 84 = .ok (.iinc 3 1, 3) := by decide +kernel
theorem dX7_balance_87 : decode cX7_balance 87 = .ok (.goto (-34), 3) := by decide +kernel
theorem dX7_balance_90 : decode cX7_balance 90 = .ok (.iload_n 2, 1) := by decide +kernel
theorem dX7_balance_91 : decode cX7_balance 91 = .ok (.ireturn, 1) := by decide +kernel
theorem dX7_bucket_0 : decode cX7_bucket 0 = .ok (.aload_n 0, 1) := by decide +kernel
theorem dX7_bucket_1 : decode cX7_bucket 1 = .ok (.getfield 112, 3) := by decide +kernel
theorem dX7_bucket_4 : decode cX7_bucket 4 = .ok (.aload_n 0, 1) := by decide +kernel
theorem dX7_bucket_5 : decode cX7_bucket 5 = .ok (.getfield 28, 3) := by decide +kernel
theorem dX7_bucket_8 : decode cX7_bucket 8 = .ok (.iload_n 1, 1) := by decide +kernel
theorem dX7_bucket_9 : decode cX7_bucket 9 = .ok (.iaload, 1) := by decide +kernel
theorem dX7_bucket_10 : decode cX7_bucket 10 = .ok (.isub, 1) := by decide +kernel
theorem dX7_bucket_11 : decode cX7_bucket 11 = .ok (.istore_n 2, 1) := by decide +kernel
theorem dX7_bucket_12 : decode cX7_bucket 12 = .ok (.iload_n 2, 1) := by decide +kernel
theorem dX7_bucket_13 : decode cX7_bucket 13 = .ok (.ifCond .gt 7, 3) := by decide +kernel
theorem dX7_bucket_16 : decode cX7_bucket 16 = .ok (.iconst 0, 1) := by decide +kernel
theorem dX7_bucket_17 : decode cX7_bucket 17 = .ok (.goto 34, 3) := by decide +kernel
theorem dX7_bucket_20 : decode cX7_bucket 20 = .ok (.iload_n 2, 1) := by decide +kernel
theorem dX7_bucket_21 : decode cX7_bucket 21 = .ok (.bipush 30, 2) := by decide +kernel
theorem dX7_bucket_23 : decode cX7_bucket 23 = .ok (.if_icmp .gt 7, 3) := by decide +kernel
theorem dX7_bucket_26 : decode cX7_bucket 26 = .ok (.iconst 1, 1) := by decide +kernel
theorem dX7_bucket_27 : decode cX7_bucket 27 = .ok (.goto 24, 3) := by decide +kernel
theorem dX7_bucket_30 : decode cX7_bucket 30 = .ok (.iload_n 2, 1) := by decide +kernel
theorem dX7_bucket_31 : decode cX7_bucket 31 = .ok (.bipush 60, 2) := by decide +kernel
theorem dX7_bucket_33 : decode cX7_bucket 33 = .ok (.if_icmp .gt 7, 3) := by decide +kernel
theorem dX7_bucket_36 : decode cX7_bucket 36 = .ok (.iconst 2, 1) := by decide +kernel
theorem dX7_bucket_37 : decode cX7_bucket 37 = .ok (.goto 14, 3) := by decide +kernel
theorem dX7_bucket_40 : decode cX7_bucket 40 = .ok (.iload_n 2, 1) := by decide +kernel
theorem dX7_bucket_41 : decode cX7_bucket 41 = .ok (.bipush 90, 2) := by decide +kernel
theorem dX7_bucket_43 : decode cX7_bucket 43 = .ok (.if_icmp .gt 7, 3) := by decide +kernel
theorem dX7_bucket_46 : decode cX7_bucket 46 = .ok (.iconst 3, 1) := by decide +kernel
theorem dX7_bucket_47 : decode cX7_bucket 47 = .ok (.goto 4, 3) := by decide +kernel
theorem dX7_bucket_50 : decode cX7_bucket 50 = .ok (.iconst 4, 1) := by decide +kernel
theorem dX7_bucket_51 : decode cX7_bucket 51 = .ok (.ireturn, 1) := by decide +kernel
theorem dX7_bucketOf_0 : decode cX7_bucketOf 0 = .ok (.aload_n 0, 1) := by decide +kernel
theorem dX7_bucketOf_1 : decode cX7_bucketOf 1 = .ok (.iload_n 1, 1) := by decide +kernel
theorem dX7_bucketOf_2 : decode cX7_bucketOf 2 = .ok (.invokevirtual 181, 3) := by decide +kernel
theorem dX7_bucketOf_5 : decode cX7_bucketOf 5 = .ok (.ifCond .eq 7, 3) := by decide +kernel
theorem dX7_bucketOf_8 : decode cX7_bucketOf 8 = .ok (.iconst 0, 1) := by decide +kernel
theorem dX7_bucketOf_9 : decode cX7_bucketOf 9 = .ok (.goto 8, 3) := by decide +kernel
theorem dX7_bucketOf_12 : decode cX7_bucketOf 12 = .ok (.aload_n 0, 1) := by decide +kernel
theorem dX7_bucketOf_13 : decode cX7_bucketOf 13 = .ok (.iload_n 1, 1) := by decide +kernel
theorem dX7_bucketOf_14 : decode cX7_bucketOf 14 = .ok (.invokevirtual 184, 3) := by decide +kernel
theorem dX7_bucketOf_17 : decode cX7_bucketOf 17 = .ok (.ireturn, 1) := by decide +kernel
theorem dX7_ageing_0 : decode cX7_ageing 0 = .ok (.aload_n 0, 1) := by decide +kernel
theorem dX7_ageing_1 : decode cX7_ageing 1 = .ok (.aload_n 0, 1) := by decide +kernel
theorem dX7_ageing_2 : decode cX7_ageing 2 = .ok (.iload_n 1, 1) := by decide +kernel
theorem dX7_ageing_3 : decode cX7_ageing 3 = .ok (.invokevirtual 92, 3) := by decide +kernel
theorem dX7_ageing_6 : decode cX7_ageing 6 = .ok (.ifCond .eq 16, 3) := by decide +kernel
theorem dX7_ageing_9 : decode cX7_ageing 9 = .ok (.iload_n 2, 1) := by decide +kernel
theorem dX7_ageing_10 : decode cX7_ageing 10 = .ok (.iconst 0, 1) := by decide +kernel
theorem dX7_ageing_11 : decode cX7_ageing 11 = .ok (.iconst 4, 1) := by decide +kernel
theorem dX7_ageing_12 : decode cX7_ageing 12 = .ok (.invokestatic 82, 3) := by decide +kernel
theorem dX7_ageing_15 : decode cX7_ageing 15 = .ok (.ifCond .eq 7, 3) := by decide +kernel
theorem dX7_ageing_18 : decode cX7_ageing 18 = .ok (.iconst 0, 1) := by decide +kernel
theorem dX7_ageing_19 : decode cX7_ageing 19 = .ok (.goto 4, 3) := by decide +kernel
theorem dX7_ageing_22 : decode cX7_ageing 22 = .ok (.iconst 1, 1) := by decide +kernel
theorem dX7_ageing_23 : decode cX7_ageing 23 = .ok (.invokevirtual 96, 3) := by decide +kernel
theorem dX7_ageing_26 : decode cX7_ageing 26 = .ok (.ifCond .eq 5, 3) := by decide +kernel
theorem dX7_ageing_29 : decode cX7_ageing 29 = .ok (.iconst 0, 1) := by decide +kernel
theorem dX7_ageing_30 : decode cX7_ageing 30 = .ok (.ireturn, 1) := by decide +kernel
theorem dX7_ageing_31 : decode cX7_ageing 31 = .ok (.iconst 0, 1) := by decide +kernel
theorem dX7_ageing_32 : decode cX7_ageing 32 = .ok (.istore_n 3, 1) := by decide +kernel
theorem dX7_ageing_33 : decode cX7_ageing 33 = .ok (.iconst 0, 1) := by decide +kernel
theorem dX7_ageing_34 : decode cX7_ageing 34 = .ok (.istore 4, 2) := by decide +kernel
theorem dX7_ageing_36 : decode cX7_ageing 36 = .ok (.iload 4, 2) := by decide +kernel
theorem dX7_ageing_38 : decode cX7_ageing 38 = .ok (.aload_n 0, 1) := by decide +kernel
theorem dX7_ageing_39 : decode cX7_ageing 39 = .ok (.getfield 86, 3) := by decide +kernel
theorem dX7_ageing_42 : decode cX7_ageing 42 = .ok (.if_icmp .ge 44, 3) := by decide +kernel
theorem dX7_ageing_45 : decode cX7_ageing 45 = .ok (.iload_n 3, 1) := by decide +kernel
theorem dX7_ageing_46 : decode cX7_ageing 46 = .ok (.aload_n 0, 1) := by decide +kernel
theorem dX7_ageing_47 : decode cX7_ageing 47 = .ok (.getfield 22, 3) := by decide +kernel
theorem dX7_ageing_50 : decode cX7_ageing 50 = .ok (.iload 4, 2) := by decide +kernel
theorem dX7_ageing_52 : decode cX7_ageing 52 = .ok (.iaload, 1) := by decide +kernel
theorem dX7_ageing_53 : decode cX7_ageing 53 = .ok (.iload_n 1, 1) := by decide +kernel
theorem dX7_ageing_54 : decode cX7_ageing 54 = .ok (.if_icmp .ne 23, 3) := by decide +kernel
theorem dX7_ageing_57 : decode cX7_ageing 57 = .ok (.aload_n 0, 1) := by decide +kernel
theorem dX7_ageing_58 : decode cX7_ageing 58 = .ok (.iload 4, 2) := by decide +kernel
theorem dX7_ageing_60 : decode cX7_ageing 60 = .ok (.invokevirtual 184, 3) := by decide +kernel
theorem dX7_ageing_63 : decode cX7_ageing 63 = .ok (.iload_n 2, 1) := by decide +kernel
theorem dX7_ageing_64 : decode cX7_ageing 64 = .ok (.if_icmp .ne 13, 3) := by decide +kernel
theorem dX7_ageing_67 : decode cX7_ageing 67 = .ok (.aload_n 0, 1) := by decide +kernel
theorem dX7_ageing_68 : decode cX7_ageing 68 = .ok (.getfield 31, 3) := by decide +kernel
theorem dX7_ageing_71 : decode cX7_ageing 71 = .ok (.iload 4, 2) := by decide +kernel
theorem dX7_ageing_73 : decode cX7_ageing 73 = .ok (.iaload, 1) := by decide +kernel
theorem dX7_ageing_74 : decode cX7_ageing 74 = .ok (.goto 4, 3) := by decide +kernel
theorem dX7_ageing_77 : decode cX7_ageing 77 = .ok (.iconst 0, 1) := by decide +kernel
theorem dX7_ageing_78 : decode cX7_ageing 78 = .ok (.iadd, 1) := by decide +kernel
theorem dX7_ageing_79 : decode cX7_ageing 79 = .ok (.istore_n 3, 1) := by decide +kernel
theorem dX7_ageing_80 : decode cX7_ageing 80 = .ok (.iinc 4 1, 3) := by decide +kernel
theorem dX7_ageing_83 : decode cX7_ageing 83 = .ok (.goto (-47), 3) := by decide +kernel
theorem dX7_ageing_86 : decode cX7_ageing 86 = .ok (.iload_n 3, 1) := by decide +kernel
theorem dX7_ageing_87 : decode cX7_ageing 87 = .ok (.ireturn, 1) := by decide +kernel
theorem dX7_oldest_0 : decode cX7_oldest 0 = .ok (.aload_n 0, 1) := by decide +kernel
theorem dX7_oldest_1 : decode cX7_oldest 1 = .ok (.iload_n 1, 1) := by decide +kernel
theorem dX7_oldest_2 : decode cX7_oldest 2 = .ok (.invokevirtual 169, 3) := by decide +kernel
theorem dX7_oldest_5 : decode cX7_oldest 5 = .ok (.ifCond .eq 7, 3) := by decide +kernel
theorem dX7_oldest_8 : decode cX7_oldest 8 = .ok (.iconst 0, 1) := by decide +kernel
theorem dX7_oldest_9 : decode cX7_oldest 9 = .ok (.goto 8, 3) := by decide +kernel
theorem dX7_oldest_12 : decode cX7_oldest 12 = .ok (.aload_n 0, 1) := by decide +kernel
theorem dX7_oldest_13 : decode cX7_oldest 13 = .ok (.iload_n 1, 1) := by decide +kernel
theorem dX7_oldest_14 : decode cX7_oldest 14 = .ok (.invokevirtual 187, 3) := by decide +kernel
theorem dX7_oldest_17 : decode cX7_oldest 17 = .ok (.ireturn, 1) := by decide +kernel
theorem dX7_levelOf_0 : decode cX7_levelOf 0 = .ok (.aload_n 0, 1) := by decide +kernel
theorem dX7_levelOf_1 : decode cX7_levelOf 1 = .ok (.iload_n 1, 1) := by decide +kernel
theorem dX7_levelOf_2 : decode cX7_levelOf 2 = .ok (.invokevirtual 181, 3) := by decide +kernel
theorem dX7_levelOf_5 : decode cX7_levelOf 5 = .ok (.ifCond .eq 7, 3) := by decide +kernel
theorem dX7_levelOf_8 : decode cX7_levelOf 8 = .ok (.iconst 0, 1) := by decide +kernel
theorem dX7_levelOf_9 : decode cX7_levelOf 9 = .ok (.goto 9, 3) := by decide +kernel
theorem dX7_levelOf_12 : decode cX7_levelOf 12 = .ok (.aload_n 0, 1) := by decide +kernel
theorem dX7_levelOf_13 : decode cX7_levelOf 13 = .ok (.getfield 45, 3) := by decide +kernel
theorem dX7_levelOf_16 : decode cX7_levelOf 16 = .ok (.iload_n 1, 1) := by decide +kernel
theorem dX7_levelOf_17 : decode cX7_levelOf 17 = .ok (.iaload, 1) := by decide +kernel
theorem dX7_levelOf_18 : decode cX7_levelOf 18 = .ok (.ireturn, 1) := by decide +kernel
theorem dX7_daysToReminder_0 : decode cX7_daysToReminder 0 = .ok (.aload_n 0, 1) := by decide +kernel
theorem dX7_daysToReminder_1 : decode cX7_daysToReminder 1 = .ok (.iload_n 1, 1) := by decide +kernel
theorem dX7_daysToReminder_2 : decode cX7_daysToReminder 2 = .ok (.invokevirtual 181, 3) := by decide +kernel
theorem dX7_daysToReminder_5 : decode cX7_daysToReminder 5 = .ok (.ifCond .eq 5, 3) := by decide +kernel
theorem dX7_daysToReminder_8 : decode cX7_daysToReminder 8 = .ok (.iconst 0, 1) := by decide +kernel
theorem dX7_daysToReminder_9 : decode cX7_daysToReminder 9 = .ok (.ireturn, 1) := by decide +kernel
theorem dX7_daysToReminder_10 : decode cX7_daysToReminder 10 = .ok (.aload_n 0, 1) := by decide +kernel
theorem dX7_daysToReminder_11 : decode cX7_daysToReminder 11 = .ok (.iload_n 1, 1) := by decide +kernel
theorem dX7_daysToReminder_12 : decode cX7_daysToReminder 12 = .ok (.invokevirtual 122, 3) := by decide +kernel
theorem dX7_daysToReminder_15 : decode cX7_daysToReminder 15 = .ok (.ifCond .ne 5, 3) := by decide +kernel
theorem dX7_daysToReminder_18 : decode cX7_daysToReminder 18 = .ok (.iconst (-1), 1) := by decide +kernel
theorem dX7_daysToReminder_19 : decode cX7_daysToReminder 19 = .ok (.ireturn, 1) := by decide +kernel
theorem dX7_daysToReminder_20 : decode cX7_daysToReminder 20 = .ok (.aload_n 0, 1) := by decide +kernel
theorem dX7_daysToReminder_21 : decode cX7_daysToReminder 21 = .ok (.getfield 28, 3) := by decide +kernel
theorem dX7_daysToReminder_24 : decode cX7_daysToReminder 24 = .ok (.iload_n 1, 1) := by decide +kernel
theorem dX7_daysToReminder_25 : decode cX7_daysToReminder 25 = .ok (.iaload, 1) := by decide +kernel
theorem dX7_daysToReminder_26 : decode cX7_daysToReminder 26 = .ok (.aload_n 0, 1) := by decide +kernel
theorem dX7_daysToReminder_27 : decode cX7_daysToReminder 27 = .ok (.getfield 112, 3) := by decide +kernel
theorem dX7_daysToReminder_30 : decode cX7_daysToReminder 30 = .ok (.if_icmp .le 12, 3) := by decide +kernel
theorem dX7_daysToReminder_33 : decode cX7_daysToReminder 33 = .ok (.aload_n 0, 1) := by decide +kernel
theorem dX7_daysToReminder_34 : decode cX7_daysToReminder 34 = .ok (.getfield 28, 3) := by decide +kernel
theorem dX7_daysToReminder_37 : decode cX7_daysToReminder 37 = .ok (.iload_n 1, 1) := by decide +kernel
theorem dX7_daysToReminder_38 : decode cX7_daysToReminder 38 = .ok (.iaload, 1) := by decide +kernel
theorem dX7_daysToReminder_39 : decode cX7_daysToReminder 39 = .ok (.goto 7, 3) := by decide +kernel
theorem dX7_daysToReminder_42 : decode cX7_daysToReminder 42 = .ok (.aload_n 0, 1) := by decide +kernel
theorem dX7_daysToReminder_43 : decode cX7_daysToReminder 43 = .ok (.getfield 112, 3) := by decide +kernel
theorem dX7_daysToReminder_46 : decode cX7_daysToReminder 46 = .ok (.istore_n 2, 1) := by decide +kernel
theorem dX7_daysToReminder_47 : decode cX7_daysToReminder 47 = .ok (.aload_n 0, 1) := by decide +kernel
theorem dX7_daysToReminder_48 : decode cX7_daysToReminder 48 = .ok (.getfield 19, 3) := by decide +kernel
theorem dX7_daysToReminder_51 : decode cX7_daysToReminder 51 = .ok (.aload_n 0, 1) := by decide +kernel
theorem dX7_daysToReminder_52 : decode cX7_daysToReminder 52 = .ok (.getfield 22, 3) := by decide +kernel
theorem dX7_daysToReminder_55 : decode cX7_daysToReminder 55 = .ok (.iload_n 1, 1) := by decide +kernel
theorem dX7_daysToReminder_56 : decode cX7_daysToReminder 56 = .ok (.iaload, 1) := by decide +kernel
theorem dX7_daysToReminder_57 : decode cX7_daysToReminder 57 = .ok (.iaload, 1) := by decide +kernel
theorem dX7_daysToReminder_58 : decode cX7_daysToReminder 58 = .ok (.iload_n 2, 1) := by decide +kernel
theorem dX7_daysToReminder_59 : decode cX7_daysToReminder 59 = .ok (.if_icmp .le 17, 3) := by decide +kernel
theorem dX7_daysToReminder_62 : decode cX7_daysToReminder 62 = .ok (.aload_n 0, 1) := by decide +kernel
theorem dX7_daysToReminder_63 : decode cX7_daysToReminder 63 = .ok (.getfield 19, 3) := by decide +kernel
theorem dX7_daysToReminder_66 : decode cX7_daysToReminder 66 = .ok (.aload_n 0, 1) := by decide +kernel
theorem dX7_daysToReminder_67 : decode cX7_daysToReminder 67 = .ok (.getfield 22, 3) := by decide +kernel
theorem dX7_daysToReminder_70 : decode cX7_daysToReminder 70 = .ok (.iload_n 1, 1) := by decide +kernel
theorem dX7_daysToReminder_71 : decode cX7_daysToReminder 71 = .ok (.iaload, 1) := by decide +kernel
theorem dX7_daysToReminder_72 : decode cX7_daysToReminder 72 = .ok (.iaload, 1) := by decide +kernel
theorem dX7_daysToReminder_73 : decode cX7_daysToReminder 73 = .ok (.goto 4, 3) := by decide +kernel
theorem dX7_daysToReminder_76 : decode cX7_daysToReminder 76 = .ok (.iload_n 2, 1) := by decide +kernel
theorem dX7_daysToReminder_77 : decode cX7_daysToReminder 77 = .ok (.istore_n 2, 1) := by decide +kernel
theorem dX7_daysToReminder_78 : decode cX7_daysToReminder 78 = .ok (.iload_n 2, 1) := by decide +kernel
theorem dX7_daysToReminder_79 : decode cX7_daysToReminder 79 = .ok (.aload_n 0, 1) := by decide +kernel
theorem dX7_daysToReminder_80 : decode cX7_daysToReminder 80 = .ok (.getfield 112, 3) := by decide +kernel
theorem dX7_daysToReminder_83 : decode cX7_daysToReminder 83 = .ok (.isub, 1) := by decide +kernel
theorem dX7_daysToReminder_84 : decode cX7_daysToReminder 84 = .ok (.aload_n 0, 1) := by decide +kernel
theorem dX7_daysToReminder_85 : decode cX7_daysToReminder 85 = .ok (.getfield 45, 3) := by decide +kernel
theorem dX7_daysToReminder_88 : decode cX7_daysToReminder 88 = .ok (.iload_n 1, 1) := by decide +kernel
theorem dX7_daysToReminder_89 : decode cX7_daysToReminder 89 = .ok (.iaload, 1) := by decide +kernel
theorem dX7_daysToReminder_90 : decode cX7_daysToReminder 90 = .ok (.invokestatic 125, 3) := by decide +kernel
theorem dX7_daysToReminder_93 : decode cX7_daysToReminder 93 = .ok (.iadd, 1) := by decide +kernel
theorem dX7_daysToReminder_94 : decode cX7_daysToReminder 94 = .ok (.aload_n 0, 1) := by decide +kernel
theorem dX7_daysToReminder_95 : decode cX7_daysToReminder 95 = .ok (.getfield 48, 3) := by decide +kernel
theorem dX7_daysToReminder_98 : decode cX7_daysToReminder 98 = .ok (.iload_n 1, 1) := by decide +kernel
theorem dX7_daysToReminder_99 : decode cX7_daysToReminder 99 = .ok (.iaload, 1) := by decide +kernel
theorem dX7_daysToReminder_100 : decode cX7_daysToReminder 100 = .ok (.isub, 1) := by decide +kernel
theorem dX7_daysToReminder_101 : decode cX7_daysToReminder 101 = .ok (.ireturn, 1) := by decide +kernel
theorem dX7_invoicesAt_0 : decode cX7_invoicesAt 0 = .ok (.aload_n 0, 1) := by decide +kernel
theorem dX7_invoicesAt_1 : decode cX7_invoicesAt 1 = .ok (.iload_n 1, 1) := by decide +kernel
theorem dX7_invoicesAt_2 : decode cX7_invoicesAt 2 = .ok (.iconst 0, 1) := by decide +kernel
theorem dX7_invoicesAt_3 : decode cX7_invoicesAt 3 = .ok (.iconst 4, 1) := by decide +kernel
theorem dX7_invoicesAt_4 : decode cX7_invoicesAt 4 = .ok (.invokestatic 82, 3) := by decide +kernel
theorem dX7_invoicesAt_7 : decode cX7_invoicesAt 7 = .ok (.ifCond .eq 7, 3) := by decide +kernel
theorem dX7_invoicesAt_10 : decode cX7_invoicesAt 10 = .ok (.iconst 0, 1) := by decide +kernel
theorem dX7_invoicesAt_11 : decode cX7_invoicesAt 11 = .ok (.goto 4, 3) := by decide +kernel
theorem dX7_invoicesAt_14 : decode cX7_invoicesAt 14 = .ok (.iconst 1, 1) := by decide +kernel
theorem dX7_invoicesAt_15 : decode cX7_invoicesAt 15 = .ok (.invokevirtual 96, 3) := by decide +kernel
theorem dX7_invoicesAt_18 : decode cX7_invoicesAt 18 = .ok (.ifCond .eq 5, 3) := by decide +kernel
theorem dX7_invoicesAt_21 : decode cX7_invoicesAt 21 = .ok (.iconst 0, 1) := by decide +kernel
theorem dX7_invoicesAt_22 : decode cX7_invoicesAt 22 = .ok (.ireturn, 1) := by decide +kernel
theorem dX7_invoicesAt_23 : decode cX7_invoicesAt 23 = .ok (.iconst 0, 1) := by decide +kernel
theorem dX7_invoicesAt_24 : decode cX7_invoicesAt 24 = .ok (.istore_n 2, 1) := by decide +kernel
theorem dX7_invoicesAt_25 : decode cX7_invoicesAt 25 = .ok (.iconst 0, 1) := by decide +kernel
theorem dX7_invoicesAt_26 : decode cX7_invoicesAt 26 = .ok (.istore_n 3, 1) := by decide +kernel
theorem dX7_invoicesAt_27 : decode cX7_invoicesAt 27 = .ok (.iload_n 3, 1) := by decide +kernel
theorem dX7_invoicesAt_28 : decode cX7_invoicesAt 28 = .ok (.aload_n 0, 1) := by decide +kernel
theorem dX7_invoicesAt_29 : decode cX7_invoicesAt 29 = .ok (.getfield 86, 3) := by decide +kernel
theorem dX7_invoicesAt_32 : decode cX7_invoicesAt 32 = .ok (.if_icmp .ge 27, 3) := by decide +kernel
theorem dX7_invoicesAt_35 : decode cX7_invoicesAt 35 = .ok (.iload_n 2, 1) := by decide +kernel
theorem dX7_invoicesAt_36 : decode cX7_invoicesAt 36 = .ok (.aload_n 0, 1) := by decide +kernel
theorem dX7_invoicesAt_37 : decode cX7_invoicesAt 37 = .ok (.getfield 45, 3) := by decide +kernel
theorem dX7_invoicesAt_40 : decode cX7_invoicesAt 40 = .ok (.iload_n 3, 1) := by decide +kernel
theorem dX7_invoicesAt_41 : decode cX7_invoicesAt 41 = .ok (.iaload, 1) := by decide +kernel
theorem dX7_invoicesAt_42 : decode cX7_invoicesAt 42 = .ok (.iload_n 1, 1) := by decide +kernel
theorem dX7_invoicesAt_43 : decode cX7_invoicesAt 43 = .ok (.if_icmp .ne 7, 3) := by decide +kernel
theorem dX7_invoicesAt_46 : decode cX7_invoicesAt 46 = .ok (.iconst 1, 1) := by decide +kernel
theorem dX7_invoicesAt_47 : decode cX7_invoicesAt 47 = .ok (.goto 4, 3) := by decide +kernel
theorem dX7_invoicesAt_50 : decode cX7_invoicesAt 50 = .ok (.iconst 0, 1) := by decide +kernel
theorem dX7_invoicesAt_51 : decode cX7_invoicesAt 51 = .ok (.iadd, 1) := by decide +kernel
theorem dX7_invoicesAt_52 : decode cX7_invoicesAt 52 = .ok (.istore_n 2, 1) := by decide +kernel
theorem dX7_invoicesAt_53 : decode cX7_invoicesAt 53 = .ok (.iinc 3 1, 3) := by decide +kernel
theorem dX7_invoicesAt_56 : decode cX7_invoicesAt 56 = .ok (.goto (-29), 3) := by decide +kernel
theorem dX7_invoicesAt_59 : decode cX7_invoicesAt 59 = .ok (.iload_n 2, 1) := by decide +kernel
theorem dX7_invoicesAt_60 : decode cX7_invoicesAt 60 = .ok (.ireturn, 1) := by decide +kernel
theorem dX7_ledgerLines_0 : decode cX7_ledgerLines 0 = .ok (.aload_n 0, 1) := by decide +kernel
theorem dX7_ledgerLines_1 : decode cX7_ledgerLines 1 = .ok (.aload_n 0, 1) := by decide +kernel
theorem dX7_ledgerLines_2 : decode cX7_ledgerLines 2 = .ok (.getfield 134, 3) := by decide +kernel
theorem dX7_ledgerLines_5 : decode cX7_ledgerLines 5 = .ok (.invokevirtual 128, 3) := by decide +kernel
theorem dX7_ledgerLines_8 : decode cX7_ledgerLines 8 = .ok (.ireturn, 1) := by decide +kernel
theorem dX7_noLine_0 : decode cX7_noLine 0 = .ok (.aload_n 0, 1) := by decide +kernel
theorem dX7_noLine_1 : decode cX7_noLine 1 = .ok (.iload_n 1, 1) := by decide +kernel
theorem dX7_noLine_2 : decode cX7_noLine 2 = .ok (.iconst 0, 1) := by decide +kernel
theorem dX7_noLine_3 : decode cX7_noLine 3 = .ok (.aload_n 0, 1) := by decide +kernel
theorem dX7_noLine_4 : decode cX7_noLine 4 = .ok (.getfield 134, 3) := by decide +kernel
theorem dX7_noLine_7 : decode cX7_noLine 7 = .ok (.iconst 1, 1) := by decide +kernel
theorem dX7_noLine_8 : decode cX7_noLine 8 = .ok (.isub, 1) := by decide +kernel
theorem dX7_noLine_9 : decode cX7_noLine 9 = .ok (.invokestatic 82, 3) := by decide +kernel
theorem dX7_noLine_12 : decode cX7_noLine 12 = .ok (.ifCond .eq 7, 3) := by decide +kernel
theorem dX7_noLine_15 : decode cX7_noLine 15 = .ok (.iconst 0, 1) := by decide +kernel
theorem dX7_noLine_16 : decode cX7_noLine 16 = .ok (.goto 4, 3) := by decide +kernel
theorem dX7_noLine_19 : decode cX7_noLine 19 = .ok (.iconst 1, 1) := by decide +kernel
theorem dX7_noLine_20 : decode cX7_noLine 20 = .ok (.invokevirtual 96, 3) := by decide +kernel
theorem dX7_noLine_23 : decode cX7_noLine 23 = .ok (.ireturn, 1) := by decide +kernel
theorem dX7_lineInvoice_0 : decode cX7_lineInvoice 0 = .ok (.aload_n 0, 1) := by decide +kernel
theorem dX7_lineInvoice_1 : decode cX7_lineInvoice 1 = .ok (.iload_n 1, 1) := by decide +kernel
theorem dX7_lineInvoice_2 : decode cX7_lineInvoice 2 = .ok (.invokevirtual 190, 3) := by decide +kernel
theorem dX7_lineInvoice_5 : decode cX7_lineInvoice 5 = .ok (.ifCond .eq 7, 3) := by decide +kernel
theorem dX7_lineInvoice_8 : decode cX7_lineInvoice 8 = .ok (.iconst 0, 1) := by decide +kernel
theorem dX7_lineInvoice_9 : decode cX7_lineInvoice 9 = .ok (.goto 9, 3) := by decide +kernel
theorem dX7_lineInvoice_12 : decode cX7_lineInvoice 12 = .ok (.aload_n 0, 1) := by decide +kernel
theorem dX7_lineInvoice_13 : decode cX7_lineInvoice 13 = .ok (.getfield 63, 3) := by decide +kernel
theorem dX7_lineInvoice_16 : decode cX7_lineInvoice 16 = .ok (.iload_n 1, 1) := by decide +kernel
theorem dX7_lineInvoice_17 : decode cX7_lineInvoice 17 = .ok (.iaload, 1) := by decide +kernel
theorem dX7_lineInvoice_18 : decode cX7_lineInvoice 18 = .ok (.ireturn, 1) := by decide +kernel
theorem dX7_lineAmount_0 : decode cX7_lineAmount 0 = .ok (.aload_n 0, 1) := by decide +kernel
theorem dX7_lineAmount_1 : decode cX7_lineAmount 1 = .ok (.iload_n 1, 1) := by decide +kernel
theorem dX7_lineAmount_2 : decode cX7_lineAmount 2 = .ok (.invokevirtual 190, 3) := by decide +kernel
theorem dX7_lineAmount_5 : decode cX7_lineAmount 5 = .ok (.ifCond .eq 7, 3) := by decide +kernel
theorem dX7_lineAmount_8 : decode cX7_lineAmount 8 = .ok (.iconst 0, 1) := by decide +kernel
theorem dX7_lineAmount_9 : decode cX7_lineAmount 9 = .ok (.goto 9, 3) := by decide +kernel
theorem dX7_lineAmount_12 : decode cX7_lineAmount 12 = .ok (.aload_n 0, 1) := by decide +kernel
theorem dX7_lineAmount_13 : decode cX7_lineAmount 13 = .ok (.getfield 66, 3) := by decide +kernel
theorem dX7_lineAmount_16 : decode cX7_lineAmount 16 = .ok (.iload_n 1, 1) := by decide +kernel
theorem dX7_lineAmount_17 : decode cX7_lineAmount 17 = .ok (.iaload, 1) := by decide +kernel
theorem dX7_lineAmount_18 : decode cX7_lineAmount 18 = .ok (.ireturn, 1) := by decide +kernel
end
section
/-! THE ABSTRACT MACHINE of these rows: a heap by numbers ('abstract addresses'), an address map to the machine's, one table of words for all methods. -/
/-- a method's words: its code, and the table -/
abbrev xws (y : MethodName) (b : ByteArray) (n : Nat) (ret : Option FieldType) : List Cond := Cond.code y b n ret :: xTB
abbrev xwsH (y : MethodName) (b : ByteArray) (n : Nat) (ret : Option FieldType) (hh : List (Nat × Nat × Nat × Nat)) : List Cond := Cond.codeWith y b n ret hh :: xTB
theorem xws_in {y : MethodName} {b : ByteArray} {n : Nat} {ret : Option FieldType} (h : Cond.code y b n ret ∈ xTB) : GoodIn xTB (xws y b n ret) := xtb_in fun w hw => by
  rcases List.mem_cons.mp hw with rfl | hw
  · exact h
  · exact hw
theorem xwsH_in {y : MethodName} {b : ByteArray} {n : Nat} {ret : Option FieldType} {hh : List (Nat × Nat × Nat × Nat)} (h : Cond.codeWith y b n ret hh ∈ xTB) : GoodIn xTB (xwsH y b n ret hh) := xtb_in fun w hw => by
  rcases List.mem_cons.mp hw with rfl | hw
  · exact h
  · exact hw
/-- an abstract heap: at a number, an array (its kind, its length and contents) or an object (its class's place, its fields) -/
abbrev xH : Type := Nat → Option va_E
def x_cv (ad : Nat → Nat) (v : Value) : Value := match v with
  | .ref k => .ref (ad k)
  | .int x => .int x
  | .long x => .long x
  | w => w
def x_ca (ad : Nat → Nat) (A : vp_A) : vp_A := match A with
  | (n, .inr (.inr (.inr (.inr f)))) => (n, .inr (.inr (.inr (.inr (fun j => (f j).map ad)))))
  | (n, .inl f) => (n, .inl f)
  | (n, .inr (.inl f)) => (n, .inr (.inl f))
  | (n, .inr (.inr (.inl f))) => (n, .inr (.inr (.inl f)))
  | (n, .inr (.inr (.inr (.inl f)))) => (n, .inr (.inr (.inr (.inl f))))
def x_ce (dT : Nat → ClassId) (ad : Nat → Nat) (e : va_E) : va_E := match e with
  | .inl q => .inl (dT q.1, x_ca ad q.2)
  | .inr o => .inr (o.1, o.2.map (x_cv ad))
def xcl (ad : Nat → Nat) (L : List (Nat × Value)) : List (Nat × Value) := L.map (fun q => (q.1, x_cv ad q.2))
abbrev xtys (dT : Nat → ClassId) : List (ClassId × FieldType) := [(dT 0, .int), (dT 1, .long), (dT 2, .boolean), (dT 3, .object "java/lang/Object")]
/-- the machine's heap holds the abstract one -/
def xR (N0 : Nat) (D : va_G) (dT : Nat → ClassId) (ad : Nat → Nat) (hp : xH) (H : Heap) : Prop := (∀ k e, hp k = some e → va_at D vwCl (ad k, x_ce dT ad e) H ∧ N0 ≤ ad k) ∧ ∀ j k e f, hp j = some e → hp k = some f → ad j = ad k → j = k
def xK (D : va_G) (dT : Nat → ClassId) (U : State) : Prop := va_K D vwCl (xtys dT) U
def xMonths (j : Nat) : Int32 := match j with
  | 0 => 31 | 1 => 28 | 2 => 31 | 3 => 30 | 4 => 31 | 5 => 30 | 6 => 31 | 7 => 31 | 8 => 30 | 9 => 31 | 10 => 30 | 11 => 31 | _ => 0
def xStr (ad : Nat → Nat) (U : State) : Prop := (vk_R "ReceivablesBook" 264 "out of range" (ad 902) U ∧ vk_R "ReceivablesBook" 271 "the book is full" (ad 903) U ∧ vk_R "ReceivablesBook" 257 "no such number" (ad 904) U ∧ vk_R "ReceivablesBook" 274 "not possible as things stand" (ad 905) U ∧ vk_R "ReceivablesBook" 267 "no cent at all" (ad 906) U) ∧ ∀ w ∈ xTN, va_Nw w U
/-- what static fields hold (numbers from 900 on name the machine's own old cells), and the strings -/
def xZ (N0 : Nat) (dT : Nat → ClassId) (ad : Nat → Nat) (U : State) (H : Heap) : Prop :=
  N0 ≤ H.size ∧
  (va_Z "ReceivablesBook$DayCount" "MONTH_DAYS" "[I" (.ref (ad 900)) (fun q => N0 ≤ q) U H ∧ va_X (ad 900) 12 xMonths U H ∧ ad 900 < N0) ∧
  (va_Z "java/util/ArrayList" "DEFAULTCAPACITY_EMPTY_ELEMENTDATA" "[Ljava/lang/Object;" (.ref (ad 901)) (fun q => N0 ≤ q) U H ∧ (∃ scr : Cell, H[ad 901]? = some scr ∧ U.isArrayOf scr (.object "java/lang/Object") ∧ scr.vm ≠ .unknown ∧ scr.slots.size = 0) ∧ ad 901 < N0) ∧
  (vx_Zq Bundle.tN "UNASSIGNED_STACK" Bundle.steD (fun q => N0 ≤ q) U H ∧ vx_Zq Bundle.tN "SUPPRESSED_SENTINEL" Bundle.listD (fun q => N0 ≤ q) U H) ∧
  xStr ad U ∧ va_Mi "[Ljava/lang/Object;" (ad 907) U ∧ va_AO "java/lang/Object" U ∧ va_Dc U
theorem xStr.warm {ad : Nat → Nat} {u U : State} (hW : u.WarmedH U.vm) (h : xStr ad u) : xStr ad U := ⟨⟨h.1.1.warm hW, h.1.2.1.warm hW, h.1.2.2.1.warm hW, h.1.2.2.2.1.warm hW, h.1.2.2.2.2.warm hW⟩, fun w hw => xtn_warm (List.mem_filter.mp hw).2 hW (h.2 w hw)⟩
theorem xStr.same {ad : Nat → Nat} {u U : State} (hv : U.vm = u.vm) (h : xStr ad u) : xStr ad U := ⟨⟨h.1.1.same hv, h.1.2.1.same hv, h.1.2.2.1.same hv, h.1.2.2.2.1.same hv, h.1.2.2.2.2.same hv⟩, fun w hw => va_Nw.same (xtn_ot (List.mem_filter.mp hw).2) hv.symm (h.2 w hw)⟩
theorem xArr.moved {ty : FieldType} {a : Nat} {u U : State} {H : Heap} (hvm : u.vm.Alike U.vm) (h : ∃ scr : Cell, H[a]? = some scr ∧ u.isArrayOf scr ty ∧ scr.vm ≠ .unknown ∧ scr.slots.size = 0) : ∃ scr : Cell, H[a]? = some scr ∧ U.isArrayOf scr ty ∧ scr.vm ≠ .unknown ∧ scr.slots.size = 0 := by
  obtain ⟨scr, h1, h2, h3⟩ := h
  exact ⟨scr, h1, State.isArrayOf_alike hvm h2, h3⟩
/-- to another state of the same launch, over a heap that has kept all old cells -/
theorem xZ.to {N0 : Nat} {dT : Nat → ClassId} {ad ad' : Nat → Nat} {u U : State} {H H1 : Heap} (h : xZ N0 dT ad u H) (hW : u.vm.Alike U.vm) (hs : xStr ad U) (hq : ∀ q : Nat, q < H.size → ¬ N0 ≤ q → H1[q]? = H[q]?) (hz : H.size ≤ H1.size) (hA : ∀ j, 900 ≤ j → ad' j = ad j) : xZ N0 dT ad' U H1 := by
  obtain ⟨h0, ⟨a1, a2, a3⟩, ⟨b1, b2, b3⟩, ⟨c1, c2⟩, d, m1, m2, m3⟩ := h
  have lt : ∀ q, q < N0 → H1[q]? = H[q]? := fun q z => hq q (Nat.lt_of_lt_of_le z h0) (Nat.not_le.mpr z)
  refine ⟨Nat.le_trans h0 hz, ⟨?_, ?_, ?_⟩, ⟨?_, ?_, ?_⟩, ⟨(c1.moved hW).kept hq, (c2.moved hW).kept hq⟩, ?_, ?_, m2.moved hW, m3.moved hW⟩
  · rw [hA 900 (by decide)]; exact (a1.moved hW).kept hq
  · rw [hA 900 (by decide)]; exact (a2.moved hW).kept (lt _ a3)
  · rw [hA 900 (by decide)]; exact a3
  · rw [hA 901 (by decide)]; exact (b1.moved hW).kept hq
  · rw [hA 901 (by decide)]
    obtain ⟨scr, g1, g2⟩ := xArr.moved hW b2
    exact ⟨scr, by rw [lt _ b3]; exact g1, g2⟩
  · rw [hA 901 (by decide)]; exact b3
  · unfold xStr at hs ⊢
    rw [hA 902 (by decide), hA 903 (by decide), hA 904 (by decide), hA 905 (by decide), hA 906 (by decide)]
    exact hs
  · rw [hA 907 (by decide)]; exact m1.moved hW
/-- a contract's start, its end, its throw -/
def xPc (N0 : Nat) (D : va_G) (dT : Nat → ClassId) (ad : Nat → Nat) (as : List Value) (hp : xH) : Array Value → State → Prop := fun a U =>
  a = (as.map (x_cv ad)).toArray ∧ xR N0 D dT ad hp U.heap ∧ xK D dT U ∧ xZ N0 dT ad U U.heap
def xQc (N0 : Nat) (D : va_G) (dT : Nat → ClassId) (ad0 : Nat → Nat) (nw : Nat → Prop) (post : Option Value → xH → Prop) : Array Value → State → Outcome → State → Prop := fun _ st o t =>
  ∃ (r : Option Value) (hp : xH) (ad : Nat → Nat), o = .returned (r.map (x_cv ad)) ∧ post r hp ∧ (∀ j, ¬ nw j → ad j = ad0 j) ∧ xR N0 D dT ad hp t.heap ∧ va_F (fun q => N0 ≤ q) st t
def xXc (N0 : Nat) (D : va_G) (dT : Nat → ClassId) (ad0 : Nat → Nat) (nw : Nat → Prop) (px : String → xH → Prop) : String → State → State → Prop := fun x st t =>
  ∃ (hp : xH) (ad : Nat → Nat), px x hp ∧ (∀ j, ¬ nw j → ad j = ad0 j) ∧ xR N0 D dT ad hp t.heap ∧ va_F (fun q => N0 ≤ q) st t
abbrev xRm (d mc ms : Nat) : Room := { frames := d, cells := mc, slots := ms, locals := 40 * d }
/-- THE CONTRACT: at launch l, with d frames below, from the arguments as over the abstract heap hp: it returns with post, or throws with px; the numbers nw may be given new cells -/
def xMet (l : Launch) (N0 : Nat) (D : va_G) (dT : Nat → ClassId) (y : MethodName) (b : ByteArray) (n : Nat) (ret : Option FieldType) (d mc ms : Nat) (as : List Value) (hp : xH) (nw : Nat → Prop) (post : Option Value → xH → Prop) (px : String → xH → Prop) : Prop :=
  ∀ ad : Nat → Nat, vx_Met l y (xws y b n ret) (xRm d mc ms) (xPc N0 D dT ad as hp) (xQc N0 D dT ad nw post) (xXc N0 D dT ad nw px) mc ms (fun q => N0 ≤ q)
def xMetH (l : Launch) (N0 : Nat) (D : va_G) (dT : Nat → ClassId) (y : MethodName) (b : ByteArray) (n : Nat) (ret : Option FieldType) (hh : List (Nat × Nat × Nat × Nat)) (d mc ms : Nat) (as : List Value) (hp : xH) (nw : Nat → Prop) (post : Option Value → xH → Prop) (px : String → xH → Prop) : Prop :=
  ∀ ad : Nat → Nat, vx_Met l y (xwsH y b n ret hh) (xRm d mc ms) (xPc N0 D dT ad as hp) (xQc N0 D dT ad nw post) (xXc N0 D dT ad nw px) mc ms (fun q => N0 ≤ q)
theorem xPc_blind {N0 : Nat} {D : va_G} {dT : Nat → ClassId} {ad : Nat → Nat} {as : List Value} {hp : xH} : FrameBlind (xPc N0 D dT ad as hp) := fun a U g mk h =>
  ⟨h.1, h.2.1, va_K.moved (u := U) (U := U.calling g mk a) (Vm.Alike.refl U.vm) h.2.2.1, xZ.to (u := U) (U := U.calling g mk a) h.2.2.2 (Vm.Alike.refl U.vm) (xStr.same (u := U) rfl h.2.2.2.2.2.2.2.1) (fun _ _ _ => rfl) (Nat.le_refl _) (fun _ _ => rfl)⟩
/-- where a walk stands: the machine's names, as one -/
abbrev xEnv : Type := Program × Launch × Env × Room × State × MethodId × Array Value × List Frame × Method × Code × va_G × (Nat → ClassId) × Nat × Nat × (Nat → Prop) × (Nat → Nat) × (State → Prop)
/-- what holds of a walk all the way -/
def aC (E : xEnv) (l9 : Launch) (N9 : Nat) (D9 : va_G) (T9 : Nat → ClassId) (cc : ByteArray) (own : String) (nL9 : Nat) (ret : Option FieldType) (tab : List ExceptionTableEntry) (R9 : Room) (nw9 : Nat → Prop) : Prop := match E with
  | (p, l, _, R, s, m, args, _, meth, c, D, dT, N0, nL, nw, ad0, _) => (p.tables.exec = Jvm.exec ∧ c.code = cc ∧ c.maxLocals = nL ∧ s.vm.findClass own = some m.cls ∧ ∀ w ∈ xTB, w.before args s = true) ∧ meth.sig.returnType = ret ∧ meth.locks = false ∧ c.exceptionTable.toList = tab ∧ xK D dT s ∧ xZ N0 dT ad0 s s.heap ∧ (∀ j, 900 ≤ j → ¬ nw j) ∧
    (l.stackTraces = false ∧ l = l9 ∧ N0 = N9 ∧ D = D9 ∧ dT = T9 ∧ nL = nL9 ∧ R = R9 ∧ nw = nw9)
/-- the walk at pc, with the locals L, the stack S, over the abstract heap hp, k cells and n slots made: it comes to its end -/
def aW (E : xEnv) (k n : Nat) (hp : xH) (pc : Nat) (L : List (Nat × Value)) (S : List Value) : Prop := match E with
  | (p, l, e, R, s, m, args, below, meth, c, D, dT, N0, nL, nw, ad0, Q) => ∀ (ad : Nat → Nat) (H : Heap) (locs : List Loc) (ls : Array Slot), (∀ j, ¬ nw j → ad j = ad0 j) → xR N0 D dT ad hp H → va_S (fun q => N0 ≤ q) s.heap H locs → lv_has ls nL (xcl ad L) → W p l e R s m args below meth c H locs k n Q (F0 m pc ls (S.map (x_cv ad)))
/-- a throw of the class x on its way out of pc -/
def aX (E : xEnv) (k n : Nat) (hp : xH) (pc : Nat) (L : List (Nat × Value)) (x : String) : Prop := match E with
  | (p, l, e, R, s, m, args, below, meth, c, D, dT, N0, nL, nw, ad0, Q) => ∀ (ad : Nat → Nat) (H : Heap) (locs : List Loc) (ls : Array Slot) (S : List Value) (q : Nat) (ce : Cell), (∀ j, ¬ nw j → ad j = ad0 j) → xR N0 D dT ad hp H → va_S (fun q => N0 ≤ q) s.heap H locs → lv_has ls nL (xcl ad L) → H[q]? = some ce → ce.vm = .none → s.vm.findClass x = some ce.cls → vx_W p l e R s m args below meth c H locs k n Q (F0 m pc ls S) q
/-- a value may be returned over a heap -/
def aR (E : xEnv) (r : Option Value) (hp : xH) : Prop := match E with
  | (p, l, e, R, s, m, args, below, meth, c, D, dT, N0, nL, nw, ad0, Q) => ∀ (ad : Nat → Nat) (t : State) (L : List Loc), (∀ j, ¬ nw j → ad j = ad0 j) → xR N0 D dT ad hp t.heap → va_F (fun q => N0 ≤ q) s t → t.status = .running → Ended t below (.returned (r.map (x_cv ad))) → FrameEnd s (.returned (r.map (x_cv ad))) t L R.cells R.slots → (∀ q ∈ L, N0 ≤ q.base) → Q t
def aT (E : xEnv) (x : String) (hp : xH) : Prop := match E with
  | (p, l, e, R, s, m, args, below, meth, c, D, dT, N0, nL, nw, ad0, Q) => ∀ (ad : Nat → Nat) (t : State) (q : Nat), (∀ j, ¬ nw j → ad j = ad0 j) → xR N0 D dT ad hp t.heap → va_F (fun q => N0 ≤ q) s t → t.status = .running → Ended t below (.threw q) → (∃ (ce : Cell) (L : List Loc), t.heap[q]? = some ce ∧ ce.vm = .none ∧ s.vm.findClass x = some ce.cls ∧ s.WarmedH t.vm ∧ s.sameButNew ({ t with vm := s.vm } : State) L R.cells R.slots ∧ ∀ z ∈ L, N0 ≤ z.base) → Q t
end
section
theorem W_mono {p : Program} {l : Launch} {e : Env} {R : Room} {s : State} {m : MethodId} {args : Array Value} {below : List Frame} {meth : Method} {c : Code} {H : Heap} {locs : List Loc} {k n : Nat} {Q Q' : State → Prop} {g : JFrame} (h : ∀ t, Q t → Q' t) (w : W p l e R s m args below meth c H locs k n Q g) : W p l e R s m args below meth c H locs k n Q' g := fun T hT X => by
  obtain ⟨t, a, b⟩ := w T hT X
  exact ⟨t, a, h t b⟩
theorem vx_W_mono {p : Program} {l : Launch} {e : Env} {R : Room} {s : State} {m : MethodId} {args : Array Value} {below : List Frame} {meth : Method} {c : Code} {H : Heap} {locs : List Loc} {k n : Nat} {Q Q' : State → Prop} {g : JFrame} {q : Addr} (h : ∀ t, Q t → Q' t) (w : vx_W p l e R s m args below meth c H locs k n Q g q) : vx_W p l e R s m args below meth c H locs k n Q' g q := fun T hT X => by
  obtain ⟨t, a, b⟩ := w T hT X
  exact ⟨t, a, h t b⟩
/-- the locals, read -/
def xget (L : List (Nat × Value)) (i : Nat) : Option Value := match L with
  | [] => none
  | q :: r => bif Nat.beq q.1 i then some q.2 else xget r i
theorem xget_mem {L : List (Nat × Value)} {i : Nat} {v : Value} (h : xget L i = some v) : (i, v) ∈ L := by
  induction L with
  | nil => cases h
  | cons q r ih =>
    unfold xget at h
    cases hq : Nat.beq q.1 i with
    | true =>
      rw [hq] at h
      cases Nat.eq_of_beq_eq_true hq
      cases h
      exact List.mem_cons_self
    | false =>
      rw [hq] at h
      exact List.mem_cons_of_mem _ (ih h)
theorem x_cv_cat (ad : Nat → Nat) (v : Value) : (x_cv ad v).category = v.category := by cases v <;> rfl
theorem xl {ls : Array Slot} {nL i : Nat} {ad : Nat → Nat} {L : List (Nat × Value)} {v : Value} (hl : lv_has ls nL (xcl ad L)) (h : xget L i = some v) : ls[i]? = some (.val (x_cv ad v)) :=
  hl.2.2 (i, x_cv ad v) (List.mem_map.mpr ⟨(i, v), xget_mem h, rfl⟩)
theorem xbeq (a b : Nat) : (a == b) = Nat.beq a b := by rw [Bool.eq_iff_iff, beq_iff_eq, Nat.beq_eq]
/-- the locals, written: a value of one word -/
def xset (L : List (Nat × Value)) (i : Nat) (v : Value) : List (Nat × Value) := (i, v) :: L.filter (fun q => !(Nat.beq q.1 i) && !(Nat.beq (q.1 + 1) i && Nat.beq q.2.category 2))
def xset2 (L : List (Nat × Value)) (i : Nat) (v : Value) : List (Nat × Value) := (i, v) :: L.filter (fun q => !(Nat.beq q.1 i) && (!(Nat.beq q.1 (i + 1)) && !(Nat.beq (q.1 + 1) i && Nat.beq q.2.category 2)))
theorem xset_cl (ad : Nat → Nat) (L : List (Nat × Value)) (i : Nat) (v : Value) : (i, x_cv ad v) :: (xcl ad L).filter (fun q => !(q.1 == i) && !(q.1 + 1 == i && q.2.category == 2)) = xcl ad (xset L i v) := by
  unfold xcl xset
  rw [List.map_cons, List.filter_map]
  congr 2
  refine List.filter_congr fun q _ => ?_
  simp only [Function.comp, xbeq, x_cv_cat]
theorem xset2_cl (ad : Nat → Nat) (L : List (Nat × Value)) (i : Nat) (v : Value) : (i, x_cv ad v) :: (xcl ad L).filter (fun q => !(q.1 == i) && (!(q.1 == i + 1) && !(q.1 + 1 == i && q.2.category == 2))) = xcl ad (xset2 L i v) := by
  unfold xcl xset2
  rw [List.map_cons, List.filter_map]
  congr 2
  refine List.filter_congr fun q _ => ?_
  simp only [Function.comp, xbeq, x_cv_cat]
/-- fewer locals, in any order -/
def xsub (L' L : List (Nat × Value)) : Prop := ∀ q ∈ L', xget L q.1 = some q.2
theorem xsub_nil {L : List (Nat × Value)} : xsub [] L := fun _ h => by cases h
theorem xsub_cons {L' L : List (Nat × Value)} {i : Nat} {v : Value} (h : xget L i = some v) (h' : xsub L' L) : xsub ((i, v) :: L') L := fun q hq => by
  rcases List.mem_cons.mp hq with rfl | hq
  · exact h
  · exact h' q hq
section XROWS
variable {E : xEnv} {l9 : Launch} {N9 : Nat} {D9 : va_G} {T9 : Nat → ClassId} {cc : ByteArray} {own : String} {nL9 : Nat} {ret : Option FieldType} {tab : List ExceptionTableEntry} {R9 : Room} {nw9 : Nat → Prop} {k n : Nat} {hp : xH} {pc : Nat} {L : List (Nat × Value)} {S : List Value}
theorem a_loc (L' : List (Nat × Value)) (h : xsub L' L) (kk : aW E k n hp pc L' S) : aW E k n hp pc L S := by
  obtain ⟨p, l, e, R, s, m, args, below, meth, c, D, dT, N0, nL, nw, ad0, Q⟩ := E
  intro ad H locs ls ha hR hS hl
  refine kk ad H locs ls ha hR hS ⟨hl.1, hl.2.1, fun q hq => ?_⟩
  obtain ⟨z, hz, rfl⟩ := List.mem_map.mp hq
  exact xl hl (h z hz)
theorem a_hp {hp' : xH} (h : hp = hp') (kk : aW E k n hp' pc L S) : aW E k n hp pc L S := h ▸ kk
theorem a_st {S' : List Value} (h : S = S') (kk : aW E k n hp pc L S') : aW E k n hp pc L S := h ▸ kk
theorem a_wd (k' n' : Nat) (h1 : k ≤ k') (h2 : n ≤ n') (kk : aW E k' n' hp pc L S) : aW E k n hp pc L S := by
  obtain ⟨p, l, e, R, s, m, args, below, meth, c, D, dT, N0, nL, nw, ad0, Q⟩ := E
  intro ad H locs ls ha hR hS hl
  exact W.widen h1 h2 (kk ad H locs ls ha hR hS hl)
theorem a_iconst (C : aC E l9 N9 D9 T9 cc own nL9 ret tab R9 nw9) {z : Int} {v : Int32} (hd : decode cc pc = .ok (.iconst z, 1)) (hv : Int32.ofInt z = v) (kk : aW E k n hp (pc + 1) L (.int v :: S)) : aW E k n hp pc L S := by
  obtain ⟨p, l, e, R, s, m, args, below, meth, c, D, dT, N0, nL, nw, ad0, Q⟩ := E
  obtain ⟨⟨hx, hb, hml, hown, hts⟩, hr, hlk, htab, hK, hZ, hnw, hst, rfl, rfl, rfl, rfl, rfl, rfl, rfl⟩ := C
  intro ad H locs ls ha hR hS hl
  exact lv_iconst hx hb hd hv (kk ad H locs ls ha hR hS hl)
theorem a_bipush (C : aC E l9 N9 D9 T9 cc own nL9 ret tab R9 nw9) {z : Int} {v : Int32} (hd : decode cc pc = .ok (.bipush z, 2)) (hv : (Int8.ofInt z).toInt32 = v) (kk : aW E k n hp (pc + 2) L (.int v :: S)) : aW E k n hp pc L S := by
  obtain ⟨p, l, e, R, s, m, args, below, meth, c, D, dT, N0, nL, nw, ad0, Q⟩ := E
  obtain ⟨⟨hx, hb, hml, hown, hts⟩, hr, hlk, htab, hK, hZ, hnw, hst, rfl, rfl, rfl, rfl, rfl, rfl, rfl⟩ := C
  intro ad H locs ls ha hR hS hl
  exact lv_bipush hx hb hd hv (kk ad H locs ls ha hR hS hl)
theorem a_sipush (C : aC E l9 N9 D9 T9 cc own nL9 ret tab R9 nw9) {z : Int} {v : Int32} (hd : decode cc pc = .ok (.sipush z, 3)) (hv : (Int16.ofInt z).toInt32 = v) (kk : aW E k n hp (pc + 3) L (.int v :: S)) : aW E k n hp pc L S := by
  obtain ⟨p, l, e, R, s, m, args, below, meth, c, D, dT, N0, nL, nw, ad0, Q⟩ := E
  obtain ⟨⟨hx, hb, hml, hown, hts⟩, hr, hlk, htab, hK, hZ, hnw, hst, rfl, rfl, rfl, rfl, rfl, rfl, rfl⟩ := C
  intro ad H locs ls ha hR hS hl
  exact lv_sipush hx hb hd hv (kk ad H locs ls ha hR hS hl)
theorem a_lconst (C : aC E l9 N9 D9 T9 cc own nL9 ret tab R9 nw9) {z : Fin 2} {v : Int64} (hd : decode cc pc = .ok (.lconst z, 1)) (hv : Int64.ofNat z = v) (kk : aW E k n hp (pc + 1) L (.long v :: S)) : aW E k n hp pc L S := by
  obtain ⟨p, l, e, R, s, m, args, below, meth, c, D, dT, N0, nL, nw, ad0, Q⟩ := E
  obtain ⟨⟨hx, hb, hml, hown, hts⟩, hr, hlk, htab, hK, hZ, hnw, hst, rfl, rfl, rfl, rfl, rfl, rfl, rfl⟩ := C
  intro ad H locs ls ha hR hS hl
  exact lv_lconst hx hb hd hv (kk ad H locs ls ha hR hS hl)
theorem a_iload_n (C : aC E l9 N9 D9 T9 cc own nL9 ret tab R9 nw9) {z : Fin 4} {i : Nat} {v : Int32} (hd : decode cc pc = .ok (.iload_n z, 1)) (hi : (z : Nat) = i) (hv : xget L i = some (.int v)) (kk : aW E k n hp (pc + 1) L (.int v :: S)) : aW E k n hp pc L S := by
  obtain ⟨p, l, e, R, s, m, args, below, meth, c, D, dT, N0, nL, nw, ad0, Q⟩ := E
  obtain ⟨⟨hx, hb, hml, hown, hts⟩, hr, hlk, htab, hK, hZ, hnw, hst, rfl, rfl, rfl, rfl, rfl, rfl, rfl⟩ := C
  intro ad H locs ls ha hR hS hl
  exact lv_iload_n hx hb hd hi (xl hl hv) (kk ad H locs ls ha hR hS hl)
theorem a_iload (C : aC E l9 N9 D9 T9 cc own nL9 ret tab R9 nw9) {i : Nat} {v : Int32} (hd : decode cc pc = .ok (.iload i, 2)) (hv : xget L i = some (.int v)) (kk : aW E k n hp (pc + 2) L (.int v :: S)) : aW E k n hp pc L S := by
  obtain ⟨p, l, e, R, s, m, args, below, meth, c, D, dT, N0, nL, nw, ad0, Q⟩ := E
  obtain ⟨⟨hx, hb, hml, hown, hts⟩, hr, hlk, htab, hK, hZ, hnw, hst, rfl, rfl, rfl, rfl, rfl, rfl, rfl⟩ := C
  intro ad H locs ls ha hR hS hl
  exact lv_iload hx hb hd (xl hl hv) (kk ad H locs ls ha hR hS hl)
theorem a_lload_n (C : aC E l9 N9 D9 T9 cc own nL9 ret tab R9 nw9) {z : Fin 4} {i : Nat} {v : Int64} (hd : decode cc pc = .ok (.lload_n z, 1)) (hi : (z : Nat) = i) (hv : xget L i = some (.long v)) (kk : aW E k n hp (pc + 1) L (.long v :: S)) : aW E k n hp pc L S := by
  obtain ⟨p, l, e, R, s, m, args, below, meth, c, D, dT, N0, nL, nw, ad0, Q⟩ := E
  obtain ⟨⟨hx, hb, hml, hown, hts⟩, hr, hlk, htab, hK, hZ, hnw, hst, rfl, rfl, rfl, rfl, rfl, rfl, rfl⟩ := C
  intro ad H locs ls ha hR hS hl
  exact lv_lload_n hx hb hd hi (xl hl hv) (kk ad H locs ls ha hR hS hl)
theorem a_lload (C : aC E l9 N9 D9 T9 cc own nL9 ret tab R9 nw9) {i : Nat} {v : Int64} (hd : decode cc pc = .ok (.lload i, 2)) (hv : xget L i = some (.long v)) (kk : aW E k n hp (pc + 2) L (.long v :: S)) : aW E k n hp pc L S := by
  obtain ⟨p, l, e, R, s, m, args, below, meth, c, D, dT, N0, nL, nw, ad0, Q⟩ := E
  obtain ⟨⟨hx, hb, hml, hown, hts⟩, hr, hlk, htab, hK, hZ, hnw, hst, rfl, rfl, rfl, rfl, rfl, rfl, rfl⟩ := C
  intro ad H locs ls ha hR hS hl
  exact lv_lload hx hb hd (xl hl hv) (kk ad H locs ls ha hR hS hl)
theorem a_aload_n (C : aC E l9 N9 D9 T9 cc own nL9 ret tab R9 nw9) {z : Fin 4} {i : Nat} {v : Nat} (hd : decode cc pc = .ok (.aload_n z, 1)) (hi : (z : Nat) = i) (hv : xget L i = some (.ref v)) (kk : aW E k n hp (pc + 1) L (.ref v :: S)) : aW E k n hp pc L S := by
  obtain ⟨p, l, e, R, s, m, args, below, meth, c, D, dT, N0, nL, nw, ad0, Q⟩ := E
  obtain ⟨⟨hx, hb, hml, hown, hts⟩, hr, hlk, htab, hK, hZ, hnw, hst, rfl, rfl, rfl, rfl, rfl, rfl, rfl⟩ := C
  intro ad H locs ls ha hR hS hl
  exact lv_aload_n hx hb hd hi (xl hl hv) (kk ad H locs ls ha hR hS hl)
theorem a_aload (C : aC E l9 N9 D9 T9 cc own nL9 ret tab R9 nw9) {i : Nat} {v : Nat} (hd : decode cc pc = .ok (.aload i, 2)) (hv : xget L i = some (.ref v)) (kk : aW E k n hp (pc + 2) L (.ref v :: S)) : aW E k n hp pc L S := by
  obtain ⟨p, l, e, R, s, m, args, below, meth, c, D, dT, N0, nL, nw, ad0, Q⟩ := E
  obtain ⟨⟨hx, hb, hml, hown, hts⟩, hr, hlk, htab, hK, hZ, hnw, hst, rfl, rfl, rfl, rfl, rfl, rfl, rfl⟩ := C
  intro ad H locs ls ha hR hS hl
  exact lv_aload hx hb hd (xl hl hv) (kk ad H locs ls ha hR hS hl)
theorem a_istore_n (C : aC E l9 N9 D9 T9 cc own nL9 ret tab R9 nw9) {z : Fin 4} {i : Nat} {v : Int32} (hd : decode cc pc = .ok (.istore_n z, 1)) (hi : (z : Nat) = i) (hn : i < nL9) (kk : aW E k n hp (pc + 1) (xset L i (.int v)) S) : aW E k n hp pc L (.int v :: S) := by
  obtain ⟨p, l, e, R, s, m, args, below, meth, c, D, dT, N0, nL, nw, ad0, Q⟩ := E
  obtain ⟨⟨hx, hb, hml, hown, hts⟩, hr, hlk, htab, hK, hZ, hnw, hst, rfl, rfl, rfl, rfl, rfl, rfl, rfl⟩ := C
  intro ad H locs ls ha hR hS hl
  exact lv_istore_n hx hb hd hi hl hn (xset_cl ad L _ (.int v)) (fun ls hl => kk ad H locs ls ha hR hS hl)
theorem a_istore (C : aC E l9 N9 D9 T9 cc own nL9 ret tab R9 nw9) {i : Nat} {v : Int32} (hd : decode cc pc = .ok (.istore i, 2)) (hn : i < nL9) (kk : aW E k n hp (pc + 2) (xset L i (.int v)) S) : aW E k n hp pc L (.int v :: S) := by
  obtain ⟨p, l, e, R, s, m, args, below, meth, c, D, dT, N0, nL, nw, ad0, Q⟩ := E
  obtain ⟨⟨hx, hb, hml, hown, hts⟩, hr, hlk, htab, hK, hZ, hnw, hst, rfl, rfl, rfl, rfl, rfl, rfl, rfl⟩ := C
  intro ad H locs ls ha hR hS hl
  exact lv_istore hx hb hd hl hn (xset_cl ad L _ (.int v)) (fun ls hl => kk ad H locs ls ha hR hS hl)
theorem a_lstore_n (C : aC E l9 N9 D9 T9 cc own nL9 ret tab R9 nw9) {z : Fin 4} {i : Nat} {v : Int64} (hd : decode cc pc = .ok (.lstore_n z, 1)) (hi : (z : Nat) = i) (hn : i + 1 < nL9) (kk : aW E k n hp (pc + 1) (xset2 L i (.long v)) S) : aW E k n hp pc L (.long v :: S) := by
  obtain ⟨p, l, e, R, s, m, args, below, meth, c, D, dT, N0, nL, nw, ad0, Q⟩ := E
  obtain ⟨⟨hx, hb, hml, hown, hts⟩, hr, hlk, htab, hK, hZ, hnw, hst, rfl, rfl, rfl, rfl, rfl, rfl, rfl⟩ := C
  intro ad H locs ls ha hR hS hl
  exact lv_lstore_n hx hb hd hi hl hn (xset2_cl ad L _ (.long v)) (fun ls hl => kk ad H locs ls ha hR hS hl)
theorem a_lstore (C : aC E l9 N9 D9 T9 cc own nL9 ret tab R9 nw9) {i : Nat} {v : Int64} (hd : decode cc pc = .ok (.lstore i, 2)) (hn : i + 1 < nL9) (kk : aW E k n hp (pc + 2) (xset2 L i (.long v)) S) : aW E k n hp pc L (.long v :: S) := by
  obtain ⟨p, l, e, R, s, m, args, below, meth, c, D, dT, N0, nL, nw, ad0, Q⟩ := E
  obtain ⟨⟨hx, hb, hml, hown, hts⟩, hr, hlk, htab, hK, hZ, hnw, hst, rfl, rfl, rfl, rfl, rfl, rfl, rfl⟩ := C
  intro ad H locs ls ha hR hS hl
  exact lv_lstore hx hb hd hl hn (xset2_cl ad L _ (.long v)) (fun ls hl => kk ad H locs ls ha hR hS hl)
theorem a_astore_n (C : aC E l9 N9 D9 T9 cc own nL9 ret tab R9 nw9) {z : Fin 4} {i : Nat} {v : Nat} (hd : decode cc pc = .ok (.astore_n z, 1)) (hi : (z : Nat) = i) (hn : i < nL9) (kk : aW E k n hp (pc + 1) (xset L i (.ref v)) S) : aW E k n hp pc L (.ref v :: S) := by
  obtain ⟨p, l, e, R, s, m, args, below, meth, c, D, dT, N0, nL, nw, ad0, Q⟩ := E
  obtain ⟨⟨hx, hb, hml, hown, hts⟩, hr, hlk, htab, hK, hZ, hnw, hst, rfl, rfl, rfl, rfl, rfl, rfl, rfl⟩ := C
  intro ad H locs ls ha hR hS hl
  exact lv_astore_n hx hb hd hi hl hn (xset_cl ad L _ (.ref v)) (fun ls hl => kk ad H locs ls ha hR hS hl)
theorem a_astore (C : aC E l9 N9 D9 T9 cc own nL9 ret tab R9 nw9) {i : Nat} {v : Nat} (hd : decode cc pc = .ok (.astore i, 2)) (hn : i < nL9) (kk : aW E k n hp (pc + 2) (xset L i (.ref v)) S) : aW E k n hp pc L (.ref v :: S) := by
  obtain ⟨p, l, e, R, s, m, args, below, meth, c, D, dT, N0, nL, nw, ad0, Q⟩ := E
  obtain ⟨⟨hx, hb, hml, hown, hts⟩, hr, hlk, htab, hK, hZ, hnw, hst, rfl, rfl, rfl, rfl, rfl, rfl, rfl⟩ := C
  intro ad H locs ls ha hR hS hl
  exact lv_astore hx hb hd hl hn (xset_cl ad L _ (.ref v)) (fun ls hl => kk ad H locs ls ha hR hS hl)
theorem a_iinc (C : aC E l9 N9 D9 T9 cc own nL9 ret tab R9 nw9) {i : Nat} {z : Int} {x v : Int32} (hd : decode cc pc = .ok (.iinc i z, 3)) (hv : xget L i = some (.int x)) (hw : x + Int32.ofInt z = v) (hn : i < nL9) (kk : aW E k n hp (pc + 3) (xset L i (.int v)) S) : aW E k n hp pc L S := by
  obtain ⟨p, l, e, R, s, m, args, below, meth, c, D, dT, N0, nL, nw, ad0, Q⟩ := E
  obtain ⟨⟨hx, hb, hml, hown, hts⟩, hr, hlk, htab, hK, hZ, hnw, hst, rfl, rfl, rfl, rfl, rfl, rfl, rfl⟩ := C
  intro ad H locs ls ha hR hS hl
  obtain ⟨j, hj⟩ := List.getElem?_of_mem (List.mem_map.mpr ⟨(i, .int x), xget_mem hv, rfl⟩ : (i, x_cv ad (.int x)) ∈ xcl ad L)
  exact lv_iinc hx hb hd hl hj hw hn (xset_cl ad L _ (.int v)) (fun ls hl => kk ad H locs ls ha hR hS hl)
theorem a_iadd (C : aC E l9 N9 D9 T9 cc own nL9 ret tab R9 nw9) {x y : Int32} (hd : decode cc pc = .ok (.iadd, 1))  (kk : aW E k n hp (pc + 1) L (.int (x + y) :: S)) : aW E k n hp pc L (.int y :: .int x :: S) := by
  obtain ⟨p, l, e, R, s, m, args, below, meth, c, D, dT, N0, nL, nw, ad0, Q⟩ := E
  obtain ⟨⟨hx, hb, hml, hown, hts⟩, hr, hlk, htab, hK, hZ, hnw, hst, rfl, rfl, rfl, rfl, rfl, rfl, rfl⟩ := C
  intro ad H locs ls ha hR hS hl
  exact lv_iadd hx hb hd  (kk ad H locs ls ha hR hS hl)
theorem a_isub (C : aC E l9 N9 D9 T9 cc own nL9 ret tab R9 nw9) {x y : Int32} (hd : decode cc pc = .ok (.isub, 1))  (kk : aW E k n hp (pc + 1) L (.int (x - y) :: S)) : aW E k n hp pc L (.int y :: .int x :: S) := by
  obtain ⟨p, l, e, R, s, m, args, below, meth, c, D, dT, N0, nL, nw, ad0, Q⟩ := E
  obtain ⟨⟨hx, hb, hml, hown, hts⟩, hr, hlk, htab, hK, hZ, hnw, hst, rfl, rfl, rfl, rfl, rfl, rfl, rfl⟩ := C
  intro ad H locs ls ha hR hS hl
  exact lv_isub hx hb hd  (kk ad H locs ls ha hR hS hl)
theorem a_imul (C : aC E l9 N9 D9 T9 cc own nL9 ret tab R9 nw9) {x y : Int32} (hd : decode cc pc = .ok (.imul, 1))  (kk : aW E k n hp (pc + 1) L (.int (x * y) :: S)) : aW E k n hp pc L (.int y :: .int x :: S) := by
  obtain ⟨p, l, e, R, s, m, args, below, meth, c, D, dT, N0, nL, nw, ad0, Q⟩ := E
  obtain ⟨⟨hx, hb, hml, hown, hts⟩, hr, hlk, htab, hK, hZ, hnw, hst, rfl, rfl, rfl, rfl, rfl, rfl, rfl⟩ := C
  intro ad H locs ls ha hR hS hl
  exact lv_imul hx hb hd  (kk ad H locs ls ha hR hS hl)
theorem a_iand (C : aC E l9 N9 D9 T9 cc own nL9 ret tab R9 nw9) {x y : Int32} (hd : decode cc pc = .ok (.iand, 1))  (kk : aW E k n hp (pc + 1) L (.int (x &&& y) :: S)) : aW E k n hp pc L (.int y :: .int x :: S) := by
  obtain ⟨p, l, e, R, s, m, args, below, meth, c, D, dT, N0, nL, nw, ad0, Q⟩ := E
  obtain ⟨⟨hx, hb, hml, hown, hts⟩, hr, hlk, htab, hK, hZ, hnw, hst, rfl, rfl, rfl, rfl, rfl, rfl, rfl⟩ := C
  intro ad H locs ls ha hR hS hl
  exact lv_iand hx hb hd  (kk ad H locs ls ha hR hS hl)
theorem a_ladd (C : aC E l9 N9 D9 T9 cc own nL9 ret tab R9 nw9) {x y : Int64} (hd : decode cc pc = .ok (.ladd, 1))  (kk : aW E k n hp (pc + 1) L (.long (x + y) :: S)) : aW E k n hp pc L (.long y :: .long x :: S) := by
  obtain ⟨p, l, e, R, s, m, args, below, meth, c, D, dT, N0, nL, nw, ad0, Q⟩ := E
  obtain ⟨⟨hx, hb, hml, hown, hts⟩, hr, hlk, htab, hK, hZ, hnw, hst, rfl, rfl, rfl, rfl, rfl, rfl, rfl⟩ := C
  intro ad H locs ls ha hR hS hl
  exact lv_ladd hx hb hd  (kk ad H locs ls ha hR hS hl)
theorem a_lsub (C : aC E l9 N9 D9 T9 cc own nL9 ret tab R9 nw9) {x y : Int64} (hd : decode cc pc = .ok (.lsub, 1))  (kk : aW E k n hp (pc + 1) L (.long (x - y) :: S)) : aW E k n hp pc L (.long y :: .long x :: S) := by
  obtain ⟨p, l, e, R, s, m, args, below, meth, c, D, dT, N0, nL, nw, ad0, Q⟩ := E
  obtain ⟨⟨hx, hb, hml, hown, hts⟩, hr, hlk, htab, hK, hZ, hnw, hst, rfl, rfl, rfl, rfl, rfl, rfl, rfl⟩ := C
  intro ad H locs ls ha hR hS hl
  exact lv_lsub hx hb hd  (kk ad H locs ls ha hR hS hl)
theorem a_lmul (C : aC E l9 N9 D9 T9 cc own nL9 ret tab R9 nw9) {x y : Int64} (hd : decode cc pc = .ok (.lmul, 1))  (kk : aW E k n hp (pc + 1) L (.long (x * y) :: S)) : aW E k n hp pc L (.long y :: .long x :: S) := by
  obtain ⟨p, l, e, R, s, m, args, below, meth, c, D, dT, N0, nL, nw, ad0, Q⟩ := E
  obtain ⟨⟨hx, hb, hml, hown, hts⟩, hr, hlk, htab, hK, hZ, hnw, hst, rfl, rfl, rfl, rfl, rfl, rfl, rfl⟩ := C
  intro ad H locs ls ha hR hS hl
  exact lv_lmul hx hb hd  (kk ad H locs ls ha hR hS hl)
theorem a_idiv (C : aC E l9 N9 D9 T9 cc own nL9 ret tab R9 nw9) {x y : Int32} (hd : decode cc pc = .ok (.idiv, 1)) (hne : ¬ y = 0) (kk : aW E k n hp (pc + 1) L (.int (x / y) :: S)) : aW E k n hp pc L (.int y :: .int x :: S) := by
  obtain ⟨p, l, e, R, s, m, args, below, meth, c, D, dT, N0, nL, nw, ad0, Q⟩ := E
  obtain ⟨⟨hx, hb, hml, hown, hts⟩, hr, hlk, htab, hK, hZ, hnw, hst, rfl, rfl, rfl, rfl, rfl, rfl, rfl⟩ := C
  intro ad H locs ls ha hR hS hl
  exact lv_idiv hx hb hd hne (kk ad H locs ls ha hR hS hl)
theorem a_ldiv (C : aC E l9 N9 D9 T9 cc own nL9 ret tab R9 nw9) {x y : Int64} (hd : decode cc pc = .ok (.ldiv, 1)) (hne : ¬ y = 0) (kk : aW E k n hp (pc + 1) L (.long (x / y) :: S)) : aW E k n hp pc L (.long y :: .long x :: S) := by
  obtain ⟨p, l, e, R, s, m, args, below, meth, c, D, dT, N0, nL, nw, ad0, Q⟩ := E
  obtain ⟨⟨hx, hb, hml, hown, hts⟩, hr, hlk, htab, hK, hZ, hnw, hst, rfl, rfl, rfl, rfl, rfl, rfl, rfl⟩ := C
  intro ad H locs ls ha hR hS hl
  exact lv_ldiv hx hb hd hne (kk ad H locs ls ha hR hS hl)
theorem a_ineg (C : aC E l9 N9 D9 T9 cc own nL9 ret tab R9 nw9) {x : Int32} (hd : decode cc pc = .ok (.ineg, 1))  (kk : aW E k n hp (pc + 1) L (.int (-x) :: S)) : aW E k n hp pc L (.int x :: S) := by
  obtain ⟨p, l, e, R, s, m, args, below, meth, c, D, dT, N0, nL, nw, ad0, Q⟩ := E
  obtain ⟨⟨hx, hb, hml, hown, hts⟩, hr, hlk, htab, hK, hZ, hnw, hst, rfl, rfl, rfl, rfl, rfl, rfl, rfl⟩ := C
  intro ad H locs ls ha hR hS hl
  exact lv_ineg hx hb hd  (kk ad H locs ls ha hR hS hl)
theorem a_ishr (C : aC E l9 N9 D9 T9 cc own nL9 ret tab R9 nw9) {x y : Int32} (hd : decode cc pc = .ok (.ishr, 1))  (kk : aW E k n hp (pc + 1) L (.int (x >>> (y &&& 31)) :: S)) : aW E k n hp pc L (.int y :: .int x :: S) := by
  obtain ⟨p, l, e, R, s, m, args, below, meth, c, D, dT, N0, nL, nw, ad0, Q⟩ := E
  obtain ⟨⟨hx, hb, hml, hown, hts⟩, hr, hlk, htab, hK, hZ, hnw, hst, rfl, rfl, rfl, rfl, rfl, rfl, rfl⟩ := C
  intro ad H locs ls ha hR hS hl
  exact lv_ishr hx hb hd  (kk ad H locs ls ha hR hS hl)
theorem a_i2l (C : aC E l9 N9 D9 T9 cc own nL9 ret tab R9 nw9) {x : Int32} (hd : decode cc pc = .ok (.i2l, 1))  (kk : aW E k n hp (pc + 1) L (.long x.toInt64 :: S)) : aW E k n hp pc L (.int x :: S) := by
  obtain ⟨p, l, e, R, s, m, args, below, meth, c, D, dT, N0, nL, nw, ad0, Q⟩ := E
  obtain ⟨⟨hx, hb, hml, hown, hts⟩, hr, hlk, htab, hK, hZ, hnw, hst, rfl, rfl, rfl, rfl, rfl, rfl, rfl⟩ := C
  intro ad H locs ls ha hR hS hl
  exact lv_i2l hx hb hd rfl (kk ad H locs ls ha hR hS hl)
theorem a_l2i (C : aC E l9 N9 D9 T9 cc own nL9 ret tab R9 nw9) {x : Int64} (hd : decode cc pc = .ok (.l2i, 1))  (kk : aW E k n hp (pc + 1) L (.int x.toInt32 :: S)) : aW E k n hp pc L (.long x :: S) := by
  obtain ⟨p, l, e, R, s, m, args, below, meth, c, D, dT, N0, nL, nw, ad0, Q⟩ := E
  obtain ⟨⟨hx, hb, hml, hown, hts⟩, hr, hlk, htab, hK, hZ, hnw, hst, rfl, rfl, rfl, rfl, rfl, rfl, rfl⟩ := C
  intro ad H locs ls ha hR hS hl
  exact lv_l2i hx hb hd rfl (kk ad H locs ls ha hR hS hl)
theorem a_lrem (C : aC E l9 N9 D9 T9 cc own nL9 ret tab R9 nw9) {x y : Int64} (hd : decode cc pc = .ok (.lrem, 1)) (hne : ¬ y = 0) (kk : aW E k n hp (pc + 1) L (.long (x - x / y * y) :: S)) : aW E k n hp pc L (.long y :: .long x :: S) := by
  obtain ⟨p, l, e, R, s, m, args, below, meth, c, D, dT, N0, nL, nw, ad0, Q⟩ := E
  obtain ⟨⟨hx, hb, hml, hown, hts⟩, hr, hlk, htab, hK, hZ, hnw, hst, rfl, rfl, rfl, rfl, rfl, rfl, rfl⟩ := C
  intro ad H locs ls ha hR hS hl
  exact lv_lrem hx hb hd hne (kk ad H locs ls ha hR hS hl)
theorem a_lcmp (C : aC E l9 N9 D9 T9 cc own nL9 ret tab R9 nw9) {x y : Int64} (hd : decode cc pc = .ok (.lcmp, 1)) (kk : aW E k n hp (pc + 1) L (.int (lg_cmp x y) :: S)) : aW E k n hp pc L (.long y :: .long x :: S) := by
  obtain ⟨p, l, e, R, s, m, args, below, meth, c, D, dT, N0, nL, nw, ad0, Q⟩ := E
  obtain ⟨⟨hx, hb, hml, hown, hts⟩, hr, hlk, htab, hK, hZ, hnw, hst, rfl, rfl, rfl, rfl, rfl, rfl, rfl⟩ := C
  intro ad H locs ls ha hR hS hl
  exact W.lcmp hx hb hd (kk ad H locs ls ha hR hS hl)
theorem a_dup (C : aC E l9 N9 D9 T9 cc own nL9 ret tab R9 nw9) {v : Value} (hd : decode cc pc = .ok (.dup, 1)) (hv : v.category = 1) (kk : aW E k n hp (pc + 1) L (v :: v :: S)) : aW E k n hp pc L (v :: S) := by
  obtain ⟨p, l, e, R, s, m, args, below, meth, c, D, dT, N0, nL, nw, ad0, Q⟩ := E
  obtain ⟨⟨hx, hb, hml, hown, hts⟩, hr, hlk, htab, hK, hZ, hnw, hst, rfl, rfl, rfl, rfl, rfl, rfl, rfl⟩ := C
  intro ad H locs ls ha hR hS hl
  exact lv_dup hx hb hd ((x_cv_cat ad v).trans hv) (kk ad H locs ls ha hR hS hl)
theorem a_pop (C : aC E l9 N9 D9 T9 cc own nL9 ret tab R9 nw9) {v : Value} (hd : decode cc pc = .ok (.pop, 1)) (hv : v.category = 1) (kk : aW E k n hp (pc + 1) L S) : aW E k n hp pc L (v :: S) := by
  obtain ⟨p, l, e, R, s, m, args, below, meth, c, D, dT, N0, nL, nw, ad0, Q⟩ := E
  obtain ⟨⟨hx, hb, hml, hown, hts⟩, hr, hlk, htab, hK, hZ, hnw, hst, rfl, rfl, rfl, rfl, rfl, rfl, rfl⟩ := C
  intro ad H locs ls ha hR hS hl
  exact lv_pop hx hb hd ((x_cv_cat ad v).trans hv) (kk ad H locs ls ha hR hS hl)
theorem a_dup_x1 (C : aC E l9 N9 D9 T9 cc own nL9 ret tab R9 nw9) {v w : Value} (hd : decode cc pc = .ok (.dup_x1, 1)) (hv : v.category = 1) (hw : w.category = 1) (kk : aW E k n hp (pc + 1) L (v :: w :: v :: S)) : aW E k n hp pc L (v :: w :: S) := by
  obtain ⟨p, l, e, R, s, m, args, below, meth, c, D, dT, N0, nL, nw, ad0, Q⟩ := E
  obtain ⟨⟨hx, hb, hml, hown, hts⟩, hr, hlk, htab, hK, hZ, hnw, hst, rfl, rfl, rfl, rfl, rfl, rfl, rfl⟩ := C
  intro ad H locs ls ha hR hS hl
  exact lv_dup_x1 hx hb hd ((x_cv_cat ad v).trans hv) ((x_cv_cat ad w).trans hw) (kk ad H locs ls ha hR hS hl)
theorem a_dup2 (C : aC E l9 N9 D9 T9 cc own nL9 ret tab R9 nw9) {v w : Value} (hd : decode cc pc = .ok (.dup2, 1)) (hv : v.category = 1) (hw : w.category = 1) (kk : aW E k n hp (pc + 1) L (v :: w :: v :: w :: S)) : aW E k n hp pc L (v :: w :: S) := by
  obtain ⟨p, l, e, R, s, m, args, below, meth, c, D, dT, N0, nL, nw, ad0, Q⟩ := E
  obtain ⟨⟨hx, hb, hml, hown, hts⟩, hr, hlk, htab, hK, hZ, hnw, hst, rfl, rfl, rfl, rfl, rfl, rfl, rfl⟩ := C
  intro ad H locs ls ha hR hS hl
  exact lv_dup2_11 hx hb hd ((x_cv_cat ad v).trans hv) ((x_cv_cat ad w).trans hw) (kk ad H locs ls ha hR hS hl)
theorem a_null (C : aC E l9 N9 D9 T9 cc own nL9 ret tab R9 nw9)  (hd : decode cc pc = .ok (.aconst_null, 1))  (kk : aW E k n hp (pc + 1) L (.null :: S)) : aW E k n hp pc L S := by
  obtain ⟨p, l, e, R, s, m, args, below, meth, c, D, dT, N0, nL, nw, ad0, Q⟩ := E
  obtain ⟨⟨hx, hb, hml, hown, hts⟩, hr, hlk, htab, hK, hZ, hnw, hst, rfl, rfl, rfl, rfl, rfl, rfl, rfl⟩ := C
  intro ad H locs ls ha hR hS hl
  exact lv_null hx hb hd  (kk ad H locs ls ha hR hS hl)
theorem a_if_eq (C : aC E l9 N9 D9 T9 cc own nL9 ret tab R9 nw9) {x : Int32} {off : Int} {tgt : Nat} (hd : decode cc pc = .ok (.ifCond .eq off, 3)) (ht : (pc : Int) + off = (tgt : Int)) (kt : x = 0 → aW E k n hp tgt L S) (kf : ¬ x = 0 → aW E k n hp (pc + 3) L S) : aW E k n hp pc L (.int x :: S) := by
  obtain ⟨p, l, e, R, s, m, args, below, meth, c, D, dT, N0, nL, nw, ad0, Q⟩ := E
  obtain ⟨⟨hx, hb, hml, hown, hts⟩, hr, hlk, htab, hK, hZ, hnw, hst, rfl, rfl, rfl, rfl, rfl, rfl, rfl⟩ := C
  intro ad H locs ls ha hR hS hl
  exact lv_if_eq hx hb hd ht (fun c => kt c ad H locs ls ha hR hS hl) (fun c => kf c ad H locs ls ha hR hS hl)
theorem a_icmp_eq (C : aC E l9 N9 D9 T9 cc own nL9 ret tab R9 nw9) {x y : Int32} {off : Int} {tgt : Nat} (hd : decode cc pc = .ok (.if_icmp .eq off, 3)) (ht : (pc : Int) + off = (tgt : Int)) (kt : x = y → aW E k n hp tgt L S) (kf : ¬ x = y → aW E k n hp (pc + 3) L S) : aW E k n hp pc L (.int y :: .int x :: S) := by
  obtain ⟨p, l, e, R, s, m, args, below, meth, c, D, dT, N0, nL, nw, ad0, Q⟩ := E
  obtain ⟨⟨hx, hb, hml, hown, hts⟩, hr, hlk, htab, hK, hZ, hnw, hst, rfl, rfl, rfl, rfl, rfl, rfl, rfl⟩ := C
  intro ad H locs ls ha hR hS hl
  exact lv_icmp_eq hx hb hd ht (fun c => kt c ad H locs ls ha hR hS hl) (fun c => kf c ad H locs ls ha hR hS hl)
theorem a_if_ne (C : aC E l9 N9 D9 T9 cc own nL9 ret tab R9 nw9) {x : Int32} {off : Int} {tgt : Nat} (hd : decode cc pc = .ok (.ifCond .ne off, 3)) (ht : (pc : Int) + off = (tgt : Int)) (kt : ¬ x = 0 → aW E k n hp tgt L S) (kf : x = 0 → aW E k n hp (pc + 3) L S) : aW E k n hp pc L (.int x :: S) := by
  obtain ⟨p, l, e, R, s, m, args, below, meth, c, D, dT, N0, nL, nw, ad0, Q⟩ := E
  obtain ⟨⟨hx, hb, hml, hown, hts⟩, hr, hlk, htab, hK, hZ, hnw, hst, rfl, rfl, rfl, rfl, rfl, rfl, rfl⟩ := C
  intro ad H locs ls ha hR hS hl
  exact lv_if_ne hx hb hd ht (fun c => kt c ad H locs ls ha hR hS hl) (fun c => kf c ad H locs ls ha hR hS hl)
theorem a_icmp_ne (C : aC E l9 N9 D9 T9 cc own nL9 ret tab R9 nw9) {x y : Int32} {off : Int} {tgt : Nat} (hd : decode cc pc = .ok (.if_icmp .ne off, 3)) (ht : (pc : Int) + off = (tgt : Int)) (kt : ¬ x = y → aW E k n hp tgt L S) (kf : x = y → aW E k n hp (pc + 3) L S) : aW E k n hp pc L (.int y :: .int x :: S) := by
  obtain ⟨p, l, e, R, s, m, args, below, meth, c, D, dT, N0, nL, nw, ad0, Q⟩ := E
  obtain ⟨⟨hx, hb, hml, hown, hts⟩, hr, hlk, htab, hK, hZ, hnw, hst, rfl, rfl, rfl, rfl, rfl, rfl, rfl⟩ := C
  intro ad H locs ls ha hR hS hl
  exact lv_icmp_ne hx hb hd ht (fun c => kt c ad H locs ls ha hR hS hl) (fun c => kf c ad H locs ls ha hR hS hl)
theorem a_if_lt (C : aC E l9 N9 D9 T9 cc own nL9 ret tab R9 nw9) {x : Int32} {off : Int} {tgt : Nat} (hd : decode cc pc = .ok (.ifCond .lt off, 3)) (ht : (pc : Int) + off = (tgt : Int)) (kt : x < 0 → aW E k n hp tgt L S) (kf : ¬ x < 0 → aW E k n hp (pc + 3) L S) : aW E k n hp pc L (.int x :: S) := by
  obtain ⟨p, l, e, R, s, m, args, below, meth, c, D, dT, N0, nL, nw, ad0, Q⟩ := E
  obtain ⟨⟨hx, hb, hml, hown, hts⟩, hr, hlk, htab, hK, hZ, hnw, hst, rfl, rfl, rfl, rfl, rfl, rfl, rfl⟩ := C
  intro ad H locs ls ha hR hS hl
  exact lv_if_lt hx hb hd ht (fun c => kt c ad H locs ls ha hR hS hl) (fun c => kf c ad H locs ls ha hR hS hl)
theorem a_icmp_lt (C : aC E l9 N9 D9 T9 cc own nL9 ret tab R9 nw9) {x y : Int32} {off : Int} {tgt : Nat} (hd : decode cc pc = .ok (.if_icmp .lt off, 3)) (ht : (pc : Int) + off = (tgt : Int)) (kt : x < y → aW E k n hp tgt L S) (kf : ¬ x < y → aW E k n hp (pc + 3) L S) : aW E k n hp pc L (.int y :: .int x :: S) := by
  obtain ⟨p, l, e, R, s, m, args, below, meth, c, D, dT, N0, nL, nw, ad0, Q⟩ := E
  obtain ⟨⟨hx, hb, hml, hown, hts⟩, hr, hlk, htab, hK, hZ, hnw, hst, rfl, rfl, rfl, rfl, rfl, rfl, rfl⟩ := C
  intro ad H locs ls ha hR hS hl
  exact lv_icmp_lt hx hb hd ht (fun c => kt c ad H locs ls ha hR hS hl) (fun c => kf c ad H locs ls ha hR hS hl)
theorem a_if_ge (C : aC E l9 N9 D9 T9 cc own nL9 ret tab R9 nw9) {x : Int32} {off : Int} {tgt : Nat} (hd : decode cc pc = .ok (.ifCond .ge off, 3)) (ht : (pc : Int) + off = (tgt : Int)) (kt : 0 ≤ x → aW E k n hp tgt L S) (kf : ¬ 0 ≤ x → aW E k n hp (pc + 3) L S) : aW E k n hp pc L (.int x :: S) := by
  obtain ⟨p, l, e, R, s, m, args, below, meth, c, D, dT, N0, nL, nw, ad0, Q⟩ := E
  obtain ⟨⟨hx, hb, hml, hown, hts⟩, hr, hlk, htab, hK, hZ, hnw, hst, rfl, rfl, rfl, rfl, rfl, rfl, rfl⟩ := C
  intro ad H locs ls ha hR hS hl
  exact lv_if_ge hx hb hd ht (fun c => kt c ad H locs ls ha hR hS hl) (fun c => kf c ad H locs ls ha hR hS hl)
theorem a_icmp_ge (C : aC E l9 N9 D9 T9 cc own nL9 ret tab R9 nw9) {x y : Int32} {off : Int} {tgt : Nat} (hd : decode cc pc = .ok (.if_icmp .ge off, 3)) (ht : (pc : Int) + off = (tgt : Int)) (kt : y ≤ x → aW E k n hp tgt L S) (kf : ¬ y ≤ x → aW E k n hp (pc + 3) L S) : aW E k n hp pc L (.int y :: .int x :: S) := by
  obtain ⟨p, l, e, R, s, m, args, below, meth, c, D, dT, N0, nL, nw, ad0, Q⟩ := E
  obtain ⟨⟨hx, hb, hml, hown, hts⟩, hr, hlk, htab, hK, hZ, hnw, hst, rfl, rfl, rfl, rfl, rfl, rfl, rfl⟩ := C
  intro ad H locs ls ha hR hS hl
  exact lv_icmp_ge hx hb hd ht (fun c => kt c ad H locs ls ha hR hS hl) (fun c => kf c ad H locs ls ha hR hS hl)
theorem a_if_gt (C : aC E l9 N9 D9 T9 cc own nL9 ret tab R9 nw9) {x : Int32} {off : Int} {tgt : Nat} (hd : decode cc pc = .ok (.ifCond .gt off, 3)) (ht : (pc : Int) + off = (tgt : Int)) (kt : 0 < x → aW E k n hp tgt L S) (kf : ¬ 0 < x → aW E k n hp (pc + 3) L S) : aW E k n hp pc L (.int x :: S) := by
  obtain ⟨p, l, e, R, s, m, args, below, meth, c, D, dT, N0, nL, nw, ad0, Q⟩ := E
  obtain ⟨⟨hx, hb, hml, hown, hts⟩, hr, hlk, htab, hK, hZ, hnw, hst, rfl, rfl, rfl, rfl, rfl, rfl, rfl⟩ := C
  intro ad H locs ls ha hR hS hl
  exact lv_if_gt hx hb hd ht (fun c => kt c ad H locs ls ha hR hS hl) (fun c => kf c ad H locs ls ha hR hS hl)
theorem a_icmp_gt (C : aC E l9 N9 D9 T9 cc own nL9 ret tab R9 nw9) {x y : Int32} {off : Int} {tgt : Nat} (hd : decode cc pc = .ok (.if_icmp .gt off, 3)) (ht : (pc : Int) + off = (tgt : Int)) (kt : y < x → aW E k n hp tgt L S) (kf : ¬ y < x → aW E k n hp (pc + 3) L S) : aW E k n hp pc L (.int y :: .int x :: S) := by
  obtain ⟨p, l, e, R, s, m, args, below, meth, c, D, dT, N0, nL, nw, ad0, Q⟩ := E
  obtain ⟨⟨hx, hb, hml, hown, hts⟩, hr, hlk, htab, hK, hZ, hnw, hst, rfl, rfl, rfl, rfl, rfl, rfl, rfl⟩ := C
  intro ad H locs ls ha hR hS hl
  exact lv_icmp_gt hx hb hd ht (fun c => kt c ad H locs ls ha hR hS hl) (fun c => kf c ad H locs ls ha hR hS hl)
theorem a_if_le (C : aC E l9 N9 D9 T9 cc own nL9 ret tab R9 nw9) {x : Int32} {off : Int} {tgt : Nat} (hd : decode cc pc = .ok (.ifCond .le off, 3)) (ht : (pc : Int) + off = (tgt : Int)) (kt : x ≤ 0 → aW E k n hp tgt L S) (kf : ¬ x ≤ 0 → aW E k n hp (pc + 3) L S) : aW E k n hp pc L (.int x :: S) := by
  obtain ⟨p, l, e, R, s, m, args, below, meth, c, D, dT, N0, nL, nw, ad0, Q⟩ := E
  obtain ⟨⟨hx, hb, hml, hown, hts⟩, hr, hlk, htab, hK, hZ, hnw, hst, rfl, rfl, rfl, rfl, rfl, rfl, rfl⟩ := C
  intro ad H locs ls ha hR hS hl
  exact lv_if_le hx hb hd ht (fun c => kt c ad H locs ls ha hR hS hl) (fun c => kf c ad H locs ls ha hR hS hl)
theorem a_icmp_le (C : aC E l9 N9 D9 T9 cc own nL9 ret tab R9 nw9) {x y : Int32} {off : Int} {tgt : Nat} (hd : decode cc pc = .ok (.if_icmp .le off, 3)) (ht : (pc : Int) + off = (tgt : Int)) (kt : x ≤ y → aW E k n hp tgt L S) (kf : ¬ x ≤ y → aW E k n hp (pc + 3) L S) : aW E k n hp pc L (.int y :: .int x :: S) := by
  obtain ⟨p, l, e, R, s, m, args, below, meth, c, D, dT, N0, nL, nw, ad0, Q⟩ := E
  obtain ⟨⟨hx, hb, hml, hown, hts⟩, hr, hlk, htab, hK, hZ, hnw, hst, rfl, rfl, rfl, rfl, rfl, rfl, rfl⟩ := C
  intro ad H locs ls ha hR hS hl
  exact lv_icmp_le hx hb hd ht (fun c => kt c ad H locs ls ha hR hS hl) (fun c => kf c ad H locs ls ha hR hS hl)
theorem a_goto (C : aC E l9 N9 D9 T9 cc own nL9 ret tab R9 nw9) {off : Int} {tgt : Nat} (hd : decode cc pc = .ok (.goto off, 3)) (ht : (pc : Int) + off = (tgt : Int)) (kk : aW E k n hp tgt L S) : aW E k n hp pc L S := by
  obtain ⟨p, l, e, R, s, m, args, below, meth, c, D, dT, N0, nL, nw, ad0, Q⟩ := E
  obtain ⟨⟨hx, hb, hml, hown, hts⟩, hr, hlk, htab, hK, hZ, hnw, hst, rfl, rfl, rfl, rfl, rfl, rfl, rfl⟩ := C
  intro ad H locs ls ha hR hS hl
  exact lv_goto hx hb hd ht (kk ad H locs ls ha hR hS hl)
theorem a_ldc2 (C : aC E l9 N9 D9 T9 cc own nL9 ret tab R9 nw9) {index : Nat} {v : Int64} (hd : decode cc pc = .ok (.ldc2_w index, 3)) (hw : Cond.constantLong own index v ∈ xTB) (kk : aW E k n hp (pc + 3) L (.long v :: S)) : aW E k n hp pc L S := by
  obtain ⟨p, l, e, R, s, m, args, below, meth, c, D, dT, N0, nL, nw, ad0, Q⟩ := E
  obtain ⟨⟨hx, hb, hml, hown, hts⟩, hr, hlk, htab, hK, hZ, hnw, hst, rfl, rfl, rfl, rfl, rfl, rfl, rfl⟩ := C
  intro ad H locs ls ha hR hS hl
  exact lv_ldc2 hx hb hown (hts _ hw) hd (kk ad H locs ls ha hR hS hl)
theorem a_ldc (C : aC E l9 N9 D9 T9 cc own nL9 ret tab R9 nw9) {index : Nat} {v : Int32} (hd : decode cc pc = .ok (.ldc index, 2)) (hw : Cond.constant own index v ∈ xTB) (kk : aW E k n hp (pc + 2) L (.int v :: S)) : aW E k n hp pc L S := by
  obtain ⟨p, l, e, R, s, m, args, below, meth, c, D, dT, N0, nL, nw, ad0, Q⟩ := E
  obtain ⟨⟨hx, hb, hml, hown, hts⟩, hr, hlk, htab, hK, hZ, hnw, hst, rfl, rfl, rfl, rfl, rfl, rfl, rfl⟩ := C
  intro ad H locs ls ha hR hS hl
  exact lv_ldc hx hb hown (hts _ hw) hd (kk ad H locs ls ha hR hS hl)
theorem a_ldcw (C : aC E l9 N9 D9 T9 cc own nL9 ret tab R9 nw9) {index : Nat} {v : Int32} (hd : decode cc pc = .ok (.ldc_w index, 3)) (hw : Cond.constant own index v ∈ xTB) (kk : aW E k n hp (pc + 3) L (.int v :: S)) : aW E k n hp pc L S := by
  obtain ⟨p, l, e, R, s, m, args, below, meth, c, D, dT, N0, nL, nw, ad0, Q⟩ := E
  obtain ⟨⟨hx, hb, hml, hown, hts⟩, hr, hlk, htab, hK, hZ, hnw, hst, rfl, rfl, rfl, rfl, rfl, rfl, rfl⟩ := C
  intro ad H locs ls ha hR hS hl
  exact lv_ldcw hx hb hown (hts _ hw) hd (kk ad H locs ls ha hR hS hl)
end XROWS
end
section
/-! The heap of the abstract machine: reads, writes, makings. -/
def xup (hp : xH) (a : Nat) (e : va_E) : xH := fun j => bif Nat.beq j a then some e else hp j
theorem xup_s {hp : xH} {a : Nat} {e : va_E} : xup hp a e a = some e := by simp [xup]
theorem xup_n {hp : xH} {a j : Nat} {e : va_E} (h : j ≠ a) : xup hp a e j = hp j := by
  have : Nat.beq j a = false := by
    cases h2 : Nat.beq j a with
    | true => exact absurd (Nat.eq_of_beq_eq_true h2) h
    | false => rfl
  simp [xup, this]
theorem xup_eq {hp : xH} {a j : Nat} {e : va_E} : xup hp a e j = if j = a then some e else hp j := by
  by_cases h : j = a
  · subst h; rw [if_pos rfl, xup_s]
  · rw [if_neg h, xup_n h]
theorem xR.one {N0 : Nat} {D : va_G} {dT : Nat → ClassId} {ad : Nat → Nat} {hp : xH} {H : Heap} {a : Nat} {e : va_E} (h : xR N0 D dT ad hp H) (hh : hp a = some e) : va_P D vwCl [(ad a, x_ce dT ad e)] H := fun k q hq => by
  match k, hq with
  | 0, hq => cases hq; exact (h.1 a e hh).1
theorem xR.up {N0 : Nat} {D : va_G} {dT : Nat → ClassId} {ad : Nat → Nat} {hp : xH} {H H1 : Heap} {a : Nat} {e0 e : va_E} (h : xR N0 D dT ad hp H) (hh : hp a = some e0) (he : va_at D vwCl (ad a, x_ce dT ad e) H1) (oq : ∀ q : Nat, q ≠ ad a → H1[q]? = H[q]?) : xR N0 D dT ad (xup hp a e) H1 := by
  refine ⟨fun k e' hk => ?_, fun j k e1 e2 h1 h2 hjk => ?_⟩
  · by_cases hka : k = a
    · subst hka
      rw [xup_s] at hk
      cases hk
      exact ⟨he, (h.1 k e0 hh).2⟩
    · rw [xup_n hka] at hk
      exact ⟨(h.1 k e' hk).1.kept (oq _ (fun z => hka (h.2 k a e' e0 hk hh z))), (h.1 k e' hk).2⟩
  · have key : ∀ i (e' : va_E), xup hp a e i = some e' → ∃ e'', hp i = some e'' := fun i e' hi => by
      by_cases hia : i = a
      · subst hia; exact ⟨_, hh⟩
      · rw [xup_n hia] at hi; exact ⟨_, hi⟩
    obtain ⟨f1, g1⟩ := key j e1 h1
    obtain ⟨f2, g2⟩ := key k e2 h2
    exact h.2 j k f1 f2 g1 g2 hjk
/-- a cell does not point to a -/
def xnr (a : Nat) (e : va_E) : Prop := ∀ (dT : Nat → ClassId) (ad ad' : Nat → Nat), (∀ j, j ≠ a → ad' j = ad j) → x_ce dT ad' e = x_ce dT ad e
theorem x_cv_nr {a : Nat} {v : Value} (h : v ≠ .ref a) {ad ad' : Nat → Nat} (hA : ∀ j, j ≠ a → ad' j = ad j) : x_cv ad' v = x_cv ad v := by
  cases v with
  | ref k => exact congrArg Value.ref (hA k (fun z => h (by rw [z])))
  | _ => rfl
theorem xnr_o {a ci : Nat} {fs : List Value} (h : ∀ v ∈ fs, v ≠ .ref a) : xnr a (.inr (ci, fs)) := fun dT ad ad' hA => by
  show Sum.inr (ci, fs.map (x_cv ad')) = Sum.inr (ci, fs.map (x_cv ad))
  rw [List.map_congr_left (fun v hv => x_cv_nr (h v hv) hA)]
theorem xnr_i {a t n : Nat} {f : Nat → Int32} : xnr a (.inl (t, n, .inl f)) := fun _ _ _ _ => rfl
theorem xnr_l {a t n : Nat} {f : Nat → Int64} : xnr a (.inl (t, n, .inr (.inl f))) := fun _ _ _ _ => rfl
theorem xnr_q {a t n : Nat} {f : Nat → Option Nat} (h : ∀ j, f j ≠ some a) : xnr a (.inl (t, n, .inr (.inr (.inr (.inr f))))) := fun dT ad ad' hA => by
  show Sum.inl (dT t, n, Sum.inr (Sum.inr (Sum.inr (Sum.inr fun j => (f j).map ad')))) = Sum.inl (dT t, n, Sum.inr (Sum.inr (Sum.inr (Sum.inr fun j => (f j).map ad))))
  have : (fun j => (f j).map ad') = fun j => (f j).map ad := by
    funext j
    cases hf : f j with
    | none => rfl
    | some k => exact congrArg some (hA k (fun z => h j (by rw [hf, z])))
  rw [this]
/-- a number that nothing speaks of -/
def xfr (a : Nat) (hp : xH) (L : List (Nat × Value)) (S : List Value) : Prop := (∀ j e, j ≠ a → hp j = some e → xnr a e) ∧ (∀ q ∈ L, q.2 ≠ .ref a) ∧ ∀ v ∈ S, v ≠ .ref a
theorem xcl_nr {a : Nat} {L : List (Nat × Value)} (h : ∀ q ∈ L, q.2 ≠ .ref a) {ad ad' : Nat → Nat} (hA : ∀ j, j ≠ a → ad' j = ad j) : xcl ad' L = xcl ad L := by
  unfold xcl
  exact List.map_congr_left (fun q hq => by rw [x_cv_nr (h q hq) hA])
theorem xst_nr {a : Nat} {S : List Value} (h : ∀ v ∈ S, v ≠ .ref a) {ad ad' : Nat → Nat} (hA : ∀ j, j ≠ a → ad' j = ad j) : S.map (x_cv ad') = S.map (x_cv ad) :=
  List.map_congr_left (fun v hv => x_cv_nr (h v hv) hA)
/-- a new cell, at the machine's next address, is given the number a -/
theorem xR.new {N0 : Nat} {D : va_G} {dT : Nat → ClassId} {ad : Nat → Nat} {hp : xH} {H H1 : Heap} {a q : Nat} {e : va_E} (h : xR N0 D dT ad hp H) (hfr : ∀ j e, j ≠ a → hp j = some e → xnr a e) (hq : H.size ≤ q) (hN : N0 ≤ q) (he : va_at D vwCl (q, x_ce dT (va_up ad a q) e) H1) (oq : ∀ z : Nat, z < H.size → H1[z]? = H[z]?) : xR N0 D dT (va_up ad a q) (xup hp a e) H1 := by
  have hA : ∀ j, j ≠ a → va_up ad a q j = ad j := fun j hj => if_neg hj
  have hAa : va_up ad a q a = q := if_pos rfl
  have lt : ∀ k e', hp k = some e' → ad k < H.size := fun k e' hk => (h.1 k e' hk).1.lt
  refine ⟨fun k e' hk => ?_, fun j k e1 e2 h1 h2 hjk => ?_⟩
  · by_cases hka : k = a
    · subst hka
      rw [xup_s] at hk
      cases hk
      rw [hAa]
      exact ⟨he, hN⟩
    · rw [xup_n hka] at hk
      rw [hfr k e' hka hk dT ad _ hA, hA k hka]
      exact ⟨(h.1 k e' hk).1.kept (oq _ (lt k e' hk)), (h.1 k e' hk).2⟩
  · by_cases hja : j = a <;> by_cases hka : k = a
    · rw [hja, hka]
    · rw [hja, hAa, hA k hka] at hjk
      rw [xup_n hka] at h2
      have := lt k e2 h2
      omega
    · rw [hka, hAa, hA j hja] at hjk
      rw [xup_n hja] at h1
      have := lt j e1 h1
      omega
    · rw [xup_n hja] at h1
      rw [xup_n hka] at h2
      rw [hA j hja, hA k hka] at hjk
      exact h.2 j k e1 e2 h1 h2 hjk
/-- a field's link: own's entry 'index' names the field j of the class ci, of the type ty -/
def xFL (own : String) (index ci j : Nat) (ty : FieldType) (fin : Bool) : Prop := ∃ (Cn : String) (T : u_T) (N : Nat) (ref : String) (ty0 : Nat → FieldType), vwCl[ci]? = some (Cn, T, N) ∧ j < N ∧ (∀ w ∈ u_ws Cn T N, w ∈ xTB) ∧ Cond.fieldLink own index ref (T j).2.1 (T j).2.2.1 ∈ xTB ∧ (ref = (T j).1 ∨ Cond.sameField ref (T j).1 (T j).2.1 (T j).2.2.1 ∈ xTB) ∧ (∀ k, k < N → parseFieldDescriptor (T k).2.2.1 = some (ty0 k)) ∧ (∀ a, a < N → ∀ b, b < N → a ≠ b → (T a).2.1 ≠ (T b).2.1) ∧ ty0 j = ty ∧ (T j).2.2.2 = fin
theorem xFL.same {s : State} {args : Array Value} {ref : String} {T : u_T} {j : Nat} (hts : ∀ w ∈ xTB, w.before args s = true) (h : ref = (T j).1 ∨ Cond.sameField ref (T j).1 (T j).2.1 (T j).2.2.1 ∈ xTB) : ∀ x, s.fieldFound? (T j).1 (T j).2.1 (T j).2.2.1 = some x → s.fieldFound? ref (T j).2.1 (T j).2.2.1 = some x := by
  intro x hx
  rcases h with h | h
  · rw [h]; exact hx
  · exact u_same (hts _ h) x hx
theorem x_nar {ad : Nat → Nat} {ty : FieldType} {v : Value} (h : narrow ty v = v) : narrow ty (x_cv ad v) = x_cv ad v := by
  cases v with
  | ref k => cases ty <;> rfl
  | _ => exact h
theorem x_fit {ad : Nat → Nat} {ty : FieldType} {v : Value} (h : fits ty v = true) : fits ty (x_cv ad v) = true := by
  cases v with
  | ref k => cases ty <;> first | exact h | rfl
  | _ => exact h
/-- the method is a constructor -/
def aI (E : xEnv) : Prop := match E with
  | (_, _, _, _, _, _, _, _, meth, _) => meth.name = "<init>"
section XHEAP
variable {E : xEnv} {l9 : Launch} {N9 : Nat} {D9 : va_G} {T9 : Nat → ClassId} {cc : ByteArray} {own : String} {nL9 : Nat} {ret : Option FieldType} {tab : List ExceptionTableEntry} {R9 : Room} {nw9 : Nat → Prop} {k n : Nat} {hp : xH} {pc : Nat} {L : List (Nat × Value)} {S : List Value}
theorem a_get (C : aC E l9 N9 D9 T9 cc own nL9 ret tab R9 nw9) {index ci j a : Nat} {ty : FieldType} {fin : Bool} {fs : List Value} {v : Value} (hd : decode cc pc = .ok (.getfield index, 3)) (hf : xFL own index ci j ty fin) (hh : hp a = some (.inr (ci, fs))) (hv : fs[j]? = some v) (kk : aW E k n hp (pc + 3) L (v :: S)) : aW E k n hp pc L (.ref a :: S) := by
  obtain ⟨p, l, e, R, s, m, args, below, meth, c, D, dT, N0, nL, nw, ad0, Q⟩ := E
  obtain ⟨⟨hx, hb, hml, hown, hts⟩, hr, hlk, htab, hK, hZ, hnw, hst, rfl, rfl, rfl, rfl, rfl, rfl, rfl⟩ := C
  intro ad H locs ls ha hR hS hl
  obtain ⟨Cn, T, N, ref, ty0, hc, hj, hin, hlink, hsame, -⟩ := hf
  exact va_get (D := D) (cl := vwCl) (tys := xtys dT) hx hb hts hin hown hK (hR.one hh) 0 rfl hc j hj (hts _ hlink) (xFL.same hts hsame) (v := x_cv ad v) (by rw [List.getElem?_map, hv]; rfl) hd (kk ad H locs ls ha hR hS hl)
theorem a_put (C : aC E l9 N9 D9 T9 cc own nL9 ret tab R9 nw9) {index ci j a : Nat} {ty : FieldType} {fs : List Value} {v : Value} (hd : decode cc pc = .ok (.putfield index, 3)) (hf : xFL own index ci j ty false) (hh : hp a = some (.inr (ci, fs))) (hlen : j < fs.length) (hn : narrow ty v = v) (hfit : fits ty v = true) (kk : aW E k n (xup hp a (.inr (ci, fs.set j v))) (pc + 3) L S) : aW E k n hp pc L (v :: .ref a :: S) := by
  obtain ⟨p, l, e, R, s, m, args, below, meth, c, D, dT, N0, nL, nw, ad0, Q⟩ := E
  obtain ⟨⟨hx, hb, hml, hown, hts⟩, hr, hlk, htab, hK, hZ, hnw, hst, rfl, rfl, rfl, rfl, rfl, rfl, rfl⟩ := C
  intro ad H locs ls ha hR hS hl
  obtain ⟨Cn, T, N, ref, ty0, hc, hj, hin, hlink, hsame, hty, hnm, rfl, hfin⟩ := hf
  have hap := va_apart (own := own) (D := D) (cl := vwCl) (tys := xtys dT) hts hin ty0 hty hnm hK hc
  obtain ⟨r, h1, cell, q1, q2, q3, q4⟩ := (hR.1 a _ hh).1
  have hr9 : r = (Cn, T, N) := Option.some.inj (h1.symm.trans hc)
  subst hr9
  obtain ⟨hS9, hfc, kC, hkC, hkind⟩ := hK.1 ci _ hc
  obtain ⟨cf, kf, fi, f, hi, hsl⟩ := hS9 j hj
  have hlay := hts _ (hin _ (u_in_lay hj))
  unfold u_lay at hlay
  rw [if_neg (by rw [hfin]; decide)] at hlay
  have hst9 := (u_facts hfc hkC (u_lays hts hin hj) hi).1
  have h6 := u_store hfc hkC hkind hlay hi (hty j hj) (x_nar (ad := ad) hn) (x_fit (ad := ad) hfit)
  refine W.putK hx hb (f := f) ⟨hown, hts _ hlink, ⟨_, _, _, xFL.same hts hsame _ hi⟩, hst9⟩ (by rw [q2]; exact h6) q1 q3 (by rw [hsl]; exact k2_hasslot (q4 j hj)) rfl rfl hd fun H' e1 e2 e3 => ?_
  rw [hsl] at e1 ⊢
  refine kk ad H' _ ls ha (hR.up hh ⟨_, hc, t_OB.to (V := updV (vp_V (fs.map (x_cv ad))) j (x_cv ad v)) ⟨_, e1, q2, q3, t_set q4 hap hj _⟩ (fun i _ => ?_)⟩ e3) (hS.put e2 e3 (hR.1 a _ hh).2) hl
  rw [List.map_set]
  exact vp_updV_set (by rw [List.length_map]; exact hlen) _ i
theorem a_putF (C : aC E l9 N9 D9 T9 cc own nL9 ret tab R9 nw9) (I : aI E) {index ci j a : Nat} {ty : FieldType} {fs : List Value} {v : Value} (hd : decode cc pc = .ok (.putfield index, 3)) (hf : xFL own index ci j ty true) (hdecl : (vwCl[ci]?).map (fun q => (q.2.1 j).1) = some own) (hh : hp a = some (.inr (ci, fs))) (hlen : j < fs.length) (hn : narrow ty v = v) (hfit : fits ty v = true) (kk : aW E k n (xup hp a (.inr (ci, fs.set j v))) (pc + 3) L S) : aW E k n hp pc L (v :: .ref a :: S) := by
  obtain ⟨p, l, e, R, s, m, args, below, meth, c, D, dT, N0, nL, nw, ad0, Q⟩ := E
  obtain ⟨⟨hx, hb, hml, hown, hts⟩, hr, hlk, htab, hK, hZ, hnw, hst, rfl, rfl, rfl, rfl, rfl, rfl, rfl⟩ := C
  intro ad H locs ls ha hR hS hl
  have hin2 : meth.name = "<init>" := I
  obtain ⟨Cn, T, N, ref, ty0, hc, hj, hin, hlink, hsame, hty, hnm, rfl, hfin⟩ := hf
  have hdecl' : (T j).1 = own := by rw [hc] at hdecl; exact Option.some.inj hdecl
  have hap := va_apart (own := own) (D := D) (cl := vwCl) (tys := xtys dT) hts hin ty0 hty hnm hK hc
  obtain ⟨r, h1, cell, q1, q2, q3, q4⟩ := (hR.1 a _ hh).1
  have hr9 : r = (Cn, T, N) := Option.some.inj (h1.symm.trans hc)
  subst hr9
  obtain ⟨hS9, hfc, kC, hkC, hkind⟩ := hK.1 ci _ hc
  obtain ⟨cf, kf, fi, f, hi, hsl⟩ := hS9 j hj
  have hlay := hts _ (hin _ (u_in_lay hj))
  unfold u_lay at hlay
  rw [if_pos hfin] at hlay
  have hst9 := (u_facts hfc hkC (u_lays hts hin hj) hi).1
  have hcf : m.cls = cf := by
    obtain ⟨_, _, c', _, _, _, -, -, hf', -, -, -, hown2, -⟩ := Cond.laysFinal_spec hlay
    have e1 : c' = cf := by have := hi.symm.trans hf'; simp at this; exact this.1.symm
    rw [hdecl'] at hown2
    rw [← e1]; exact Option.some.inj (hown.symm.trans hown2)
  have h6 := u_fits hfc hkC hkind (Or.inr hlay) hi (hty j hj) (x_nar (ad := ad) hn) (x_fit (ad := ad) hfit)
  refine W.putFinK hx hb hown (hts _ hlink) (xFL.same hts hsame _ hi) hst9 hcf hin2 (by rw [q2]; exact h6) q1 q3 (by rw [hsl]; exact k2_hasslot (q4 j hj)) rfl rfl hd fun H' e1 e2 e3 => ?_
  rw [hsl] at e1 ⊢
  refine kk ad H' _ ls ha (hR.up hh ⟨_, hc, t_OB.to (V := updV (vp_V (fs.map (x_cv ad))) j (x_cv ad v)) ⟨_, e1, q2, q3, t_set q4 hap hj _⟩ (fun i _ => ?_)⟩ e3) (hS.put e2 e3 (hR.1 a _ hh).2) hl
  rw [List.map_set]
  exact vp_updV_set (by rw [List.length_map]; exact hlen) _ i
theorem a_iald (C : aC E l9 N9 D9 T9 cc own nL9 ret tab R9 nw9) {a N : Nat} {f : Nat → Int32} {i : Int32} (hd : decode cc pc = .ok (.iaload, 1)) (hh : hp a = some (.inl (0, N, .inl f))) (hi : vp_in i N) (kk : aW E k n hp (pc + 1) L (.int (f i.toNatClampNeg) :: S)) : aW E k n hp pc L (.int i :: .ref a :: S) := by
  obtain ⟨p, l, e, R, s, m, args, below, meth, c, D, dT, N0, nL, nw, ad0, Q⟩ := E
  obtain ⟨⟨hx, hb, hml, hown, hts⟩, hr, hlk, htab, hK, hZ, hnw, hst, rfl, rfl, rfl, rfl, rfl, rfl, rfl⟩ := C
  intro ad H locs ls ha hR hS hl
  exact va_iald (D := D) (cl := vwCl) (tys := xtys dT) hx hb hK (hR.one hh) 0 0 rfl rfl hi hd (kk ad H locs ls ha hR hS hl)
theorem a_lald (C : aC E l9 N9 D9 T9 cc own nL9 ret tab R9 nw9) {a N : Nat} {f : Nat → Int64} {i : Int32} (hd : decode cc pc = .ok (.laload, 1)) (hh : hp a = some (.inl (1, N, .inr (.inl f)))) (hi : vp_in i N) (kk : aW E k n hp (pc + 1) L (.long (f i.toNatClampNeg) :: S)) : aW E k n hp pc L (.int i :: .ref a :: S) := by
  obtain ⟨p, l, e, R, s, m, args, below, meth, c, D, dT, N0, nL, nw, ad0, Q⟩ := E
  obtain ⟨⟨hx, hb, hml, hown, hts⟩, hr, hlk, htab, hK, hZ, hnw, hst, rfl, rfl, rfl, rfl, rfl, rfl, rfl⟩ := C
  intro ad H locs ls ha hR hS hl
  exact va_lald (D := D) (cl := vwCl) (tys := xtys dT) hx hb hK (hR.one hh) 0 1 rfl rfl hi hd (kk ad H locs ls ha hR hS hl)
theorem a_zald (C : aC E l9 N9 D9 T9 cc own nL9 ret tab R9 nw9) {a N : Nat} {f : Nat → Int32} {i : Int32} (hd : decode cc pc = .ok (.baload, 1)) (hh : hp a = some (.inl (2, N, .inl f))) (hi : vp_in i N) (kk : aW E k n hp (pc + 1) L (.int (f i.toNatClampNeg) :: S)) : aW E k n hp pc L (.int i :: .ref a :: S) := by
  obtain ⟨p, l, e, R, s, m, args, below, meth, c, D, dT, N0, nL, nw, ad0, Q⟩ := E
  obtain ⟨⟨hx, hb, hml, hown, hts⟩, hr, hlk, htab, hK, hZ, hnw, hst, rfl, rfl, rfl, rfl, rfl, rfl, rfl⟩ := C
  intro ad H locs ls ha hR hS hl
  exact va_zald (D := D) (cl := vwCl) (tys := xtys dT) hx hb hK (hR.one hh) 0 2 rfl rfl hi hd (kk ad H locs ls ha hR hS hl)
theorem a_aald (C : aC E l9 N9 D9 T9 cc own nL9 ret tab R9 nw9) {a N : Nat} {f : Nat → Option Nat} {i : Int32} (hd : decode cc pc = .ok (.aaload, 1)) (hh : hp a = some (.inl (3, N, .inr (.inr (.inr (.inr f)))))) (hi : vp_in i N) (kk : aW E k n hp (pc + 1) L (va_rf (f i.toNatClampNeg) :: S)) : aW E k n hp pc L (.int i :: .ref a :: S) := by
  obtain ⟨p, l, e, R, s, m, args, below, meth, c, D, dT, N0, nL, nw, ad0, Q⟩ := E
  obtain ⟨⟨hx, hb, hml, hown, hts⟩, hr, hlk, htab, hK, hZ, hnw, hst, rfl, rfl, rfl, rfl, rfl, rfl, rfl⟩ := C
  intro ad H locs ls ha hR hS hl
  refine va_aldq (D := D) (cl := vwCl) (tys := xtys dT) hx hb hK (hR.one hh) 0 3 rfl rfl hi hd ?_
  have e : va_rf ((f i.toNatClampNeg).map ad) = x_cv ad (va_rf (f i.toNatClampNeg)) := by cases f i.toNatClampNeg <;> rfl
  rw [e]
  exact kk ad H locs ls ha hR hS hl
theorem a_alen (C : aC E l9 N9 D9 T9 cc own nL9 ret tab R9 nw9) {a t N : Nat} {x : (Nat → Int32) ⊕ (Nat → Int64) ⊕ (Nat → UInt32) ⊕ (Nat → UInt64) ⊕ (Nat → Option Nat)} (hd : decode cc pc = .ok (.arraylength, 1)) (ht : t < 4) (hh : hp a = some (.inl (t, N, x))) (kk : aW E k n hp (pc + 1) L (.int (Int32.ofNat N) :: S)) : aW E k n hp pc L (.ref a :: S) := by
  obtain ⟨p, l, e, R, s, m, args, below, meth, c, D, dT, N0, nL, nw, ad0, Q⟩ := E
  obtain ⟨⟨hx, hb, hml, hown, hts⟩, hr, hlk, htab, hK, hZ, hnw, hst, rfl, rfl, rfl, rfl, rfl, rfl, rfl⟩ := C
  intro ad H locs ls ha hR hS hl
  obtain ⟨ty, hty⟩ : ∃ ty, (xtys dT)[t]? = some (dT t, ty) := by
    match t, ht with
    | 0, _ => exact ⟨_, rfl⟩
    | 1, _ => exact ⟨_, rfl⟩
    | 2, _ => exact ⟨_, rfl⟩
    | 3, _ => exact ⟨_, rfl⟩
  exact va_alen (D := D) (cl := vwCl) (tys := xtys dT) hx hb hK (hR.one hh) 0 t rfl hty (by rcases x with f | f | f | f | f <;> rfl) hd (kk ad H locs ls ha hR hS hl)
theorem a_iast (C : aC E l9 N9 D9 T9 cc own nL9 ret tab R9 nw9) {a N : Nat} {f : Nat → Int32} {i : Int32} {x : Int32} (hd : decode cc pc = .ok (.iastore, 1)) (hh : hp a = some (.inl (0, N, .inl f))) (hi : vp_in i N) (kk : aW E k n (xup hp a (.inl (0, N, .inl (upd f i.toNatClampNeg x)))) (pc + 1) L S) : aW E k n hp pc L (.int x :: .int i :: .ref a :: S) := by
  obtain ⟨p, l, e, R, s, m, args, below, meth, c, D, dT, N0, nL, nw, ad0, Q⟩ := E
  obtain ⟨⟨hx, hb, hml, hown, hts⟩, hr, hlk, htab, hK, hZ, hnw, hst, rfl, rfl, rfl, rfl, rfl, rfl, rfl⟩ := C
  intro ad H locs ls ha hR hS hl
  refine W.iast hx hb (hR.1 a _ hh).1 ((hK.2 0 _ rfl).1 N (fun j => .int (f j))) (fun q => by cases q) (by show ¬ (i < 0 ∨ (arrV _ _ _).slots.size ≤ _); rw [arrV_size]; exact hi) rfl rfl hd fun H1 e1 z oq => ?_
  refine kk ad H1 _ ls ha (hR.up hh ?_ oq) (hS.put z oq (hR.1 a _ hh).2) hl
  show H1[ad a]? = some (vp_cell _ _)
  rw [e1]
  show some ((vp_cell (dT 0) (N, .inl f)).setSlot _ _) = some (vp_cell (dT 0) (N, .inl (upd f i.toNatClampNeg x)))
  rw [vp_cell_i, vp_cell_i, arrV_store]
  congr 2
  funext q
  by_cases hq : q = i.toNatClampNeg
  · subst hq
    simp [updV, upd]
  · simp [updV, upd, hq]
theorem a_last (C : aC E l9 N9 D9 T9 cc own nL9 ret tab R9 nw9) {a N : Nat} {f : Nat → Int64} {i : Int32} {x : Int64} (hd : decode cc pc = .ok (.lastore, 1)) (hh : hp a = some (.inl (1, N, .inr (.inl f)))) (hi : vp_in i N) (kk : aW E k n (xup hp a (.inl (1, N, .inr (.inl (vp_updL f i.toNatClampNeg x))))) (pc + 1) L S) : aW E k n hp pc L (.long x :: .int i :: .ref a :: S) := by
  obtain ⟨p, l, e, R, s, m, args, below, meth, c, D, dT, N0, nL, nw, ad0, Q⟩ := E
  obtain ⟨⟨hx, hb, hml, hown, hts⟩, hr, hlk, htab, hK, hZ, hnw, hst, rfl, rfl, rfl, rfl, rfl, rfl, rfl⟩ := C
  intro ad H locs ls ha hR hS hl
  refine W.last hx hb (hR.1 a _ hh).1 ((hK.2 1 _ rfl).1 N (fun j => .long (f j))) (fun q => by cases q) (by show ¬ (i < 0 ∨ (arrV _ _ _).slots.size ≤ _); rw [arrV_size]; exact hi) rfl rfl hd fun H1 e1 z oq => ?_
  refine kk ad H1 _ ls ha (hR.up hh ?_ oq) (hS.put z oq (hR.1 a _ hh).2) hl
  show H1[ad a]? = some (vp_cell _ _)
  rw [e1]
  show some ((vp_cell (dT 1) (N, .inr (.inl f))).setSlot _ _) = some (vp_cell (dT 1) (N, .inr (.inl (vp_updL f i.toNatClampNeg x))))
  rw [vp_cell_l, vp_cell_l, arrV_store]
  congr 2
  funext q
  by_cases hq : q = i.toNatClampNeg
  · subst hq
    simp [updV, vp_updL]
  · simp [updV, vp_updL, hq]
theorem a_zast (C : aC E l9 N9 D9 T9 cc own nL9 ret tab R9 nw9) {a N : Nat} {f : Nat → Int32} {i : Int32} {x : Int32} (hd : decode cc pc = .ok (.bastore, 1)) (hh : hp a = some (.inl (2, N, .inl f))) (hi : vp_in i N) (kk : aW E k n (xup hp a (.inl (2, N, .inl (upd f i.toNatClampNeg (vp_nar .boolean x))))) (pc + 1) L S) : aW E k n hp pc L (.int x :: .int i :: .ref a :: S) := by
  obtain ⟨p, l, e, R, s, m, args, below, meth, c, D, dT, N0, nL, nw, ad0, Q⟩ := E
  obtain ⟨⟨hx, hb, hml, hown, hts⟩, hr, hlk, htab, hK, hZ, hnw, hst, rfl, rfl, rfl, rfl, rfl, rfl, rfl⟩ := C
  intro ad H locs ls ha hR hS hl
  refine W.zast hx hb (hR.1 a _ hh).1 ((hK.2 2 _ rfl).1 N (fun j => .int (f j))) (fun q => by cases q) (by show ¬ (i < 0 ∨ (arrV _ _ _).slots.size ≤ _); rw [arrV_size]; exact hi) rfl rfl hd fun H1 e1 z oq => ?_
  refine kk ad H1 _ ls ha (hR.up hh ?_ oq) (hS.put z oq (hR.1 a _ hh).2) hl
  show H1[ad a]? = some (vp_cell _ _)
  rw [e1]
  show some ((vp_cell (dT 2) (N, .inl f)).setSlot _ _) = some (vp_cell (dT 2) (N, .inl (upd f i.toNatClampNeg (vp_nar .boolean x))))
  rw [vp_cell_i, vp_cell_i, arrV_store]
  congr 2
  funext q
  by_cases hq : q = i.toNatClampNeg
  · subst hq
    simp [updV, upd]
    rfl
  · simp [updV, upd, hq]
end XHEAP
end
section
section XENDS
variable {E : xEnv} {l9 : Launch} {N9 : Nat} {D9 : va_G} {T9 : Nat → ClassId} {cc : ByteArray} {own : String} {nL9 : Nat} {ret : Option FieldType} {tab : List ExceptionTableEntry} {R9 : Room} {nw9 : Nat → Prop} {k n : Nat} {hp : xH} {pc : Nat} {L : List (Nat × Value)} {S : List Value}
/-! returns -/
theorem xret_of {p : Program} {l : Launch} {e : Env} {R : Room} {s : State} {m : MethodId} {args : Array Value} {below : List Frame} {meth : Method} {c : Code} {D : va_G} {dT : Nat → ClassId} {N0 nL : Nat} {nw : Nat → Prop} {ad0 ad : Nat → Nat} {Q : State → Prop} {r : Option Value} {H : Heap} {locs : List Loc} (hA : aR (p, l, e, R, s, m, args, below, meth, c, D, dT, N0, nL, nw, ad0, Q) r hp) (ha : ∀ j, ¬ nw j → ad j = ad0 j) (hR : xR N0 D dT ad hp H) (hS : va_S (fun q => N0 ≤ q) s.heap H locs) : ∀ t : State, MQ below (fun _ _ o t => o = .returned (r.map (x_cv ad)) ∧ t.heap = H) args s R.cells R.slots (fun q => N0 ≤ q) t → Q t := by
  intro t ⟨o, h1, h2, ⟨h3, h4⟩, L, h5, h6⟩
  subst h3
  exact hA ad t L ha (by rw [h4]; exact hR) (hS.F h4) h1 h2 h5 h6
theorem a_iret (C : aC E l9 N9 D9 T9 cc own nL9 (some .int) tab R9 nw9) {v : Int32} (hd : decode cc pc = .ok (.ireturn, 1)) (hk : k ≤ R9.cells) (hn : n ≤ R9.slots) (hA : aR E (some (.int v)) hp) : aW E k n hp pc L [.int v] := by
  obtain ⟨p, l, e, R, s, m, args, below, meth, c, D, dT, N0, nL, nw, ad0, Q⟩ := E
  obtain ⟨⟨hx, hb, hml, hown, hts⟩, hr, hlk, htab, hK, hZ, hnw, hst, rfl, rfl, rfl, rfl, rfl, rfl, rfl⟩ := C
  intro ad H locs ls ha hR hS hl
  exact W_mono (xret_of hA ha hR hS) (W.widen hk hn (W.iret (v := v) hx hb hr (fun t ht hW => ⟨rfl, ht⟩) hS.2.2 hd hlk))
theorem a_zret (C : aC E l9 N9 D9 T9 cc own nL9 (some .boolean) tab R9 nw9) {v : Int32} (hd : decode cc pc = .ok (.ireturn, 1)) (hv : narrow .boolean (.int v) = .int v) (hk : k ≤ R9.cells) (hn : n ≤ R9.slots) (hA : aR E (some (.int v)) hp) : aW E k n hp pc L [.int v] := by
  obtain ⟨p, l, e, R, s, m, args, below, meth, c, D, dT, N0, nL, nw, ad0, Q⟩ := E
  obtain ⟨⟨hx, hb, hml, hown, hts⟩, hr, hlk, htab, hK, hZ, hnw, hst, rfl, rfl, rfl, rfl, rfl, rfl, rfl⟩ := C
  intro ad H locs ls ha hR hS hl
  exact W_mono (xret_of hA ha hR hS) (W.widen hk hn (W.zret (v := v) hx hb hr hv (fun t ht hW => ⟨rfl, ht⟩) hS.2.2 hd hlk))
theorem a_lret (C : aC E l9 N9 D9 T9 cc own nL9 (some .long) tab R9 nw9) {v : Int64} (hd : decode cc pc = .ok (.lreturn, 1)) (hk : k ≤ R9.cells) (hn : n ≤ R9.slots) (hA : aR E (some (.long v)) hp) : aW E k n hp pc L [.long v] := by
  obtain ⟨p, l, e, R, s, m, args, below, meth, c, D, dT, N0, nL, nw, ad0, Q⟩ := E
  obtain ⟨⟨hx, hb, hml, hown, hts⟩, hr, hlk, htab, hK, hZ, hnw, hst, rfl, rfl, rfl, rfl, rfl, rfl, rfl⟩ := C
  intro ad H locs ls ha hR hS hl
  exact W_mono (xret_of hA ha hR hS) (W.widen hk hn (W.lret (v := v) hx hb hr (fun t ht hW => ⟨rfl, ht⟩) hS.2.2 hd hlk))
theorem a_vret (C : aC E l9 N9 D9 T9 cc own nL9 none tab R9 nw9) (hd : decode cc pc = .ok (.return_, 1)) (hk : k ≤ R9.cells) (hn : n ≤ R9.slots) (hA : aR E none hp) : aW E k n hp pc L [] := by
  obtain ⟨p, l, e, R, s, m, args, below, meth, c, D, dT, N0, nL, nw, ad0, Q⟩ := E
  obtain ⟨⟨hx, hb, hml, hown, hts⟩, hr, hlk, htab, hK, hZ, hnw, hst, rfl, rfl, rfl, rfl, rfl, rfl, rfl⟩ := C
  intro ad H locs ls ha hR hS hl
  exact W_mono (xret_of hA ha hR hS) (W.widen hk hn (W.vret hx hb hr (fun t ht hW => ⟨rfl, ht⟩) hS.2.2 hd hlk))
theorem a_aret {rt : FieldType} (C : aC E l9 N9 D9 T9 cc own nL9 (some rt) tab R9 nw9) {a : Nat} (hd : decode cc pc = .ok (.areturn, 1)) (hrt : (∃ n, rt = .object n) ∨ ∃ t, rt = .array t) (hk : k ≤ R9.cells) (hn : n ≤ R9.slots) (hA : aR E (some (.ref a)) hp) : aW E k n hp pc L [.ref a] := by
  obtain ⟨p, l, e, R, s, m, args, below, meth, c, D, dT, N0, nL, nw, ad0, Q⟩ := E
  obtain ⟨⟨hx, hb, hml, hown, hts⟩, hr, hlk, htab, hK, hZ, hnw, hst, rfl, rfl, rfl, rfl, rfl, rfl, rfl⟩ := C
  intro ad H locs ls ha hR hS hl
  exact W_mono (xret_of hA ha hR hS) (W.widen hk hn (W.aret (v := .ref (ad a)) hx hb hr hrt (Or.inr ⟨_, rfl⟩) (fun t ht hW => ⟨rfl, ht⟩) hS.2.2 hd hlk))
/-! references -/
theorem x_acmp {ad : Nat → Nat} {N0 : Nat} {D : va_G} {dT : Nat → ClassId} {H : Heap} {a b : Nat} {e f : va_E} (hR : xR N0 D dT ad hp H) (h1 : hp a = some e) (h2 : hp b = some f) : some (ad a) = some (ad b) ↔ a = b := ⟨fun h => hR.2 a b e f h1 h2 (Option.some.inj h), fun h => by rw [h]⟩
theorem a_acmp_ne (C : aC E l9 N9 D9 T9 cc own nL9 ret tab R9 nw9) {a b : Nat} {e f : va_E} {off : Int} {tgt : Nat} (hd : decode cc pc = .ok (.if_acmp .ne off, 3)) (ht : (pc : Int) + off = (tgt : Int)) (h1 : hp a = some e) (h2 : hp b = some f) (kt : ¬ a = b → aW E k n hp tgt L S) (kf : a = b → aW E k n hp (pc + 3) L S) : aW E k n hp pc L (.ref b :: .ref a :: S) := by
  obtain ⟨p, l, e, R, s, m, args, below, meth, c, D, dT, N0, nL, nw, ad0, Q⟩ := E
  obtain ⟨⟨hx, hb, hml, hown, hts⟩, hr, hlk, htab, hK, hZ, hnw, hst, rfl, rfl, rfl, rfl, rfl, rfl, rfl⟩ := C
  intro ad H locs ls ha hR hS hl
  exact lv_acmp_ne (rx := some (ad a)) (ry := some (ad b)) hx hb hd ht (fun z => kt (fun q => z ((x_acmp hR h1 h2).mpr q)) ad H locs ls ha hR hS hl) (fun z => kf ((x_acmp hR h1 h2).mp z) ad H locs ls ha hR hS hl)
theorem a_castY (C : aC E l9 N9 D9 T9 cc own nL9 ret tab R9 nw9) {a ci : Nat} {fs : List Value} {nm : String} {index : Nat} {q : vw_C} (hd : decode cc pc = .ok (.checkcast index, 3)) (hlink : Cond.classLink own index nm ∈ xTB) (hh : hp a = some (.inr (ci, fs))) (hc : vwCl[ci]? = some q) (hcast : Cond.castable q.1 nm ∈ xTN) (kk : aW E k n hp (pc + 3) L (.ref a :: S)) : aW E k n hp pc L (.ref a :: S) := by
  obtain ⟨p, l, e, R, s, m, args, below, meth, c, D, dT, N0, nL, nw, ad0, Q⟩ := E
  obtain ⟨⟨hx, hb, hml, hown, hts⟩, hr, hlk, htab, hK, hZ, hnw, hst, rfl, rfl, rfl, rfl, rfl, rfl, rfl⟩ := C
  intro ad H locs ls ha hR hS hl
  exact va_castY (C := q.1) hx hb hown (hts _ hlink) (hZ.2.2.2.2.1.2 _ hcast) (va_recv hK (hR.one hh) hc (q0 := 0) rfl) hd (kk ad H locs ls ha hR hS hl)
/-! makings -/
theorem a_new (C : aC E l9 N9 D9 T9 cc own nL9 ret tab R9 nw9) (a : Nat) {ci N index : Nat} {Cn : String} {T : u_T} {ty : Nat → FieldType} {fs : List Value} (hd : decode cc pc = .ok (.new index, 3)) (hcl : Cond.classLink own index Cn ∈ xTB) (hinst : Cond.instantiable Cn N ∈ xTB) (hini : Cond.initialized Cn ∈ xTB) (hin : ∀ w ∈ u_ws Cn T N, w ∈ xTB) (hty : ∀ k, k < N → parseFieldDescriptor (T k).2.2.1 = some (ty k)) (hc : vwCl[ci]? = some (Cn, T, N)) (hfs : ∀ j, j < N → defaultValue (ty j) = vp_V fs j) (hfs2 : ∀ v ∈ fs, ∀ j, v ≠ .ref j) (hw : nw9 a) (hfr : xfr a hp L S) (hk : k + 1 ≤ R9.cells) (hn : n + N ≤ R9.slots)
    (kk : aW E (k + 1) (n + N) (xup hp a (.inr (ci, fs))) (pc + 3) L (.ref a :: S)) : aW E k n hp pc L S := by
  obtain ⟨p, l, e, R, s, m, args, below, meth, c, D, dT, N0, nL, nw, ad0, Q⟩ := E
  obtain ⟨⟨hx, hb, hml, hown, hts⟩, hr, hlk, htab, hK, hZ, hnw, hst, rfl, rfl, rfl, rfl, rfl, rfl, rfl⟩ := C
  intro ad H locs ls ha hR hS hl
  have hN : N0 ≤ H.size := Nat.le_trans hZ.1 hS.1
  have hKn := hK.1 ci _ hc
  refine W.newcK hx hb hown (hts _ hcl) (hts _ hinst) (hts _ hini) rfl hd hk hn hKn.2.1 rfl fun H1 kC hkC e1 z1 o1 => ?_
  have hA : ∀ j, j ≠ a → va_up ad a H.size j = ad j := fun j hj => if_neg hj
  have hfm : fs.map (x_cv (va_up ad a H.size)) = fs := by
    have : ∀ v ∈ fs, x_cv (va_up ad a H.size) v = v := fun v hv => by
      cases v with
      | ref j => exact absurd rfl (hfs2 _ hv j)
      | _ => rfl
    calc fs.map (x_cv (va_up ad a H.size)) = fs.map id := List.map_congr_left this
      _ = fs := List.map_id fs
  have hat : va_at D vwCl (H.size, x_ce dT (va_up ad a H.size) (.inr (ci, fs))) H1 := by
    refine ⟨_, hc, (u_born ty hts hin hKn hkC e1 hty).to fun j hj => ?_⟩
    show _ = vp_V (fs.map _) j
    rw [hfm]
    exact hfs j hj
  have w := kk (va_up ad a H.size) H1 locs ls (fun j hj => (hA j (fun z => hj (z ▸ hw))).trans (ha j hj)) (hR.new hfr.1 (Nat.le_refl _) hN hat o1) ⟨Nat.le_trans hS.1 (by omega), fun x h1 h2 => (o1 x (Nat.lt_of_lt_of_le h1 hS.1)).trans (hS.2.1 x h1 h2), hS.2.2⟩ (by rw [xcl_nr hfr.2.1 hA]; exact hl)
  rw [List.map_cons, xst_nr hfr.2.2 hA] at w
  rw [show x_cv (va_up ad a H.size) (.ref a) = .ref H.size from congrArg Value.ref (if_pos rfl)] at w
  exact w
theorem a_newa (C : aC E l9 N9 D9 T9 cc own nL9 ret tab R9 nw9) (a t : Nat) {atype : ArrayType} {ty : FieldType} {x : Int32} {N : Nat} {f : (Nat → Int32) ⊕ (Nat → Int64) ⊕ (Nat → UInt32) ⊕ (Nat → UInt64) ⊕ (Nat → Option Nat)} (hd : decode cc pc = .ok (.newarray atype, 2)) (hty : newarray.typeOf atype = ty) (ht : ∀ dT : Nat → ClassId, (xtys dT)[t]? = some (dT t, ty)) (hnm : ∀ Cn, ty ≠ .object Cn) (harr : Cond.arrayClass ty ∈ xTB) (hf : ∀ cA : ClassId, vp_cell cA (N, f) = arrV cA N (fun _ => defaultValue ty)) (hf2 : ∀ ad, x_ca ad (N, f) = (N, f)) (hx0 : ¬ x < 0) (hxN : x.toNatClampNeg = N) (hbytes : N * componentBytes ty ≤ 536870912) (hw : nw9 a) (hfr : xfr a hp L S) (hk : k + 1 ≤ R9.cells) (hn : n + N ≤ R9.slots)
    (kk : aW E (k + 1) (n + N) (xup hp a (.inl (t, N, f))) (pc + 2) L (.ref a :: S)) : aW E k n hp pc L (.int x :: S) := by
  obtain ⟨p, l, e, R, s, m, args, below, meth, c, D, dT, N0, nL, nw, ad0, Q⟩ := E
  obtain ⟨⟨hx, hb, hml, hown, hts⟩, hr, hlk, htab, hK, hZ, hnw, hst, rfl, rfl, rfl, rfl, rfl, rfl, rfl⟩ := C
  intro ad H locs ls ha hR hS hl
  subst hty
  have hN : N0 ≤ H.size := Nat.le_trans hZ.1 hS.1
  refine va_newaK hx hb (hts _ harr) rfl hd rfl hx0 hxN hbytes hk hn rfl fun H1 cA e1 z1 o1 hAr hNm => ?_
  have hcA : cA = dT t := by
    have h2 := (hK.2 t _ (ht dT)).2
    revert h2 hNm hnm
    cases atype <;> intro hnm hNm h2 <;> exact Option.some.inj (hNm.symm.trans h2)
  have hA : ∀ j, j ≠ a → va_up ad a H.size j = ad j := fun j hj => if_neg hj
  have hat : va_at D vwCl (H.size, x_ce dT (va_up ad a H.size) (.inl (t, N, f))) H1 := by
    show H1[H.size]? = some (vp_cell (dT t) (x_ca _ (N, f)))
    rw [hf2, hf, ← hcA]
    exact e1
  have w := kk (va_up ad a H.size) H1 locs ls (fun j hj => (hA j (fun z => hj (z ▸ hw))).trans (ha j hj)) (hR.new hfr.1 (Nat.le_refl _) hN hat o1) ⟨Nat.le_trans hS.1 (by omega), fun x h1 h2 => (o1 x (Nat.lt_of_lt_of_le h1 hS.1)).trans (hS.2.1 x h1 h2), hS.2.2⟩ (by rw [xcl_nr hfr.2.1 hA]; exact hl)
  rw [List.map_cons, xst_nr hfr.2.2 hA] at w
  rw [show x_cv (va_up ad a H.size) (.ref a) = .ref H.size from congrArg Value.ref (if_pos rfl)] at w
  exact w
theorem a_newq (C : aC E l9 N9 D9 T9 cc own nL9 ret tab R9 nw9) (a : Nat) {index : Nat} {x : Int32} {N : Nat} (hd : decode cc pc = .ok (.anewarray index, 3)) (hlink : Cond.classLink own index "java/lang/Object" ∈ xTB) (hx0 : ¬ x < 0) (hxN : x.toNatClampNeg = N) (hbytes : N * 4 ≤ 536870912) (hw : nw9 a) (hfr : xfr a hp L S) (hk : k + 1 ≤ R9.cells) (hn : n + N ≤ R9.slots)
    (kk : aW E (k + 1) (n + N) (xup hp a (.inl (3, N, .inr (.inr (.inr (.inr (fun _ => none))))))) (pc + 3) L (.ref a :: S)) : aW E k n hp pc L (.int x :: S) := by
  obtain ⟨p, l, e, R, s, m, args, below, meth, c, D, dT, N0, nL, nw, ad0, Q⟩ := E
  obtain ⟨⟨hx, hb, hml, hown, hts⟩, hr, hlk, htab, hK, hZ, hnw, hst, rfl, rfl, rfl, rfl, rfl, rfl, rfl⟩ := C
  intro ad H locs ls ha hR hS hl
  subst hxN
  have hN : N0 ≤ H.size := Nat.le_trans hZ.1 hS.1
  obtain ⟨kA0, comp0, g1, g2, g3, g4⟩ := (hK.2 3 _ rfl).2
  refine W.anew hx hb hown (hts _ hlink) (va_AO.use hZ.2.2.2.2.2.2.1) rfl hd rfl hx0 hbytes hk hn fun cA kA comp f1 f2 f3 f4 => ?_
  generalize hH1 : H.push ({ cls := cA, slots := Array.replicate x.toNatClampNeg .null, vm := .none } : Cell) = H1
  have z1 : H1.size = H.size + 1 := by rw [← hH1, Array.size_push]
  have e1 : H1[H.size]? = some (arrV cA x.toNatClampNeg (fun _ => .null)) := by rw [← hH1, Array.getElem?_push_size, ← arrV_new]
  have o1 : ∀ q : Nat, q < H.size → H1[q]? = H[q]? := fun q hq => by rw [← hH1, Array.getElem?_push, if_neg (Nat.ne_of_lt hq)]
  have hcA : cA = dT 3 := by
    exact Option.some.inj (f1.symm.trans g4)
  have hA : ∀ j, j ≠ a → va_up ad a H.size j = ad j := fun j hj => if_neg hj
  have hat : va_at D vwCl (H.size, x_ce dT (va_up ad a H.size) (.inl (3, x.toNatClampNeg, .inr (.inr (.inr (.inr (fun _ => none))))))) H1 := by
    show H1[H.size]? = some (vp_cell (dT 3) (x.toNatClampNeg, .inr (.inr (.inr (.inr (fun _ => none))))))
    rw [← hcA]
    exact e1
  have w := kk (va_up ad a H.size) H1 locs ls (fun j hj => (hA j (fun z => hj (z ▸ hw))).trans (ha j hj)) (hR.new hfr.1 (Nat.le_refl _) hN hat o1) ⟨Nat.le_trans hS.1 (by omega), fun x h1 h2 => (o1 x (Nat.lt_of_lt_of_le h1 hS.1)).trans (hS.2.1 x h1 h2), hS.2.2⟩ (by rw [xcl_nr hfr.2.1 hA]; exact hl)
  rw [List.map_cons, xst_nr hfr.2.2 hA] at w
  rw [show x_cv (va_up ad a H.size) (.ref a) = .ref H.size from congrArg Value.ref (if_pos rfl)] at w
  exact w
/-- the constructor of Object -/
theorem a_oinit (C : aC E l9 N9 D9 T9 cc own nL9 ret tab R9 nw9) {a index : Nat} (hd : decode cc pc = .ok (.invokespecial index, 3)) (hlink : Cond.methodLink own index Lib.objectInit ∈ xTB) (hinst : Cond.instanceMethod Lib.objectInit ∈ xTB) (hcode : Cond.code Lib.objectInit ⟨#[0xb1]⟩ 1 none ∈ xTB) (hcat : (S.map fun v => v.category).sum ≤ 8) (hf : 1 ≤ R9.frames) (hlo : 20 ≤ R9.locals) (kk : aW E k n hp (pc + 3) L S) : aW E k n hp pc L (.ref a :: S) := by
  obtain ⟨p, l, e, R, s, m, args, below, meth, c, D, dT, N0, nL, nw, ad0, Q⟩ := E
  obtain ⟨⟨hx, hb, hml, hown, hts⟩, hr, hlk, htab, hK, hZ, hnw, hst, rfl, rfl, rfl, rfl, rfl, rfl, rfl⟩ := C
  intro ad H locs ls ha hR hS hl
  refine W.objInit hx hb hown (hts _ hlink) (hts _ hinst) (hts _ hcode) rfl (by rw [hml]; exact hl.1) rfl hd hf ?_ (kk ad H locs ls ha hR hS hl)
  have : ((S.map (x_cv ad)).map fun v => v.category) = S.map fun v => v.category := by
    rw [List.map_map]
    exact List.map_congr_left fun v _ => x_cv_cat ad v
  rw [this]
  show 2 * 0 + _ + 12 ≤ _
  omega
end XENDS
end
section
/-! Calls, throws, and a method's contract out of the walk of its body. -/
/-- what the table says of a method: a virtual one, a static one, a constructor -/
def xCV (y : MethodName) (b : ByteArray) (n : Nat) (ret : Option FieldType) (na : Nat) : Prop := Cond.instanceMethod y ∈ xTB ∧ Cond.selects y.cls y y ∈ xTB ∧ Cond.initialized y.cls ∈ xTB ∧ Cond.code y b n ret ∈ xTB ∧ (y.cls ≠ "java/lang/invoke/MethodHandle" ∧ y.cls ≠ "java/lang/invoke/VarHandle" ∧ (parseMethodDescriptor y.desc).map (fun d => d.parameters.length) = some na)
def xCS (y : MethodName) (b : ByteArray) (n : Nat) (ret : Option FieldType) (na : Nat) : Prop := Cond.static y ∈ xTB ∧ Cond.initialized y.cls ∈ xTB ∧ Cond.code y b n ret ∈ xTB ∧ (y.cls ≠ "java/lang/invoke/MethodHandle" ∧ y.cls ≠ "java/lang/invoke/VarHandle" ∧ (parseMethodDescriptor y.desc).map (fun d => d.parameters.length) = some na)
def xCI (y : MethodName) (b : ByteArray) (n : Nat) (na : Nat) : Prop := Cond.instanceMethod y ∈ xTB ∧ y.name = "<init>" ∧ Cond.initialized y.cls ∈ xTB ∧ Cond.code y b n none ∈ xTB ∧ (y.cls ≠ "java/lang/invoke/MethodHandle" ∧ y.cls ≠ "java/lang/invoke/VarHandle" ∧ (parseMethodDescriptor y.desc).map (fun d => d.parameters.length) = some na)
/-- the callee's new numbers are not in the caller's locals and stack -/
def xav (nw : Nat → Prop) (L : List (Nat × Value)) (S : List Value) : Prop := (∀ q ∈ L, ∀ j, q.2 = .ref j → ¬ nw j) ∧ ∀ v ∈ S, ∀ j, v = .ref j → ¬ nw j
abbrev xNo : Nat → Prop := fun _ => False
abbrev xNX : String → xH → Prop := fun _ _ => False
theorem xav_no {L : List (Nat × Value)} {S : List Value} : xav xNo L S := ⟨fun _ _ _ _ h => h, fun _ _ _ _ h => h⟩
theorem xav_cl {nw : Nat → Prop} {L : List (Nat × Value)} {ad ad' : Nat → Nat} (h : ∀ q ∈ L, ∀ j, q.2 = .ref j → ¬ nw j) (hA : ∀ j, ¬ nw j → ad' j = ad j) : xcl ad' L = xcl ad L := by
  unfold xcl
  refine List.map_congr_left fun q hq => ?_
  have : x_cv ad' q.2 = x_cv ad q.2 := by
    cases hv : q.2 with
    | ref j => exact congrArg Value.ref (hA j (h q hq j hv))
    | _ => rfl
  rw [this]
theorem xav_st {nw : Nat → Prop} {S : List Value} {ad ad' : Nat → Nat} (h : ∀ v ∈ S, ∀ j, v = .ref j → ¬ nw j) (hA : ∀ j, ¬ nw j → ad' j = ad j) : S.map (x_cv ad') = S.map (x_cv ad) :=
  List.map_congr_left fun v hv => by
    cases v with
    | ref j => exact congrArg Value.ref (hA j (h _ hv j rfl))
    | _ => rfl
theorem x_cats (ad : Nat → Nat) (S : List Value) : ((S.map (x_cv ad)).map fun v => v.category) = S.map fun v => v.category := by
  rw [List.map_map]
  exact List.map_congr_left fun v _ => x_cv_cat ad v
section XCALLS
variable {E : xEnv} {l9 : Launch} {N9 : Nat} {D9 : va_G} {T9 : Nat → ClassId} {cc : ByteArray} {own : String} {nL9 : Nat} {ret : Option FieldType} {tab : List ExceptionTableEntry} {R9 : Room} {nw9 : Nat → Prop} {k n : Nat} {hp : xH} {pc : Nat} {L : List (Nat × Value)} {S S' : List Value}
/-- a contract's start, at a call -/
theorem xPre {s : State} {H : Heap} {locs : List Loc} {N0 : Nat} {D : va_G} {dT : Nat → ClassId} {ad ad0 : Nat → Nat} {nw : Nat → Prop} {as : List Value} (hnw : ∀ j, 900 ≤ j → ¬ nw j) (ha : ∀ j, ¬ nw j → ad j = ad0 j) (hR : xR N0 D dT ad hp H) (hS : va_S (fun q => N0 ≤ q) s.heap H locs) (hK : xK D dT s) (hZ : xZ N0 dT ad0 s s.heap) (U : State) (hU : U.heap = H) (hW : s.WarmedH U.vm) : xPc N0 D dT ad as hp ((as.map (x_cv ad)).toArray) U :=
  ⟨rfl, by rw [hU]; exact hR, va_K.moved hW.alike hK, by rw [hU]; exact xZ.to hZ hW.alike (xStr.warm hW hZ.2.2.2.2.1) (fun q h1 h2 => hS.2.1 q h1 h2) hS.1 (fun j hj => ha j (hnw j hj))⟩
/-- behind a call of any kind -/
theorem xrun {p : Program} {l : Launch} {e : Env} {R : Room} {s : State} {m : MethodId} {args : Array Value} {below : List Frame} {meth : Method} {c : Code} {D : va_G} {dT : Nat → ClassId} {N0 nL : Nat} {nw nw' : Nat → Prop} {ad0 ad : Nat → Nat} {Q : State → Prop} {H : Heap} {locs : List Loc} {ls : Array Slot} {st0 : List Value} {a : Array Value} {mc ms : Nat} {post : Option Value → xH → Prop} {px : String → xH → Prop}
    (hr : vx_Run p l e R s m args below meth c H locs k n mc ms (F0 m pc ls st0) (S'.map (x_cv ad)) (xQc N0 D dT ad nw' post a) (xXc N0 D dT ad nw' px) (fun q => N0 ≤ q)) (ha : ∀ j, ¬ nw j → ad j = ad0 j) (hsub : ∀ j, nw' j → nw j) (hav : xav nw' L S') (hS : va_S (fun q => N0 ≤ q) s.heap H locs) (hl : lv_has ls nL (xcl ad L))
    (kx : ∀ x hp', px x hp' → aX (p, l, e, R, s, m, args, below, meth, c, D, dT, N0, nL, nw, ad0, Q) (k + mc) (n + ms) hp' pc L x) (kk : ∀ r hp', post r hp' → aW (p, l, e, R, s, m, args, below, meth, c, D, dT, N0, nL, nw, ad0, Q) (k + mc) (n + ms) hp' (pc + 3) L (r.toList ++ S')) : W p l e R s m args below meth c H locs k n Q (F0 m pc ls st0) := by
  intro T hT X
  rcases hr T hT X with ⟨v, st₀, t, T', L9, h0, X', hL, e1, e2, ⟨r, hp', ad', hv, hp1, hA, hR1, hF⟩, st⟩ | ⟨q, st₀, t, T', L9, x, ce, h0, X', hL, e1, e2, ⟨hp', ad', hp1, hA, hR1, hF⟩, hce, hcv, hcl, st⟩
  · cases hv
    obtain ⟨k1, k2, k3⟩ := vx_keep (A0 := fun q => N0 ≤ q) (A1 := fun q => N0 ≤ q) h0 e1 hS (fun _ _ h => h) (fun _ h => h) hL hF
    have w := kk r hp' hp1 ad' T'.heap (locs ++ L9) ls (fun j hj => (hA j (fun z => hj (hsub j z))).trans (ha j hj)) (by rw [e1]; exact hR1) k3 (by rw [xav_cl hav.1 hA]; exact hl)
    obtain ⟨t2, a1, b1⟩ := w T' rfl X'
    refine ⟨t2, st t2 ?_, b1⟩
    have es : (r.map (x_cv ad')).toList ++ S'.map (x_cv ad) = (r.toList ++ S').map (x_cv ad') := by
      rw [List.map_append, xav_st hav.2 hA]
      cases r <;> rfl
    show Steps p.tables e below (T'.setTop (F0 m (pc + 3) ls ((r.map (x_cv ad')).toList ++ S'.map (x_cv ad)))) t2
    rw [es]
    exact a1
  · obtain ⟨k1, k2, k3⟩ := vx_keep (A0 := fun q => N0 ≤ q) (A1 := fun q => N0 ≤ q) h0 e1 hS (fun _ _ h => h) (fun _ h => h) hL hF
    have w := kx x hp' hp1 ad' T'.heap (locs ++ L9) ls (S'.map (x_cv ad)) q ce (fun j hj => (hA j (fun z => hj (hsub j z))).trans (ha j hj)) (by rw [e1]; exact hR1) k3 (by rw [xav_cl hav.1 hA]; exact hl) (by rw [e1]; exact hce) hcv hcl
    obtain ⟨t2, a1, b1⟩ := w T' rfl X'
    exact ⟨t2, st.trans a1, b1⟩
theorem a_callV (C : aC E l9 N9 D9 T9 cc own nL9 ret tab R9 nw9) {index : Nat} {y : MethodName} {b : ByteArray} {m9 : Nat} {ret' : Option FieldType} {d' mc ms na a ci : Nat} {As : List Value} {nw' : Nat → Prop} {post : Option Value → xH → Prop} {px : String → xH → Prop} {fs : List Value} (hd : decode cc pc = .ok (.invokevirtual index, 3)) (hcv : xCV y b m9 ret' na) (hlink : Cond.methodLink own index y ∈ xTB) (hM : xMet l9 N9 D9 T9 y b m9 ret' d' mc ms (.ref a :: As) hp nw' post px) (hst : S = As.reverse ++ .ref a :: S') (hna : As.length = na) (hrecv : hp a = some (.inr (ci, fs))) (hcl : (vwCl[ci]?).map (·.1) = some y.cls) (hcat : (S'.map fun v => v.category).sum ≤ 8) (hRm : d' + 1 ≤ R9.frames ∧ 8 + (m9 + 11) + 40 * d' ≤ R9.locals) (hbud : k + mc ≤ R9.cells ∧ n + ms ≤ R9.slots) (hsub : ∀ j, nw' j → nw9 j) (hav : xav nw' L S')
    (kx : ∀ x hp', px x hp' → aX E (k + mc) (n + ms) hp' pc L x) (kk : ∀ r hp', post r hp' → aW E (k + mc) (n + ms) hp' (pc + 3) L (r.toList ++ S')) : aW E k n hp pc L S := by
  obtain ⟨p, l, e, R, s, m, args, below, meth, c, D, dT, N0, nL, nw, ad0, Q⟩ := E
  obtain ⟨⟨hx, hb, hml, hown, hts⟩, hr, hlk, htab, hK, hZ, hnw, hst9, rfl, rfl, rfl, rfl, rfl, rfl, rfl⟩ := C
  intro ad H locs ls ha hR hS hl
  obtain ⟨c1, c2, c3, c4, c5⟩ := hcv
  have hG : GoodIn xTB (wsV own index y.cls y (xws y b m9 ret')) := xtb_in fun w hw => by
    rcases List.mem_append.mp hw with hw | hw
    · simp only [List.mem_cons, List.not_mem_nil, or_false] at hw
      rcases hw with rfl | rfl | rfl | rfl <;> assumption
    · rcases List.mem_cons.mp hw with rfl | hw
      · exact c4
      · exact hw
  have cw := cwV (R := R) (rm := xRm d' mc ms) na hts hG rfl rfl rfl ⟨rfl, c5⟩ hRm
  obtain ⟨qc, hqc, hq1⟩ := Option.map_eq_some_iff.mp hcl
  have hPre := fun U hU hW => xPre (as := .ref a :: As) hnw ha hR hS hK hZ U hU hW
  refine xrun (vx_runV (As := As.map (x_cv ad)) (rest := S'.map (x_cv ad)) ⟨hx, hb, hml, hown, hts⟩ (hM ad) cw ⟨xPc_blind, ?_, hPre⟩ rfl (by rw [List.length_map]; exact hna) hl.1 ?_ (lv_room (by rw [x_cats]; exact hcat)) hd hbud) ha hsub hav hS hl kx kk
  · have := va_recv hK (hR.one hrecv) hqc (q0 := 0) rfl
    rw [hq1] at this
    exact this
  · subst hst
    show (As.reverse ++ .ref a :: S').map (x_cv ad) = _
    rw [List.map_append, List.map_reverse]
    rfl
theorem a_callS (C : aC E l9 N9 D9 T9 cc own nL9 ret tab R9 nw9) {index : Nat} {y : MethodName} {b : ByteArray} {m9 : Nat} {ret' : Option FieldType} {d' mc ms na : Nat} {As : List Value} {nw' : Nat → Prop} {post : Option Value → xH → Prop} {px : String → xH → Prop} (hd : decode cc pc = .ok (.invokestatic index, 3)) (hcv : xCS y b m9 ret' na) (hlink : Cond.methodLink own index y ∈ xTB) (hM : xMet l9 N9 D9 T9 y b m9 ret' d' mc ms As hp nw' post px) (hst : S = As.reverse ++ S') (hna : As.length = na) (hcat : (S'.map fun v => v.category).sum ≤ 8) (hRm : d' + 1 ≤ R9.frames ∧ 8 + (m9 + 11) + 40 * d' ≤ R9.locals) (hbud : k + mc ≤ R9.cells ∧ n + ms ≤ R9.slots) (hsub : ∀ j, nw' j → nw9 j) (hav : xav nw' L S')
    (kx : ∀ x hp', px x hp' → aX E (k + mc) (n + ms) hp' pc L x) (kk : ∀ r hp', post r hp' → aW E (k + mc) (n + ms) hp' (pc + 3) L (r.toList ++ S')) : aW E k n hp pc L S := by
  obtain ⟨p, l, e, R, s, m, args, below, meth, c, D, dT, N0, nL, nw, ad0, Q⟩ := E
  obtain ⟨⟨hx, hb, hml, hown, hts⟩, hr, hlk, htab, hK, hZ, hnw, hst9, rfl, rfl, rfl, rfl, rfl, rfl, rfl⟩ := C
  intro ad H locs ls ha hR hS hl
  obtain ⟨c1, c2, c4, c5⟩ := hcv
  have cw : CallB R s args own index y b m9 ret' (xws y b m9 ret') (xRm d' mc ms) mc ms na ∧ (Cond.static y).before args s = true := ⟨callB_of na hts (xws_in c4) rfl rfl rfl (hts _ c2) (hts _ hlink) c5 hRm, hts _ c1⟩
  have hPre := fun U hU hW => xPre (as := As) hnw ha hR hS hK hZ U hU hW
  refine xrun (vx_runS (As := As.map (x_cv ad)) (rest := S'.map (x_cv ad)) ⟨hx, hb, hml, hown, hts⟩ (hM ad) cw ⟨xPc_blind, hPre⟩ rfl (by rw [List.length_map]; exact hna) hl.1 ?_ (lv_room (by rw [x_cats]; exact hcat)) hd hbud) ha hsub hav hS hl kx kk
  subst hst
  show (As.reverse ++ S').map (x_cv ad) = _
  rw [List.map_append, List.map_reverse]
end XCALLS
theorem x_lgl (ad : Nat → Nat) (as : List Value) : (lg_sl (as.map (x_cv ad))).length = (lg_sl as).length := by
  induction as with
  | nil => rfl
  | cons v vs ih =>
    unfold lg_sl at ih ⊢
    rw [List.map_cons, List.flatMap_cons, List.flatMap_cons, List.length_append, List.length_append, ih]
    congr 1
    cases v <;> rfl
theorem x_args (ad : Nat → Nat) (as : List Value) : ∀ i, xcl ad (lv_args i as) = lv_args i (as.map (x_cv ad)) := by
  induction as with
  | nil => intro i; rfl
  | cons v vs ih =>
    intro i
    show (i, x_cv ad v) :: xcl ad (lv_args _ vs) = (i, x_cv ad v) :: lv_args _ (vs.map (x_cv ad))
    rw [ih, x_cv_cat]
/-- THE CONTRACT OUT OF THE WALK -/
theorem xMet_of {l : Launch} {N0 : Nat} {D : va_G} {dT : Nat → ClassId} {y : MethodName} {b : ByteArray} {nL : Nat} {ret : Option FieldType} {d mc ms : Nat} {as : List Value} {hp : xH} {nw : Nat → Prop} {post : Option Value → xH → Prop} {px : String → xH → Prop} (hflags : l.stackTraces = false) (hy : plainName y.cls = true) (hnw : ∀ j, 900 ≤ j → ¬ nw j) (hlen : (lg_sl as).length ≤ nL)
    (body : ∀ E : xEnv, aC E l N0 D dT b y.cls nL ret [] (xRm d mc ms) nw → (y.name = "<init>" → aI E) → (∀ r hp', post r hp' → aR E r hp') → (∀ x hp', px x hp' → aT E x hp') → aW E 0 0 hp 0 (lv_args 0 as) []) : xMet l N0 D dT y b nL ret d mc ms as hp nw post px := by
  intro ad
  refine vx_ofW (cc := b) (maxL := nL) (ret := ret) hy rfl ?_
  intro p e s m args below meth c s₁ B hml htab hv
  obtain ⟨rfl, hR, hK, hZ⟩ := hv
  have hts0 := atoms_spec (ws := xws y b nL ret) B.pre
  have hts : ∀ w ∈ xTB, w.before _ s = true := fun w hw => hts0 w (List.mem_cons_of_mem _ hw)
  have hown : s.vm.findClass y.cls = some m.cls := findClass_of_methodNamed B.named
  have htab' : c.exceptionTable.toList = [] := List.eq_nil_iff_forall_not_mem.mpr (fun x hx => htab x hx)
  have w := body (p, l, e, xRm d mc ms, s, m, (as.map (x_cv ad)).toArray, below, meth, c, D, dT, N0, nL, nw, ad, vx_MQ below (xQc N0 D dT ad nw post) (xXc N0 D dT ad nw px) (as.map (x_cv ad)).toArray s mc ms (fun q => N0 ≤ q))
    ⟨⟨B.exec, B.bytes, hml, hown, hts⟩, B.returns, B.notSynchronized, htab', hK, hZ, hnw, hflags, rfl, rfl, rfl, rfl, rfl, rfl, rfl⟩
    (fun hn => show meth.name = "<init>" from ((name_of_methodNamed B.named B.method).1).trans hn)
    (fun r hp' hp1 ad' t L hA hR1 hF h1 h2 h3 h4 => ⟨_, h1, h2, Or.inl ⟨⟨r, hp', ad', rfl, hp1, hA, hR1, hF⟩, L, h3, h4⟩⟩)
    (fun x hp' hp1 ad' t q hA hR1 hF h1 h2 h3 => by
      obtain ⟨ce, L, g1, g2, g3, g4, g5, g6⟩ := h3
      exact ⟨_, h1, h2, Or.inr ⟨q, rfl, x, ce, L, ⟨hp', ad', hp1, hA, hR1, hF⟩, g1, g2, g3, g4, g5, g6⟩⟩)
  have hlen' : (lg_sl (as.map (x_cv ad))).length ≤ nL := by rw [x_lgl]; exact hlen
  have hl := lv_entry (as.map (x_cv ad)) (n := nL) hlen'
  have w2 := w ad s.heap [] _ (fun _ _ => rfl) hR va_S.rf (by rw [x_args]; exact hl)
  rw [lg_entry_eq]
  exact w2
end
section
theorem xR.ext {N0 : Nat} {D : va_G} {dT : Nat → ClassId} {ad : Nat → Nat} {hp : xH} {H H1 : Heap} (h : xR N0 D dT ad hp H) (o : ∀ q : Nat, q < H.size → H1[q]? = H[q]?) : xR N0 D dT ad hp H1 :=
  ⟨fun k e hk => ⟨(h.1 k e hk).1.kept (o _ (h.1 k e hk).1.lt), (h.1 k e hk).2⟩, h.2⟩
/-- a contract that throws nothing, in the kit's own form -/
theorem xMet.met {l : Launch} {N0 : Nat} {D : va_G} {dT : Nat → ClassId} {y : MethodName} {b : ByteArray} {n : Nat} {ret : Option FieldType} {d mc ms : Nat} {as : List Value} {hp : xH} {nw : Nat → Prop} {post : Option Value → xH → Prop} (h : xMet l N0 D dT y b n ret d mc ms as hp nw post xNX) (ad : Nat → Nat) : Met l y (xws y b n ret) (xRm d mc ms) (xPc N0 D dT ad as hp) (xQc N0 D dT ad nw post) mc ms (fun q => N0 ≤ q) :=
  MetFree.mono (h ad) (fun _ _ h => h) (fun _ _ _ _ _ h => h) (fun a s o t _ hq => by
    rcases hq with hq | ⟨q, -, x, ce, L, ⟨hp', ad', hf, -⟩, -⟩
    · exact hq
    · exact hf.elim)
theorem vx_Run_of {p : Program} {l : Launch} {e : Env} {R : Room} {s : State} {m : MethodId} {args : Array Value} {below : List Frame} {meth : Method} {c : Code} {H : Heap} {locs : List Loc} {k n mc ms : Nat} {g : JFrame} {rest : List Value} {Qa : State → Outcome → State → Prop} {XC : String → State → State → Prop} {free : Addr → Prop} (h : va_Run p l e R s m args below meth c H locs k n mc ms g rest Qa free) : vx_Run p l e R s m args below meth c H locs k n mc ms g rest Qa XC free := fun T hT X => Or.inl (h T hT X)
section XTHROWS
variable {E : xEnv} {l9 : Launch} {N9 : Nat} {D9 : va_G} {T9 : Nat → ClassId} {cc : ByteArray} {own : String} {nL9 : Nat} {ret : Option FieldType} {tab : List ExceptionTableEntry} {R9 : Room} {nw9 : Nat → Prop} {k n : Nat} {hp : xH} {pc : Nat} {L : List (Nat × Value)} {S S' : List Value}
theorem a_callI (C : aC E l9 N9 D9 T9 cc own nL9 ret tab R9 nw9) {index : Nat} {y : MethodName} {b : ByteArray} {m9 : Nat} {d' mc ms na a : Nat} {As : List Value} {nw' : Nat → Prop} {post : Option Value → xH → Prop} (hd : decode cc pc = .ok (.invokespecial index, 3)) (hcv : xCI y b m9 na) (hlink : Cond.methodLink own index y ∈ xTB) (hM : xMet l9 N9 D9 T9 y b m9 none d' mc ms (.ref a :: As) hp nw' post xNX) (hst : S = As.reverse ++ .ref a :: S') (hna : As.length = na) (hcat : (S'.map fun v => v.category).sum ≤ 8) (hRm : d' + 1 ≤ R9.frames ∧ 8 + (m9 + 11) + 40 * d' ≤ R9.locals) (hbud : k + mc ≤ R9.cells ∧ n + ms ≤ R9.slots) (hsub : ∀ j, nw' j → nw9 j) (hav : xav nw' L S')
    (kk : ∀ r hp', post r hp' → aW E (k + mc) (n + ms) hp' (pc + 3) L (r.toList ++ S')) : aW E k n hp pc L S := by
  obtain ⟨p, l, e, R, s, m, args, below, meth, c, D, dT, N0, nL, nw, ad0, Q⟩ := E
  obtain ⟨⟨hx, hb, hml, hown, hts⟩, hr, hlk, htab, hK, hZ, hnw, hst9, rfl, rfl, rfl, rfl, rfl, rfl, rfl⟩ := C
  intro ad H locs ls ha hR hS hl
  obtain ⟨c1, c2, c3, c4, c5⟩ := hcv
  have cw := cwI (R := R) (rm := xRm d' mc ms) na hts (xws_in c4) rfl rfl rfl (hts _ c3) (hts _ hlink) (hts _ c1) c2 c5 hRm
  have hPre := fun U hU hW => xPre (as := .ref a :: As) hnw ha hR hS hK hZ U hU hW
  refine xrun (px := xNX) (vx_Run_of (va_runI (As := As.map (x_cv ad)) (rest := S'.map (x_cv ad)) ⟨hx, hb, hml, hown, hts⟩ (hM.met ad) cw ⟨xPc_blind, hPre⟩ rfl (by rw [List.length_map]; exact hna) hl.1 ?_ (lv_room (by rw [x_cats]; exact hcat)) hd hbud)) ha hsub hav hS hl (fun _ _ h => h.elim) kk
  subst hst
  show (As.reverse ++ .ref a :: S').map (x_cv ad) = _
  rw [List.map_append, List.map_reverse]
  rfl
/-- a nest mate's private constructor -/
theorem a_callIN (C : aC E l9 N9 D9 T9 cc own nL9 ret tab R9 nw9) {index : Nat} {host : String} {y : MethodName} {b : ByteArray} {m9 : Nat} {d' mc ms na a : Nat} {As : List Value} {nw' : Nat → Prop} {post : Option Value → xH → Prop} (hd : decode cc pc = .ok (.invokespecial index, 3)) (hcv : xCI y b m9 na) (hlink : Cond.methodLinkNest own index y host ∈ xTN) (hM : xMet l9 N9 D9 T9 y b m9 none d' mc ms (.ref a :: As) hp nw' post xNX) (hst : S = As.reverse ++ .ref a :: S') (hna : As.length = na) (hcat : (S'.map fun v => v.category).sum ≤ 8) (hRm : d' + 1 ≤ R9.frames ∧ 8 + (m9 + 11) + 40 * d' ≤ R9.locals) (hbud : k + mc ≤ R9.cells ∧ n + ms ≤ R9.slots) (hsub : ∀ j, nw' j → nw9 j) (hav : xav nw' L S')
    (kk : ∀ r hp', post r hp' → aW E (k + mc) (n + ms) hp' (pc + 3) L (r.toList ++ S')) : aW E k n hp pc L S := by
  obtain ⟨p, l, e, R, s, m, args, below, meth, c, D, dT, N0, nL, nw, ad0, Q⟩ := E
  obtain ⟨⟨hx, hb, hml, hown, hts⟩, hr, hlk, htab, hK, hZ, hnw, hst9, rfl, rfl, rfl, rfl, rfl, rfl, rfl⟩ := C
  intro ad H locs ls ha hR hS hl
  obtain ⟨c1, c2, c3, c4, c5⟩ := hcv
  have cw := va_cnB (R := R) (rm := xRm d' mc ms) na hts (xws_in c4) rfl rfl rfl (hZ.2.2.2.2.1.2 _ hlink) (hts _ c3) c5 hRm
  have hPre := fun U hU hW => xPre (as := .ref a :: As) hnw ha hR hS hK hZ U hU hW
  refine xrun (px := xNX) (vx_Run_of (va_runIN (As := As.map (x_cv ad)) (rest := S'.map (x_cv ad)) ⟨hx, hb, hml, hown, hts⟩ (hM.met ad) ⟨cw, c2, hts _ c1⟩ ⟨xPc_blind, hPre⟩ rfl (by rw [List.length_map]; exact hna) hl.1 ?_ (lv_room (by rw [x_cats]; exact hcat)) hd hbud)) ha hsub hav hS hl (fun _ _ h => h.elim) kk
  subst hst
  show (As.reverse ++ .ref a :: S').map (x_cv ad) = _
  rw [List.map_append, List.map_reverse]
  rfl
/-- a throw goes on to the caller -/
theorem a_out (C : aC E l9 N9 D9 T9 cc own nL9 ret tab R9 nw9) {x : String} (hcov : ∀ z ∈ tab, covers z pc = false) (hT : aT E x hp) (hk : k ≤ R9.cells) (hn : n ≤ R9.slots) : aX E k n hp pc L x := by
  obtain ⟨p, l, e, R, s, m, args, below, meth, c, D, dT, N0, nL, nw, ad0, Q⟩ := E
  obtain ⟨⟨hx, hb, hml, hown, hts⟩, hr, hlk, htab, hK, hZ, hnw, hst9, rfl, rfl, rfl, rfl, rfl, rfl, rfl⟩ := C
  intro ad H locs ls S q ce ha hR hS hl hce hcv hcl
  refine vx_W_mono ?_ (vx_out (Qc := fun _ _ _ _ => False) (XC := fun x' _ t => x' = x ∧ t.heap = H) (mc := R.cells) (ms := R.slots) (free := fun q => N0 ≤ q) (by rw [htab]; exact hcov) hlk hce hcv hcl (fun t ht _ => ⟨rfl, ht⟩) hS.2.2 hk hn)
  intro t ⟨o, h1, h2, h3⟩
  rcases h3 with ⟨h3, -⟩ | ⟨q', rfl, x', ce', L', ⟨rfl, h4⟩, h5, h6, h7, h8, h9, h10⟩
  · exact h3.elim
  · exact hT ad t q' ha (by rw [h4]; exact hR) (hS.F h4) h1 h2 ⟨ce', L', h5, h6, h7, h8, h9, h10⟩
/-- new X("text"), thrown -/
theorem a_throw (C : aC E l9 N9 D9 T9 cc own nL9 ret [] R9 nw9) {cls text : String} {names : List String} {ik is ic sn : Nat} (hcls : Bundle.fit cls = true) (hnames : ∀ n ∈ names, Bundle.fit n = true) (hk : Cond.classLink own ik cls ∈ xTB) (hini : Cond.initialized cls ∈ xTB) (hstr : ∀ (ad : Nat → Nat) (U : State), xStr ad U → vk_R own is text (ad sn) U) (hat : ∀ w ∈ vx_atS own ic cls names, w ∈ xTB ∨ w ∈ xTN) (hgood : ∀ w ∈ Cond.classLink own ik cls :: Cond.initialized cls :: vx_atS own ic cls names, vx_ot w = true)
    (d0 : decode cc pc = .ok (.new ik, 3)) (d3 : decode cc (pc + 3) = .ok (.dup, 1)) (d4 : decode cc (pc + 4) = .ok (.ldc is, 2)) (d6 : decode cc (pc + 6) = .ok (.invokespecial ic, 3)) (d9 : decode cc (pc + 9) = .ok (.athrow, 1))
    (hRf : names.length + 3 < R9.frames) (hRl : (S.map fun v => v.category).sum + (13 * (names.length + 1) + 43) ≤ R9.locals) (hkc : k + 1 ≤ R9.cells) (hns : n + 6 ≤ R9.slots) (hT : aT E cls hp) : aW E k n hp pc L S := by
  obtain ⟨p, l, e, R, s, m, args, below, meth, c, D, dT, N0, nL, nw, ad0, Q⟩ := E
  obtain ⟨⟨hx, hb, hml, hown, hts⟩, hr, hlk, htab, hK, hZ, hnw, hst9, rfl, rfl, rfl, rfl, rfl, rfl, rfl⟩ := C
  intro ad H locs ls ha hR hS hl
  refine W_mono ?_ (vx_throwS (Qc := fun _ _ _ _ => False) (XC := fun x' _ t => x' = cls ∧ H.size ≤ t.heap.size ∧ ∀ q : Nat, q < H.size → t.heap[q]? = H[q]?) (mc := R.cells) (ms := R.slots) (free := fun q => N0 ≤ q) (A := fun q => N0 ≤ q) hx hb hst9 hown hcls hnames (hts _ hk) (hts _ hini) (hstr ad0 s hZ.2.2.2.2.1) (fun w hw => (hat w hw).elim (fun h => hts _ h) (fun h => va_Nw.use (xtn_ot (List.mem_filter.mp h).2) (hZ.2.2.2.2.1.2 _ h))) hgood hZ.2.2.2.1.1 hZ.2.2.2.1.2 hS (hl.1.trans hml.symm) d0 d3 d4 d6 d9 (by rw [htab]; exact fun _ h => by cases h) hRf (by rw [x_cats]; exact hRl) hkc hns hlk (fun t _ h1 h2 => ⟨rfl, h1, h2⟩) hS.2.2 hkc hns)
  intro t ⟨o, h1, h2, h3⟩
  rcases h3 with ⟨h3, -⟩ | ⟨q', rfl, x', ce', L', ⟨rfl, h4, h4'⟩, h5, h6, h7, h8, h9, h10⟩
  · exact h3.elim
  · exact hT ad t q' ha (hR.ext h4') ⟨Nat.le_trans hS.1 h4, fun q g1 g2 => (h4' q (Nat.lt_of_lt_of_le g1 hS.1)).trans (hS.2.1 q g1 g2)⟩ h1 h2 ⟨ce', L', h5, h6, h7, h8, h9, h10⟩
/-- a static field, known from the start on: the months (900), the lists' empty row (901) -/
theorem a_getsM (C : aC E l9 N9 D9 T9 cc own nL9 ret tab R9 nw9) {index : Nat} (hd : decode cc pc = .ok (.getstatic index, 3)) (hlink : Cond.fieldLink own index "ReceivablesBook$DayCount" "MONTH_DAYS" "[I" ∈ xTB) (kk : aW E k n hp (pc + 3) L (.ref 900 :: S)) : aW E k n hp pc L S := by
  obtain ⟨p, l, e, R, s, m, args, below, meth, c, D, dT, N0, nL, nw, ad0, Q⟩ := E
  obtain ⟨⟨hx, hb, hml, hown, hts⟩, hr, hlk, htab, hK, hZ, hnw, hst, rfl, rfl, rfl, rfl, rfl, rfl, rfl⟩ := C
  intro ad H locs ls ha hR hS hl
  refine va_gets hx hb hZ.2.1.1 hS hown (hts _ hlink) (fun _ h => h) hd ?_
  rw [← ha 900 (hnw 900 (by decide))]
  exact kk ad H locs ls ha hR hS hl
theorem a_getsE (C : aC E l9 N9 D9 T9 cc own nL9 ret tab R9 nw9) {index : Nat} (hd : decode cc pc = .ok (.getstatic index, 3)) (hlink : Cond.fieldLink own index "java/util/ArrayList" "DEFAULTCAPACITY_EMPTY_ELEMENTDATA" "[Ljava/lang/Object;" ∈ xTB) (kk : aW E k n hp (pc + 3) L (.ref 901 :: S)) : aW E k n hp pc L S := by
  obtain ⟨p, l, e, R, s, m, args, below, meth, c, D, dT, N0, nL, nw, ad0, Q⟩ := E
  obtain ⟨⟨hx, hb, hml, hown, hts⟩, hr, hlk, htab, hK, hZ, hnw, hst, rfl, rfl, rfl, rfl, rfl, rfl, rfl⟩ := C
  intro ad H locs ls ha hR hS hl
  refine va_gets hx hb hZ.2.2.1.1 hS hown (hts _ hlink) (fun _ h => h) hd ?_
  rw [← ha 901 (hnw 901 (by decide))]
  exact kk ad H locs ls ha hR hS hl
theorem a_monthLen (C : aC E l9 N9 D9 T9 cc own nL9 ret tab R9 nw9) (hd : decode cc pc = .ok (.arraylength, 1)) (kk : aW E k n hp (pc + 1) L (.int 12 :: S)) : aW E k n hp pc L (.ref 900 :: S) := by
  obtain ⟨p, l, e, R, s, m, args, below, meth, c, D, dT, N0, nL, nw, ad0, Q⟩ := E
  obtain ⟨⟨hx, hb, hml, hown, hts⟩, hr, hlk, htab, hK, hZ, hnw, hst, rfl, rfl, rfl, rfl, rfl, rfl, rfl⟩ := C
  intro ad H locs ls ha hR hS hl
  have e9 : ad 900 = ad0 900 := ha 900 (hnw 900 (by decide))
  have w := va_slen (b := ad 900) hx hb (by rw [e9]; exact hZ.2.1.2.1) (by rw [e9]; exact Nat.lt_of_lt_of_le hZ.2.1.2.2 hZ.1) (by rw [e9]; exact Nat.not_le.mpr hZ.2.1.2.2) hS hd (kk ad H locs ls ha hR hS hl)
  exact w
theorem a_monthGet (C : aC E l9 N9 D9 T9 cc own nL9 ret tab R9 nw9) {i : Int32} (hd : decode cc pc = .ok (.iaload, 1)) (hi : vp_in i 12) (kk : aW E k n hp (pc + 1) L (.int (xMonths i.toNatClampNeg) :: S)) : aW E k n hp pc L (.int i :: .ref 900 :: S) := by
  obtain ⟨p, l, e, R, s, m, args, below, meth, c, D, dT, N0, nL, nw, ad0, Q⟩ := E
  obtain ⟨⟨hx, hb, hml, hown, hts⟩, hr, hlk, htab, hK, hZ, hnw, hst, rfl, rfl, rfl, rfl, rfl, rfl, rfl⟩ := C
  intro ad H locs ls ha hR hS hl
  have e9 : ad 900 = ad0 900 := ha 900 (hnw 900 (by decide))
  exact va_sld (b := ad 900) hx hb (by rw [e9]; exact hZ.2.1.2.1) (by rw [e9]; exact Nat.lt_of_lt_of_le hZ.2.1.2.2 hZ.1) (by rw [e9]; exact Nat.not_le.mpr hZ.2.1.2.2) hS hi hd (kk ad H locs ls ha hR hS hl)
/-- Math.min, Math.max, Math.min of longs -/
theorem a_min (C : aC E l9 N9 D9 T9 cc own nL9 ret tab R9 nw9) {index : Nat} {x y : Int32} (hd : decode cc pc = .ok (.invokestatic index, 3)) (hlink : Cond.methodLink own index Lib.Math.min.name ∈ xTB) (h1 : Cond.static Lib.Math.min.name ∈ xTB) (h2 : Cond.initialized "java/lang/Math" ∈ xTB) (h3 : Cond.code Lib.Math.min.name Lib.Math.min.code 2 (some .int) ∈ xTB) (hcat : (S.map fun v => v.category).sum ≤ 8) (hf : 1 ≤ R9.frames) (hlo : 21 ≤ R9.locals) (hk : k ≤ R9.cells) (hn : n ≤ R9.slots) (kk : aW E k n hp (pc + 3) L (.int (if y < x then y else x) :: S)) : aW E k n hp pc L (.int y :: .int x :: S) := by
  obtain ⟨p, l, e, R, s, m, args, below, meth, c, D, dT, N0, nL, nw, ad0, Q⟩ := E
  obtain ⟨⟨hx, hb, hml, hown, hts⟩, hr, hlk, htab, hK, hZ, hnw, hst, rfl, rfl, rfl, rfl, rfl, rfl, rfl⟩ := C
  intro ad H locs ls ha hR hS hl
  exact va_mmin hx hb (hml.trans hl.1.symm) hown (hts _ hlink) (hts _ h1) (hts _ h2) (hts _ h3) hf (by rw [x_cats]; omega) hk hn hd (kk ad H locs ls ha hR hS hl)
theorem a_max (C : aC E l9 N9 D9 T9 cc own nL9 ret tab R9 nw9) {index : Nat} {x y : Int32} (hd : decode cc pc = .ok (.invokestatic index, 3)) (hlink : Cond.methodLink own index Lib.Math.max.name ∈ xTB) (h1 : Cond.static Lib.Math.max.name ∈ xTB) (h2 : Cond.initialized "java/lang/Math" ∈ xTB) (h3 : Cond.code Lib.Math.max.name Lib.Math.max.code 2 (some .int) ∈ xTB) (hcat : (S.map fun v => v.category).sum ≤ 8) (hf : 1 ≤ R9.frames) (hlo : 21 ≤ R9.locals) (hk : k ≤ R9.cells) (hn : n ≤ R9.slots) (kk : aW E k n hp (pc + 3) L (.int (if x < y then y else x) :: S)) : aW E k n hp pc L (.int y :: .int x :: S) := by
  obtain ⟨p, l, e, R, s, m, args, below, meth, c, D, dT, N0, nL, nw, ad0, Q⟩ := E
  obtain ⟨⟨hx, hb, hml, hown, hts⟩, hr, hlk, htab, hK, hZ, hnw, hst, rfl, rfl, rfl, rfl, rfl, rfl, rfl⟩ := C
  intro ad H locs ls ha hR hS hl
  exact va_mmax hx hb (hml.trans hl.1.symm) hown (hts _ hlink) (hts _ h1) (hts _ h2) (hts _ h3) hf (by rw [x_cats]; omega) hk hn hd (kk ad H locs ls ha hR hS hl)
theorem a_minL (C : aC E l9 N9 D9 T9 cc own nL9 ret tab R9 nw9) {index : Nat} {x y : Int64} (hd : decode cc pc = .ok (.invokestatic index, 3)) (hlink : Cond.methodLink own index Lib.MathLoose.min_long.x ∈ xTB) (h1 : Cond.static Lib.MathLoose.min_long.x ∈ xTB) (h2 : Cond.initialized "java/lang/Math" ∈ xTB) (h3 : Cond.code Lib.MathLoose.min_long.x Lib.MathLoose.min_long.code 4 (some .long) ∈ xTB) (hcat : (S.map fun v => v.category).sum ≤ 8) (hf : 1 ≤ R9.frames) (hlo : 23 ≤ R9.locals) (hk : k ≤ R9.cells) (hn : n ≤ R9.slots) (kk : aW E k n hp (pc + 3) L (.long (if y < x then y else x) :: S)) : aW E k n hp pc L (.long y :: .long x :: S) := by
  obtain ⟨p, l, e, R, s, m, args, below, meth, c, D, dT, N0, nL, nw, ad0, Q⟩ := E
  obtain ⟨⟨hx, hb, hml, hown, hts⟩, hr, hlk, htab, hK, hZ, hnw, hst, rfl, rfl, rfl, rfl, rfl, rfl, rfl⟩ := C
  intro ad H locs ls ha hR hS hl
  exact va_mmin_long hx hb (hml.trans hl.1.symm) hown (hts _ hlink) (hts _ h1) (hts _ h2) (hts _ h3) hf (by rw [x_cats]; omega) hk hn hd (kk ad H locs ls ha hR hS hl)
end XTHROWS
end
section
theorem in_Jx4a65c : ∀ w ∈ wsJx4a65c0, w ∈ xTB := by decide +kernel
theorem in_X0 : ∀ w ∈ wsX00, w ∈ xTB := by decide +kernel
theorem in_X2 : ∀ w ∈ wsX20, w ∈ xTB := by decide +kernel
theorem in_X3 : ∀ w ∈ wsX30, w ∈ xTB := by decide +kernel
theorem in_X4 : ∀ w ∈ wsX40, w ∈ xTB := by decide +kernel
theorem in_X5 : ∀ w ∈ wsX50, w ∈ xTB := by decide +kernel
theorem in_X6 : ∀ w ∈ wsX60, w ∈ xTB := by decide +kernel
theorem in_X7 : ∀ w ∈ wsX70, w ∈ xTB := by decide +kernel
theorem fl_X6_10 : xFL RX6 10 6 0 (.object "java/util/ArrayList") true := ⟨RX6, TX6, 6, "ReceivablesBook", tyX6, rfl, by decide, in_X6, tb137, Or.inl rfl, tyX6_ok, nmX6, rfl, rfl⟩
theorem fl_X6_16 : xFL RX6 16 6 1 (.object "java/util/ArrayList") true := ⟨RX6, TX6, 6, "ReceivablesBook", tyX6, rfl, by decide, in_X6, tb138, Or.inl rfl, tyX6_ok, nmX6, rfl, rfl⟩
theorem fl_X6_19 : xFL RX6 19 6 2 (.object "java/util/ArrayList") true := ⟨RX6, TX6, 6, "ReceivablesBook", tyX6, rfl, by decide, in_X6, tb139, Or.inl rfl, tyX6_ok, nmX6, rfl, rfl⟩
theorem fl_X6_25 : xFL RX6 25 6 3 (.object "ReceivablesBook$Ledger") true := ⟨RX6, TX6, 6, "ReceivablesBook", tyX6, rfl, by decide, in_X6, tb140, Or.inl rfl, tyX6_ok, nmX6, rfl, rfl⟩
theorem fl_X6_32 : xFL RX6 32 6 4 (.object "ReceivablesBook$Shares") true := ⟨RX6, TX6, 6, "ReceivablesBook", tyX6, rfl, by decide, in_X6, tb141, Or.inl rfl, tyX6_ok, nmX6, rfl, rfl⟩
theorem fl_X6_36 : xFL RX6 36 6 5 (.int) false := ⟨RX6, TX6, 6, "ReceivablesBook", tyX6, rfl, by decide, in_X6, tb142, Or.inl rfl, tyX6_ok, nmX6, rfl, rfl⟩
theorem fl_X6_64 : xFL RX6 64 1 1 (.int) false := ⟨RX0, TX0, 4, "ReceivablesBook$Customer", tyX0, rfl, by decide, in_X0, tb288, Or.inl rfl, tyX0_ok, nmX0, rfl, rfl⟩
theorem fl_X6_67 : xFL RX6 67 1 2 (.int) false := ⟨RX0, TX0, 4, "ReceivablesBook$Customer", tyX0, rfl, by decide, in_X0, tb290, Or.inl rfl, tyX0_ok, nmX0, rfl, rfl⟩
theorem fl_X6_70 : xFL RX6 70 1 3 (.int) false := ⟨RX0, TX0, 4, "ReceivablesBook$Customer", tyX0, rfl, by decide, in_X0, tb292, Or.inl rfl, tyX0_ok, nmX0, rfl, rfl⟩
theorem fl_X6_127 : xFL RX6 127 2 0 (.object "ReceivablesBook$Customer") true := ⟨RX2, TX2, 10, "ReceivablesBook$Invoice", tyX2, rfl, by decide, in_X2, tb494, Or.inl rfl, tyX2_ok, nmX2, rfl, rfl⟩
theorem fl_X6_131 : xFL RX6 131 4 0 (.object "ReceivablesBook$Customer") true := ⟨RX4, TX4, 5, "ReceivablesBook$Payment", tyX4, rfl, by decide, in_X4, tb566, Or.inl rfl, tyX4_ok, nmX4, rfl, rfl⟩
theorem fl_X6_146 : xFL RX6 146 4 1 (.boolean) false := ⟨RX4, TX4, 5, "ReceivablesBook$Payment", tyX4, rfl, by decide, in_X4, tb568, Or.inl rfl, tyX4_ok, nmX4, rfl, rfl⟩
theorem fl_X6_150 : xFL RX6 150 2 1 (.int) true := ⟨RX2, TX2, 10, "ReceivablesBook$Invoice", tyX2, rfl, by decide, in_X2, tb496, Or.inl rfl, tyX2_ok, nmX2, rfl, rfl⟩
theorem fl_X6_186 : xFL RX6 186 2 2 (.int) true := ⟨RX2, TX2, 10, "ReceivablesBook$Invoice", tyX2, rfl, by decide, in_X2, tb498, Or.inl rfl, tyX2_ok, nmX2, rfl, rfl⟩
theorem fl_X6_205 : xFL RX6 205 2 4 (.int) false := ⟨RX2, TX2, 10, "ReceivablesBook$Invoice", tyX2, rfl, by decide, in_X2, tb502, Or.inl rfl, tyX2_ok, nmX2, rfl, rfl⟩
theorem fl_X6_228 : xFL RX6 228 2 3 (.boolean) true := ⟨RX2, TX2, 10, "ReceivablesBook$Invoice", tyX2, rfl, by decide, in_X2, tb500, Or.inl rfl, tyX2_ok, nmX2, rfl, rfl⟩
theorem fl_X6_240 : xFL RX6 240 2 5 (.int) false := ⟨RX2, TX2, 10, "ReceivablesBook$Invoice", tyX2, rfl, by decide, in_X2, tb504, Or.inl rfl, tyX2_ok, nmX2, rfl, rfl⟩
theorem fl_X6_246 : xFL RX6 246 3 0 (.int) false := ⟨RX3, TX3, 3, "ReceivablesBook$Ledger", tyX3, rfl, by decide, in_X3, tb109, Or.inl rfl, tyX3_ok, nmX3, rfl, rfl⟩
theorem fl_X0_9 : xFL RX0 9 1 1 (.int) false := ⟨RX0, TX0, 4, "ReceivablesBook$Customer", tyX0, rfl, by decide, in_X0, tb287, Or.inl rfl, tyX0_ok, nmX0, rfl, rfl⟩
theorem fl_X0_15 : xFL RX0 15 1 0 (.int) true := ⟨RX0, TX0, 4, "ReceivablesBook$Customer", tyX0, rfl, by decide, in_X0, tb285, Or.inl rfl, tyX0_ok, nmX0, rfl, rfl⟩
theorem fl_X0_18 : xFL RX0 18 1 2 (.int) false := ⟨RX0, TX0, 4, "ReceivablesBook$Customer", tyX0, rfl, by decide, in_X0, tb289, Or.inl rfl, tyX0_ok, nmX0, rfl, rfl⟩
theorem fl_X2_9 : xFL RX2 9 2 0 (.object "ReceivablesBook$Customer") true := ⟨RX2, TX2, 10, "ReceivablesBook$Invoice", tyX2, rfl, by decide, in_X2, tb493, Or.inl rfl, tyX2_ok, nmX2, rfl, rfl⟩
theorem fl_X2_15 : xFL RX2 15 2 1 (.int) true := ⟨RX2, TX2, 10, "ReceivablesBook$Invoice", tyX2, rfl, by decide, in_X2, tb495, Or.inl rfl, tyX2_ok, nmX2, rfl, rfl⟩
theorem fl_X2_19 : xFL RX2 19 2 2 (.int) true := ⟨RX2, TX2, 10, "ReceivablesBook$Invoice", tyX2, rfl, by decide, in_X2, tb497, Or.inl rfl, tyX2_ok, nmX2, rfl, rfl⟩
theorem fl_X2_22 : xFL RX2 22 2 3 (.boolean) true := ⟨RX2, TX2, 10, "ReceivablesBook$Invoice", tyX2, rfl, by decide, in_X2, tb499, Or.inl rfl, tyX2_ok, nmX2, rfl, rfl⟩
theorem fl_X2_26 : xFL RX2 26 2 7 (.int) false := ⟨RX2, TX2, 10, "ReceivablesBook$Invoice", tyX2, rfl, by decide, in_X2, tb506, Or.inl rfl, tyX2_ok, nmX2, rfl, rfl⟩
theorem fl_X2_29 : xFL RX2 29 2 6 (.int) false := ⟨RX2, TX2, 10, "ReceivablesBook$Invoice", tyX2, rfl, by decide, in_X2, tb505, Or.inl rfl, tyX2_ok, nmX2, rfl, rfl⟩
theorem fl_X2_36 : xFL RX2 36 2 4 (.int) false := ⟨RX2, TX2, 10, "ReceivablesBook$Invoice", tyX2, rfl, by decide, in_X2, tb501, Or.inl rfl, tyX2_ok, nmX2, rfl, rfl⟩
theorem fl_X2_45 : xFL RX2 45 2 8 (.int) false := ⟨RX2, TX2, 10, "ReceivablesBook$Invoice", tyX2, rfl, by decide, in_X2, tb507, Or.inl rfl, tyX2_ok, nmX2, rfl, rfl⟩
theorem fl_X2_51 : xFL RX2 51 2 5 (.int) false := ⟨RX2, TX2, 10, "ReceivablesBook$Invoice", tyX2, rfl, by decide, in_X2, tb503, Or.inl rfl, tyX2_ok, nmX2, rfl, rfl⟩
theorem fl_X2_54 : xFL RX2 54 1 0 (.int) true := ⟨RX0, TX0, 4, "ReceivablesBook$Customer", tyX0, rfl, by decide, in_X0, tb286, Or.inl rfl, tyX0_ok, nmX0, rfl, rfl⟩
theorem fl_X2_65 : xFL RX2 65 2 9 (.long) false := ⟨RX2, TX2, 10, "ReceivablesBook$Invoice", tyX2, rfl, by decide, in_X2, tb508, Or.inl rfl, tyX2_ok, nmX2, rfl, rfl⟩
theorem fl_X2_72 : xFL RX2 72 1 2 (.int) false := ⟨RX0, TX0, 4, "ReceivablesBook$Customer", tyX0, rfl, by decide, in_X0, tb291, Or.inl rfl, tyX0_ok, nmX0, rfl, rfl⟩
theorem fl_X2_86 : xFL RX2 86 1 3 (.int) false := ⟨RX0, TX0, 4, "ReceivablesBook$Customer", tyX0, rfl, by decide, in_X0, tb293, Or.inl rfl, tyX0_ok, nmX0, rfl, rfl⟩
theorem fl_X3_9 : xFL RX3 9 3 1 (.array .int) false := ⟨RX3, TX3, 3, "ReceivablesBook$Ledger", tyX3, rfl, by decide, in_X3, tb110, Or.inl rfl, tyX3_ok, nmX3, rfl, rfl⟩
theorem fl_X3_13 : xFL RX3 13 3 2 (.array .int) false := ⟨RX3, TX3, 3, "ReceivablesBook$Ledger", tyX3, rfl, by decide, in_X3, tb111, Or.inl rfl, tyX3_ok, nmX3, rfl, rfl⟩
theorem fl_X3_16 : xFL RX3 16 3 0 (.int) false := ⟨RX3, TX3, 3, "ReceivablesBook$Ledger", tyX3, rfl, by decide, in_X3, tb108, Or.inl rfl, tyX3_ok, nmX3, rfl, rfl⟩
theorem fl_X4_9 : xFL RX4 9 4 3 (.array .int) true := ⟨RX4, TX4, 5, "ReceivablesBook$Payment", tyX4, rfl, by decide, in_X4, tb570, Or.inl rfl, tyX4_ok, nmX4, rfl, rfl⟩
theorem fl_X4_15 : xFL RX4 15 4 0 (.object "ReceivablesBook$Customer") true := ⟨RX4, TX4, 5, "ReceivablesBook$Payment", tyX4, rfl, by decide, in_X4, tb565, Or.inl rfl, tyX4_ok, nmX4, rfl, rfl⟩
theorem fl_X4_19 : xFL RX4 19 4 2 (.int) true := ⟨RX4, TX4, 5, "ReceivablesBook$Payment", tyX4, rfl, by decide, in_X4, tb569, Or.inl rfl, tyX4_ok, nmX4, rfl, rfl⟩
theorem fl_X4_23 : xFL RX4 23 4 1 (.boolean) false := ⟨RX4, TX4, 5, "ReceivablesBook$Payment", tyX4, rfl, by decide, in_X4, tb567, Or.inl rfl, tyX4_ok, nmX4, rfl, rfl⟩
theorem fl_X4_27 : xFL RX4 27 4 4 (.int) false := ⟨RX4, TX4, 5, "ReceivablesBook$Payment", tyX4, rfl, by decide, in_X4, tb571, Or.inl rfl, tyX4_ok, nmX4, rfl, rfl⟩
theorem fl_X5_9 : xFL RX5 9 5 0 (.array .int) true := ⟨RX5, TX5, 3, "ReceivablesBook$Shares", tyX5, rfl, by decide, in_X5, tb126, Or.inl rfl, tyX5_ok, nmX5, rfl, rfl⟩
theorem fl_X5_15 : xFL RX5 15 5 1 (.array .int) true := ⟨RX5, TX5, 3, "ReceivablesBook$Shares", tyX5, rfl, by decide, in_X5, tb127, Or.inl rfl, tyX5_ok, nmX5, rfl, rfl⟩
theorem fl_X5_18 : xFL RX5 18 5 2 (.array .long) true := ⟨RX5, TX5, 3, "ReceivablesBook$Shares", tyX5, rfl, by decide, in_X5, tb128, Or.inl rfl, tyX5_ok, nmX5, rfl, rfl⟩
theorem fl_X7_7 : xFL RX7 7 7 6 (.array .int) true := ⟨RX7, TX7, 27, "ReceivablesBookModel", tyX7, rfl, by decide, in_X7, tb933, Or.inl rfl, tyX7_ok, nmX7, rfl, rfl⟩
theorem fl_X7_13 : xFL RX7 13 7 7 (.array .int) true := ⟨RX7, TX7, 27, "ReceivablesBookModel", tyX7, rfl, by decide, in_X7, tb934, Or.inl rfl, tyX7_ok, nmX7, rfl, rfl⟩
theorem fl_X7_16 : xFL RX7 16 7 8 (.array .int) true := ⟨RX7, TX7, 27, "ReceivablesBookModel", tyX7, rfl, by decide, in_X7, tb935, Or.inl rfl, tyX7_ok, nmX7, rfl, rfl⟩
theorem fl_X7_19 : xFL RX7 19 7 9 (.array .int) true := ⟨RX7, TX7, 27, "ReceivablesBookModel", tyX7, rfl, by decide, in_X7, tb936, Or.inl rfl, tyX7_ok, nmX7, rfl, rfl⟩
theorem fl_X7_22 : xFL RX7 22 7 10 (.array .int) true := ⟨RX7, TX7, 27, "ReceivablesBookModel", tyX7, rfl, by decide, in_X7, tb937, Or.inl rfl, tyX7_ok, nmX7, rfl, rfl⟩
theorem fl_X7_25 : xFL RX7 25 7 11 (.array .int) true := ⟨RX7, TX7, 27, "ReceivablesBookModel", tyX7, rfl, by decide, in_X7, tb938, Or.inl rfl, tyX7_ok, nmX7, rfl, rfl⟩
theorem fl_X7_28 : xFL RX7 28 7 12 (.array .int) true := ⟨RX7, TX7, 27, "ReceivablesBookModel", tyX7, rfl, by decide, in_X7, tb939, Or.inl rfl, tyX7_ok, nmX7, rfl, rfl⟩
theorem fl_X7_31 : xFL RX7 31 7 13 (.array .int) true := ⟨RX7, TX7, 27, "ReceivablesBookModel", tyX7, rfl, by decide, in_X7, tb940, Or.inl rfl, tyX7_ok, nmX7, rfl, rfl⟩
theorem fl_X7_34 : xFL RX7 34 7 14 (.array .int) true := ⟨RX7, TX7, 27, "ReceivablesBookModel", tyX7, rfl, by decide, in_X7, tb941, Or.inl rfl, tyX7_ok, nmX7, rfl, rfl⟩
theorem fl_X7_37 : xFL RX7 37 7 15 (.array .long) true := ⟨RX7, TX7, 27, "ReceivablesBookModel", tyX7, rfl, by decide, in_X7, tb942, Or.inl rfl, tyX7_ok, nmX7, rfl, rfl⟩
theorem fl_X7_41 : xFL RX7 41 7 16 (.array .boolean) true := ⟨RX7, TX7, 27, "ReceivablesBookModel", tyX7, rfl, by decide, in_X7, tb943, Or.inl rfl, tyX7_ok, nmX7, rfl, rfl⟩
theorem fl_X7_45 : xFL RX7 45 7 17 (.array .int) true := ⟨RX7, TX7, 27, "ReceivablesBookModel", tyX7, rfl, by decide, in_X7, tb944, Or.inl rfl, tyX7_ok, nmX7, rfl, rfl⟩
theorem fl_X7_48 : xFL RX7 48 7 18 (.array .int) true := ⟨RX7, TX7, 27, "ReceivablesBookModel", tyX7, rfl, by decide, in_X7, tb945, Or.inl rfl, tyX7_ok, nmX7, rfl, rfl⟩
theorem fl_X7_51 : xFL RX7 51 7 19 (.array .int) true := ⟨RX7, TX7, 27, "ReceivablesBookModel", tyX7, rfl, by decide, in_X7, tb946, Or.inl rfl, tyX7_ok, nmX7, rfl, rfl⟩
theorem fl_X7_54 : xFL RX7 54 7 20 (.array .int) true := ⟨RX7, TX7, 27, "ReceivablesBookModel", tyX7, rfl, by decide, in_X7, tb947, Or.inl rfl, tyX7_ok, nmX7, rfl, rfl⟩
theorem fl_X7_57 : xFL RX7 57 7 21 (.array .boolean) true := ⟨RX7, TX7, 27, "ReceivablesBookModel", tyX7, rfl, by decide, in_X7, tb948, Or.inl rfl, tyX7_ok, nmX7, rfl, rfl⟩
theorem fl_X7_60 : xFL RX7 60 7 22 (.array .int) true := ⟨RX7, TX7, 27, "ReceivablesBookModel", tyX7, rfl, by decide, in_X7, tb949, Or.inl rfl, tyX7_ok, nmX7, rfl, rfl⟩
theorem fl_X7_63 : xFL RX7 63 7 23 (.array .int) true := ⟨RX7, TX7, 27, "ReceivablesBookModel", tyX7, rfl, by decide, in_X7, tb950, Or.inl rfl, tyX7_ok, nmX7, rfl, rfl⟩
theorem fl_X7_66 : xFL RX7 66 7 24 (.array .int) true := ⟨RX7, TX7, 27, "ReceivablesBookModel", tyX7, rfl, by decide, in_X7, tb951, Or.inl rfl, tyX7_ok, nmX7, rfl, rfl⟩
theorem fl_X7_69 : xFL RX7 69 7 25 (.array .int) true := ⟨RX7, TX7, 27, "ReceivablesBookModel", tyX7, rfl, by decide, in_X7, tb952, Or.inl rfl, tyX7_ok, nmX7, rfl, rfl⟩
theorem fl_X7_72 : xFL RX7 72 7 26 (.array .long) true := ⟨RX7, TX7, 27, "ReceivablesBookModel", tyX7, rfl, by decide, in_X7, tb953, Or.inl rfl, tyX7_ok, nmX7, rfl, rfl⟩
theorem fl_X7_75 : xFL RX7 75 7 0 (.int) false := ⟨RX7, TX7, 27, "ReceivablesBookModel", tyX7, rfl, by decide, in_X7, tb927, Or.inl rfl, tyX7_ok, nmX7, rfl, rfl⟩
theorem fl_X7_79 : xFL RX7 79 7 2 (.int) false := ⟨RX7, TX7, 27, "ReceivablesBookModel", tyX7, rfl, by decide, in_X7, tb929, Or.inl rfl, tyX7_ok, nmX7, rfl, rfl⟩
theorem fl_X7_86 : xFL RX7 86 7 3 (.int) false := ⟨RX7, TX7, 27, "ReceivablesBookModel", tyX7, rfl, by decide, in_X7, tb930, Or.inl rfl, tyX7_ok, nmX7, rfl, rfl⟩
theorem fl_X7_89 : xFL RX7 89 7 4 (.int) false := ⟨RX7, TX7, 27, "ReceivablesBookModel", tyX7, rfl, by decide, in_X7, tb931, Or.inl rfl, tyX7_ok, nmX7, rfl, rfl⟩
theorem fl_X7_112 : xFL RX7 112 7 1 (.int) false := ⟨RX7, TX7, 27, "ReceivablesBookModel", tyX7, rfl, by decide, in_X7, tb928, Or.inl rfl, tyX7_ok, nmX7, rfl, rfl⟩
theorem fl_X7_134 : xFL RX7 134 7 5 (.int) false := ⟨RX7, TX7, 27, "ReceivablesBookModel", tyX7, rfl, by decide, in_X7, tb932, Or.inl rfl, tyX7_ok, nmX7, rfl, rfl⟩
theorem fl_Jx4a65c_9 : xFL RJx4a65c 9 0 1 (.array (.object "java/lang/Object")) false := ⟨RJx4a65c, TJx4a65c, 3, "java/util/ArrayList", tyJx4a65c, rfl, by decide, in_Jx4a65c, tb90, Or.inl rfl, tyJx4a65c_ok, nmJx4a65c, rfl, rfl⟩
theorem fl_Jx4a65c_48 : xFL RJx4a65c 48 0 2 (.int) false := ⟨RJx4a65c, TJx4a65c, 3, "java/util/ArrayList", tyJx4a65c, rfl, by decide, in_Jx4a65c, tb91, Or.inl rfl, tyJx4a65c_ok, nmJx4a65c, rfl, rfl⟩
theorem fl_Jx4a65c_63 : xFL RJx4a65c 63 0 0 (.int) false := ⟨RJx4a65c, TJx4a65c, 3, "java/util/ArrayList", tyJx4a65c, rfl, by decide, in_Jx4a65c, tb93, Or.inr tb94, tyJx4a65c_ok, nmJx4a65c, rfl, rfl⟩
theorem cs_J15_checkIndex_7cf53 : xCS yJ15_checkIndex_7cf53 cJ15_checkIndex_7cf53 2 (some FieldType.int) 2 := ⟨tb397, tb63, tb398, ⟨by decide, by decide, by decide +kernel⟩⟩
theorem cs_J3_checkIndex_8e157 : xCS yJ3_checkIndex_8e157 cJ3_checkIndex_8e157 3 (some FieldType.int) 3 := ⟨tb400, tb64, tb401, ⟨by decide, by decide, by decide +kernel⟩⟩
theorem cs_J7_copyOf_1904c : xCS yJ7_copyOf_1904c cJ7_copyOf_1904c 2 (some (FieldType.array (FieldType.object "java/lang/Object"))) 2 := ⟨tb330, tb60, tb331, ⟨by decide, by decide, by decide +kernel⟩⟩
theorem cs_J7_copyOf_59c91 : xCS yJ7_copyOf_59c91 cJ7_copyOf_59c91 3 (some (FieldType.array FieldType.int)) 2 := ⟨tb543, tb60, tb544, ⟨by decide, by decide, by decide +kernel⟩⟩
theorem cs_J7_copyOf_6403c : xCS yJ7_copyOf_6403c cJ7_copyOf_6403c 4 (some (FieldType.array (FieldType.object "java/lang/Object"))) 3 := ⟨tb348, tb60, tb349, ⟨by decide, by decide, by decide +kernel⟩⟩
theorem cs_J7_fill_53178 : xCS yJ7_fill_53178 cJ7_fill_53178 4 none 2 := ⟨tb600, tb60, tb601, ⟨by decide, by decide, by decide +kernel⟩⟩
theorem cs_J8_hugeLength_7cf53 : xCS yJ8_hugeLength_7cf53 cJ8_hugeLength_7cf53 3 (some FieldType.int) 2 := ⟨tb327, tb58, tb328, ⟨by decide, by decide, by decide +kernel⟩⟩
theorem cs_J8_newLength_cabcc : xCS yJ8_newLength_cabcc cJ8_newLength_cabcc 4 (some FieldType.int) 3 := ⟨tb320, tb58, tb321, ⟨by decide, by decide, by decide +kernel⟩⟩
theorem cs_J9_max_7cf53 : xCS yJ9_max_7cf53 cJ9_max_7cf53 2 (some FieldType.int) 2 := ⟨tb323, tb59, tb324, ⟨by decide, by decide, by decide +kernel⟩⟩
theorem cs_J9_min_7cf53 : xCS yJ9_min_7cf53 cJ9_min_7cf53 2 (some FieldType.int) 2 := ⟨tb354, tb59, tb355, ⟨by decide, by decide, by decide +kernel⟩⟩
theorem cs_J9_min_f86c9 : xCS yJ9_min_f86c9 cJ9_min_f86c9 4 (some FieldType.long) 2 := ⟨tb633, tb59, tb634, ⟨by decide, by decide, by decide +kernel⟩⟩
theorem cv_Jx4a65c_add_72be8 : xCV yJx4a65c_add_72be8 cJx4a65c_add_72be8 4 none 3 := ⟨tb309, tb1, tb48, tb310, ⟨by decide, by decide, by decide +kernel⟩⟩
theorem cv_Jx4a65c_add_9ea2d : xCV yJx4a65c_add_9ea2d cJx4a65c_add_9ea2d 2 (some FieldType.boolean) 1 := ⟨tb304, tb305, tb48, tb306, ⟨by decide, by decide, by decide +kernel⟩⟩
theorem cv_Jx4a65c_elementData_915e3 : xCV yJx4a65c_elementData_915e3 cJx4a65c_elementData_915e3 2 (some (FieldType.object "java/lang/Object")) 1 := ⟨tb403, tb404, tb48, tb405, ⟨by decide, by decide, by decide +kernel⟩⟩
theorem cv_Jx4a65c_get_915e3 : xCV yJx4a65c_get_915e3 cJx4a65c_get_915e3 2 (some (FieldType.object "java/lang/Object")) 1 := ⟨tb393, tb394, tb48, tb395, ⟨by decide, by decide, by decide +kernel⟩⟩
theorem cv_Jx4a65c_grow_92f84 : xCV yJx4a65c_grow_92f84 cJx4a65c_grow_92f84 4 (some (FieldType.array (FieldType.object "java/lang/Object"))) 1 := ⟨tb317, tb3, tb48, tb318, ⟨by decide, by decide, by decide +kernel⟩⟩
theorem cv_Jx4a65c_grow_d5877 : xCV yJx4a65c_grow_d5877 cJx4a65c_grow_d5877 1 (some (FieldType.array (FieldType.object "java/lang/Object"))) 0 := ⟨tb313, tb2, tb48, tb314, ⟨by decide, by decide, by decide +kernel⟩⟩
theorem ci_Jx4a65c_init_da8c8 : xCI yJx4a65c_init_da8c8 cJx4a65c_init_da8c8 1 0 := ⟨tb79, rfl, tb48, tb80, ⟨by decide, by decide, by decide +kernel⟩⟩
theorem cv_Jx4a65c_size_8abf5 : xCV yJx4a65c_size_8abf5 cJx4a65c_size_8abf5 1 (some FieldType.int) 0 := ⟨tb165, tb166, tb48, tb167, ⟨by decide, by decide, by decide +kernel⟩⟩
theorem ci_Jxa1e45_init_da8c8 : xCI yJxa1e45_init_da8c8 cJxa1e45_init_da8c8 1 0 := ⟨tb85, rfl, tb46, tb86, ⟨by decide, by decide, by decide +kernel⟩⟩
theorem ci_Jxc12de_init_da8c8 : xCI yJxc12de_init_da8c8 cJxc12de_init_da8c8 1 0 := ⟨tb82, rfl, tb47, tb83, ⟨by decide, by decide, by decide +kernel⟩⟩
theorem ci_X0_init : xCI yX0_init cX0_init 4 3 := ⟨tb282, rfl, tb57, tb283, ⟨by decide, by decide, by decide +kernel⟩⟩
theorem cv_X0_sumOfOneCent : xCV yX0_sumOfOneCent cX0_sumOfOneCent 1 (some FieldType.long) 0 := ⟨tb760, tb761, tb57, tb762, ⟨by decide, by decide, by decide +kernel⟩⟩
theorem cs_X1_daysBetween : xCS yX1_daysBetween cX1_daysBetween 3 (some FieldType.int) 3 := ⟨tb441, tb65, tb442, ⟨by decide, by decide, by decide +kernel⟩⟩
theorem cs_X1_daysOfYear : xCS yX1_daysOfYear cX1_daysOfYear 1 (some FieldType.int) 1 := ⟨tb765, tb65, tb766, ⟨by decide, by decide, by decide +kernel⟩⟩
theorem cs_X1_monthLength : xCS yX1_monthLength cX1_monthLength 3 (some FieldType.int) 2 := ⟨tb450, tb65, tb451, ⟨by decide, by decide, by decide +kernel⟩⟩
theorem cs_X1_thirtyDayNumber : xCS yX1_thirtyDayNumber cX1_thirtyDayNumber 4 (some FieldType.int) 1 := ⟨tb444, tb65, tb445, ⟨by decide, by decide, by decide +kernel⟩⟩
theorem cv_X2_accrueOn : xCV yX2_accrueOn cX2_accrueOn 3 none 1 := ⟨tb437, tb438, tb66, tb439, ⟨by decide, by decide, by decide +kernel⟩⟩
theorem cv_X2_accruedCents : xCV yX2_accruedCents cX2_accruedCents 3 (some FieldType.int) 0 := ⟨tb756, tb757, tb66, tb758, ⟨by decide, by decide, by decide +kernel⟩⟩
theorem cv_X2_bucketOn : xCV yX2_bucketOn cX2_bucketOn 3 (some FieldType.int) 1 := ⟨tb862, tb863, tb66, tb864, ⟨by decide, by decide, by decide +kernel⟩⟩
theorem cv_X2_canBeReminded : xCV yX2_canBeReminded cX2_canBeReminded 1 (some FieldType.boolean) 0 := ⟨tb466, tb6, tb66, tb468, ⟨by decide, by decide, by decide +kernel⟩⟩
theorem cv_X2_clearAmount : xCV yX2_clearAmount cX2_clearAmount 1 (some FieldType.int) 0 := ⟨tb453, tb454, tb66, tb455, ⟨by decide, by decide, by decide +kernel⟩⟩
theorem cv_X2_daysToNextLevel : xCV yX2_daysToNextLevel cX2_daysToNextLevel 3 (some FieldType.int) 1 := ⟨tb894, tb895, tb66, tb896, ⟨by decide, by decide, by decide +kernel⟩⟩
theorem cv_X2_dropAccruedCents : xCV yX2_dropAccruedCents cX2_dropAccruedCents 1 none 0 := ⟨tb768, tb769, tb66, tb770, ⟨by decide, by decide, by decide +kernel⟩⟩
theorem cv_X2_forgetRemindersIfPaid : xCV yX2_forgetRemindersIfPaid cX2_forgetRemindersIfPaid 1 none 0 := ⟨tb662, tb16, tb66, tb663, ⟨by decide, by decide, by decide +kernel⟩⟩
theorem ci_X2_init : xCI yX2_init cX2_init 5 4 := ⟨tb490, rfl, tb66, tb491, ⟨by decide, by decide, by decide +kernel⟩⟩
theorem cv_X2_openAmount : xCV yX2_openAmount cX2_openAmount 1 (some FieldType.int) 0 := ⟨tb457, tb458, tb66, tb459, ⟨by decide, by decide, by decide +kernel⟩⟩
theorem cv_X2_pay : xCV yX2_pay cX2_pay 2 none 1 := ⟨tb656, tb657, tb66, tb658, ⟨by decide, by decide, by decide +kernel⟩⟩
theorem cv_X2_settleWith : xCV yX2_settleWith cX2_settleWith 2 none 1 := ⟨tb741, tb742, tb66, tb743, ⟨by decide, by decide, by decide +kernel⟩⟩
theorem cv_X2_unpay : xCV yX2_unpay cX2_unpay 2 none 1 := ⟨tb707, tb708, tb66, tb709, ⟨by decide, by decide, by decide +kernel⟩⟩
theorem cv_X2_waitOfLevel : xCV yX2_waitOfLevel cX2_waitOfLevel 1 (some FieldType.int) 0 := ⟨tb471, tb7, tb66, tb472, ⟨by decide, by decide, by decide +kernel⟩⟩
theorem cv_X2_waitOn : xCV yX2_waitOn cX2_waitOn 2 none 1 := ⟨tb461, tb462, tb66, tb463, ⟨by decide, by decide, by decide +kernel⟩⟩
theorem cv_X3_amountIn : xCV yX3_amountIn cX3_amountIn 2 (some FieldType.int) 1 := ⟨tb823, tb824, tb49, tb825, ⟨by decide, by decide, by decide +kernel⟩⟩
theorem cv_X3_doubleRoom : xCV yX3_doubleRoom cX3_doubleRoom 1 none 0 := ⟨tb540, tb9, tb49, tb541, ⟨by decide, by decide, by decide +kernel⟩⟩
theorem ci_X3_init : xCI yX3_init cX3_init 1 0 := ⟨tb105, rfl, tb49, tb106, ⟨by decide, by decide, by decide +kernel⟩⟩
theorem cv_X3_invoiceIn : xCV yX3_invoiceIn cX3_invoiceIn 2 (some FieldType.int) 1 := ⟨tb819, tb820, tb49, tb821, ⟨by decide, by decide, by decide +kernel⟩⟩
theorem cv_X3_sumOf : xCV yX3_sumOf cX3_sumOf 4 (some FieldType.int) 1 := ⟨tb815, tb816, tb49, tb817, ⟨by decide, by decide, by decide +kernel⟩⟩
theorem cv_X3_write : xCV yX3_write cX3_write 3 none 2 := ⟨tb535, tb536, tb49, tb537, ⟨by decide, by decide, by decide +kernel⟩⟩
theorem ci_X4_init : xCI yX4_init cX4_init 3 2 := ⟨tb562, rfl, tb67, tb563, ⟨by decide, by decide, by decide +kernel⟩⟩
theorem cv_X4_spend : xCV yX4_spend cX4_spend 3 none 2 := ⟨tb652, tb653, tb67, tb654, ⟨by decide, by decide, by decide +kernel⟩⟩
theorem cv_X4_spentOn : xCV yX4_spentOn cX4_spentOn 2 (some FieldType.int) 1 := ⟨tb703, tb704, tb67, tb705, ⟨by decide, by decide, by decide +kernel⟩⟩
theorem cv_X4_unspent : xCV yX4_unspent cX4_unspent 1 (some FieldType.int) 0 := ⟨tb588, tb589, tb67, tb590, ⟨by decide, by decide, by decide +kernel⟩⟩
theorem cv_X5_fill : xCV yX5_fill cX5_fill 3 (some FieldType.int) 2 := ⟨tb620, tb621, tb50, tb622, ⟨by decide, by decide, by decide +kernel⟩⟩
theorem cv_X5_giveCentToGreatestRemainder : xCV yX5_giveCentToGreatestRemainder cX5_giveCentToGreatestRemainder 5 none 0 := ⟨tb641, tb14, tb50, tb642, ⟨by decide, by decide, by decide +kernel⟩⟩
theorem ci_X5_init : xCI yX5_init cX5_init 1 0 := ⟨tb123, rfl, tb50, tb124, ⟨by decide, by decide, by decide +kernel⟩⟩
theorem cv_X5_partOf : xCV yX5_partOf cX5_partOf 2 (some FieldType.int) 1 := ⟨tb644, tb645, tb50, tb646, ⟨by decide, by decide, by decide +kernel⟩⟩
theorem cv_X5_reset : xCV yX5_reset cX5_reset 1 none 0 := ⟨tb596, tb597, tb50, tb598, ⟨by decide, by decide, by decide +kernel⟩⟩
theorem cv_X5_setWeight : xCV yX5_setWeight cX5_setWeight 3 none 2 := ⟨tb604, tb605, tb50, tb606, ⟨by decide, by decide, by decide +kernel⟩⟩
theorem cv_X5_splitInProportion : xCV yX5_splitInProportion cX5_splitInProportion 8 none 1 := ⟨tb636, tb637, tb50, tb638, ⟨by decide, by decide, by decide +kernel⟩⟩
theorem cv_X5_splitUpToWeights : xCV yX5_splitUpToWeights cX5_splitUpToWeights 2 none 1 := ⟨tb625, tb626, tb50, tb627, ⟨by decide, by decide, by decide +kernel⟩⟩
theorem cv_X5_sumOfWeights : xCV yX5_sumOfWeights cX5_sumOfWeights 4 (some FieldType.long) 0 := ⟨tb629, tb630, tb50, tb631, ⟨by decide, by decide, by decide +kernel⟩⟩
theorem cv_X5_wantsPart : xCV yX5_wantsPart cX5_wantsPart 2 (some FieldType.boolean) 1 := ⟨tb616, tb617, tb50, tb618, ⟨by decide, by decide, by decide +kernel⟩⟩
theorem cv_X6_accrued : xCV yX6_accrued cX6_accrued 2 (some FieldType.int) 1 := ⟨tb776, tb777, tb45, tb778, ⟨by decide, by decide, by decide +kernel⟩⟩
theorem cv_X6_accruedOfAll : xCV yX6_accruedOfAll cX6_accruedOfAll 5 (some FieldType.int) 1 := ⟨tb753, tb20, tb45, tb754, ⟨by decide, by decide, by decide +kernel⟩⟩
theorem cv_X6_addCustomer : xCV yX6_addCustomer cX6_addCustomer 4 (some FieldType.int) 3 := ⟨tb186, tb187, tb45, tb188, ⟨by decide, by decide, by decide +kernel⟩⟩
theorem cv_X6_ageing : xCV yX6_ageing cX6_ageing 7 (some FieldType.int) 2 := ⟨tb869, tb870, tb45, tb871, ⟨by decide, by decide, by decide +kernel⟩⟩
theorem cv_X6_allocate : xCV yX6_allocate cX6_allocate 6 (some FieldType.int) 3 := ⟨tb668, tb669, tb45, tb670, ⟨by decide, by decide, by decide +kernel⟩⟩
theorem cv_X6_allocateByRule : xCV yX6_allocateByRule cX6_allocateByRule 6 (some FieldType.int) 1 := ⟨tb585, tb10, tb45, tb586, ⟨by decide, by decide, by decide +kernel⟩⟩
theorem cv_X6_allocateRest : xCV yX6_allocateRest cX6_allocateRest 6 (some FieldType.int) 1 := ⟨tb688, tb689, tb45, tb690, ⟨by decide, by decide, by decide +kernel⟩⟩
theorem cv_X6_allocated : xCV yX6_allocated cX6_allocated 4 (some FieldType.int) 2 := ⟨tb837, tb838, tb45, tb839, ⟨by decide, by decide, by decide +kernel⟩⟩
theorem cv_X6_amountOf : xCV yX6_amountOf cX6_amountOf 2 (some FieldType.int) 1 := ⟨tb790, tb791, tb45, tb792, ⟨by decide, by decide, by decide +kernel⟩⟩
theorem cv_X6_balance : xCV yX6_balance cX6_balance 6 (some FieldType.int) 1 := ⟨tb851, tb852, tb45, tb853, ⟨by decide, by decide, by decide +kernel⟩⟩
theorem cv_X6_bucketOf : xCV yX6_bucketOf cX6_bucketOf 2 (some FieldType.int) 1 := ⟨tb858, tb859, tb45, tb860, ⟨by decide, by decide, by decide +kernel⟩⟩
theorem cv_X6_chargeInterest : xCV yX6_chargeInterest cX6_chargeInterest 7 (some FieldType.int) 2 := ⟨tb748, tb749, tb45, tb750, ⟨by decide, by decide, by decide +kernel⟩⟩
theorem cv_X6_countDays : xCV yX6_countDays cX6_countDays 4 (some FieldType.int) 3 := ⟨tb477, tb478, tb45, tb479, ⟨by decide, by decide, by decide +kernel⟩⟩
theorem cv_X6_customerAt : xCV yX6_customerAt cX6_customerAt 2 (some (FieldType.object "ReceivablesBook$Customer")) 1 := ⟨tb371, tb4, tb45, tb372, ⟨by decide, by decide, by decide +kernel⟩⟩
theorem cv_X6_customers : xCV yX6_customers cX6_customers 1 (some FieldType.int) 0 := ⟨tb161, tb162, tb45, tb163, ⟨by decide, by decide, by decide +kernel⟩⟩
theorem cv_X6_daysToReminder : xCV yX6_daysToReminder cX6_daysToReminder 2 (some FieldType.int) 1 := ⟨tb890, tb891, tb45, tb892, ⟨by decide, by decide, by decide +kernel⟩⟩
theorem cv_X6_dispute : xCV yX6_dispute cX6_dispute 4 (some FieldType.int) 2 := ⟨tb721, tb722, tb45, tb723, ⟨by decide, by decide, by decide +kernel⟩⟩
theorem cv_X6_disputeAll : xCV yX6_disputeAll cX6_disputeAll 7 (some FieldType.int) 2 := ⟨tb728, tb729, tb45, tb730, ⟨by decide, by decide, by decide +kernel⟩⟩
theorem cv_X6_disputedOf : xCV yX6_disputedOf cX6_disputedOf 2 (some FieldType.int) 1 := ⟨tb830, tb831, tb45, tb832, ⟨by decide, by decide, by decide +kernel⟩⟩
theorem cv_X6_dueDay : xCV yX6_dueDay cX6_dueDay 2 (some FieldType.int) 1 := ⟨tb797, tb798, tb45, tb799, ⟨by decide, by decide, by decide +kernel⟩⟩
theorem cv_X6_enterInvoice : xCV yX6_enterInvoice cX6_enterInvoice 3 (some FieldType.int) 1 := ⟨tb532, tb8, tb45, tb533, ⟨by decide, by decide, by decide +kernel⟩⟩
theorem ci_X6_init : xCI yX6_init cX6_init 1 0 := ⟨tb71, rfl, tb45, tb72, ⟨by decide, by decide, by decide +kernel⟩⟩
theorem cv_X6_invoiceAt : xCV yX6_invoiceAt cX6_invoiceAt 2 (some (FieldType.object "ReceivablesBook$Invoice")) 1 := ⟨tb677, tb18, tb45, tb678, ⟨by decide, by decide, by decide +kernel⟩⟩
theorem cv_X6_invoices : xCV yX6_invoices cX6_invoices 1 (some FieldType.int) 0 := ⟨tb169, tb170, tb45, tb171, ⟨by decide, by decide, by decide +kernel⟩⟩
theorem cv_X6_invoicesAt : xCV yX6_invoicesAt cX6_invoicesAt 4 (some FieldType.int) 1 := ⟨tb902, tb903, tb45, tb904, ⟨by decide, by decide, by decide +kernel⟩⟩
theorem cv_X6_isInterest : xCV yX6_isInterest cX6_isInterest 2 (some FieldType.boolean) 1 := ⟨tb783, tb784, tb45, tb785, ⟨by decide, by decide, by decide +kernel⟩⟩
theorem cv_X6_ledgerLines : xCV yX6_ledgerLines cX6_ledgerLines 1 (some FieldType.int) 0 := ⟨tb177, tb178, tb45, tb179, ⟨by decide, by decide, by decide +kernel⟩⟩
theorem cv_X6_levelOf : xCV yX6_levelOf cX6_levelOf 2 (some FieldType.int) 1 := ⟨tb883, tb884, tb45, tb885, ⟨by decide, by decide, by decide +kernel⟩⟩
theorem cv_X6_lineAmount : xCV yX6_lineAmount cX6_lineAmount 2 (some FieldType.int) 1 := ⟨tb917, tb918, tb45, tb919, ⟨by decide, by decide, by decide +kernel⟩⟩
theorem cv_X6_lineInvoice : xCV yX6_lineInvoice cX6_lineInvoice 2 (some FieldType.int) 1 := ⟨tb909, tb910, tb45, tb911, ⟨by decide, by decide, by decide +kernel⟩⟩
theorem cv_X6_moveToInvoice : xCV yX6_moveToInvoice cX6_moveToInvoice 4 none 3 := ⟨tb649, tb15, tb45, tb650, ⟨by decide, by decide, by decide +kernel⟩⟩
theorem cv_X6_oldest : xCV yX6_oldest cX6_oldest 2 (some FieldType.int) 1 := ⟨tb876, tb877, tb45, tb878, ⟨by decide, by decide, by decide +kernel⟩⟩
theorem cv_X6_oldestWithoutPart : xCV yX6_oldestWithoutPart cX6_oldestWithoutPart 5 (some FieldType.int) 0 := ⟨tb613, tb13, tb45, tb614, ⟨by decide, by decide, by decide +kernel⟩⟩
theorem cv_X6_openByLedger : xCV yX6_openByLedger cX6_openByLedger 2 (some FieldType.int) 1 := ⟨tb811, tb812, tb45, tb813, ⟨by decide, by decide, by decide +kernel⟩⟩
theorem cv_X6_openOf : xCV yX6_openOf cX6_openOf 2 (some FieldType.int) 1 := ⟨tb804, tb805, tb45, tb806, ⟨by decide, by decide, by decide +kernel⟩⟩
theorem cv_X6_passDays : xCV yX6_passDays cX6_passDays 3 (some FieldType.int) 1 := ⟨tb424, tb425, tb45, tb426, ⟨by decide, by decide, by decide +kernel⟩⟩
theorem cv_X6_passOneDay : xCV yX6_passOneDay cX6_passOneDay 2 none 0 := ⟨tb433, tb5, tb45, tb434, ⟨by decide, by decide, by decide +kernel⟩⟩
theorem cv_X6_pauseReminders : xCV yX6_pauseReminders cX6_pauseReminders 4 (some FieldType.int) 2 := ⟨tb417, tb418, tb45, tb419, ⟨by decide, by decide, by decide +kernel⟩⟩
theorem cv_X6_paymentAt : xCV yX6_paymentAt cX6_paymentAt 2 (some (FieldType.object "ReceivablesBook$Payment")) 1 := ⟨tb673, tb17, tb45, tb674, ⟨by decide, by decide, by decide +kernel⟩⟩
theorem cv_X6_payments : xCV yX6_payments cX6_payments 1 (some FieldType.int) 0 := ⟨tb173, tb174, tb45, tb175, ⟨by decide, by decide, by decide +kernel⟩⟩
theorem cv_X6_postInvoice : xCV yX6_postInvoice cX6_postInvoice 5 (some FieldType.int) 3 := ⟨tb485, tb486, tb45, tb487, ⟨by decide, by decide, by decide +kernel⟩⟩
theorem cv_X6_postPayment : xCV yX6_postPayment cX6_postPayment 5 (some FieldType.int) 2 := ⟨tb556, tb557, tb45, tb558, ⟨by decide, by decide, by decide +kernel⟩⟩
theorem cv_X6_release : xCV yX6_release cX6_release 4 (some FieldType.int) 2 := ⟨tb695, tb696, tb45, tb697, ⟨by decide, by decide, by decide +kernel⟩⟩
theorem cs_X6_requireCent : xCS yX6_requireCent cX6_requireCent 1 none 1 := ⟨tb680, tb45, tb681, ⟨by decide, by decide, by decide +kernel⟩⟩
theorem cs_X6_requireIndex : xCS yX6_requireIndex cX6_requireIndex 2 none 2 := ⟨tb374, tb45, tb375, ⟨by decide, by decide, by decide +kernel⟩⟩
theorem cs_X6_requireRange : xCS yX6_requireRange cX6_requireRange 3 none 3 := ⟨tb190, tb45, tb191, ⟨by decide, by decide, by decide +kernel⟩⟩
theorem cs_X6_requireRoom : xCS yX6_requireRoom cX6_requireRoom 2 none 2 := ⟨tb261, tb45, tb262, ⟨by decide, by decide, by decide +kernel⟩⟩
theorem cs_X6_requireState : xCS yX6_requireState cX6_requireState 1 none 1 := ⟨tb428, tb45, tb429, ⟨by decide, by decide, by decide +kernel⟩⟩
theorem cv_X6_reverse : xCV yX6_reverse cX6_reverse 5 (some FieldType.int) 1 := ⟨tb714, tb715, tb45, tb716, ⟨by decide, by decide, by decide +kernel⟩⟩
theorem cv_X6_setRate : xCV yX6_setRate cX6_setRate 5 (some FieldType.int) 2 := ⟨tb410, tb411, tb45, tb412, ⟨by decide, by decide, by decide +kernel⟩⟩
theorem cv_X6_setRule : xCV yX6_setRule cX6_setRule 5 (some FieldType.int) 2 := ⟨tb366, tb367, tb45, tb368, ⟨by decide, by decide, by decide +kernel⟩⟩
theorem cv_X6_settle : xCV yX6_settle cX6_settle 4 (some FieldType.int) 2 := ⟨tb737, tb738, tb45, tb739, ⟨by decide, by decide, by decide +kernel⟩⟩
theorem cv_X6_shareOldestFirst : xCV yX6_shareOldestFirst cX6_shareOldestFirst 5 none 1 := ⟨tb609, tb12, tb45, tb610, ⟨by decide, by decide, by decide +kernel⟩⟩
theorem cv_X6_takeBack : xCV yX6_takeBack cX6_takeBack 4 (some FieldType.int) 2 := ⟨tb700, tb19, tb45, tb701, ⟨by decide, by decide, by decide +kernel⟩⟩
theorem cv_X6_today : xCV yX6_today cX6_today 1 (some FieldType.int) 0 := ⟨tb157, tb158, tb45, tb159, ⟨by decide, by decide, by decide +kernel⟩⟩
theorem cv_X6_unallocated : xCV yX6_unallocated cX6_unallocated 2 (some FieldType.int) 1 := ⟨tb844, tb845, tb45, tb846, ⟨by decide, by decide, by decide +kernel⟩⟩
theorem cv_X6_weighClearAmounts : xCV yX6_weighClearAmounts cX6_weighClearAmounts 4 none 1 := ⟨tb593, tb11, tb45, tb594, ⟨by decide, by decide, by decide +kernel⟩⟩
theorem cv_X7_accrued : xCV yX7_accrued cX7_accrued 2 (some FieldType.int) 1 := ⟨tb1179, tb1180, tb51, tb1181, ⟨by decide, by decide, by decide +kernel⟩⟩
theorem cv_X7_accruedOf : xCV yX7_accruedOf cX7_accruedOf 2 (some FieldType.int) 1 := ⟨tb1172, tb39, tb51, tb1173, ⟨by decide, by decide, by decide +kernel⟩⟩
theorem cv_X7_addCustomer : xCV yX7_addCustomer cX7_addCustomer 5 (some FieldType.int) 3 := ⟨tb1015, tb1016, tb51, tb1017, ⟨by decide, by decide, by decide +kernel⟩⟩
theorem cv_X7_ageing : xCV yX7_ageing cX7_ageing 5 (some FieldType.int) 2 := ⟨tb1243, tb1244, tb51, tb1245, ⟨by decide, by decide, by decide +kernel⟩⟩
theorem cv_X7_allocate : xCV yX7_allocate cX7_allocate 5 (some FieldType.int) 3 := ⟨tb1123, tb1124, tb51, tb1125, ⟨by decide, by decide, by decide +kernel⟩⟩
theorem cv_X7_allocateByRule : xCV yX7_allocateByRule cX7_allocateByRule 4 (some FieldType.int) 1 := ⟨tb1100, tb29, tb51, tb1101, ⟨by decide, by decide, by decide +kernel⟩⟩
theorem cv_X7_allocateRest : xCV yX7_allocateRest cX7_allocateRest 4 (some FieldType.int) 1 := ⟨tb1135, tb1136, tb51, tb1137, ⟨by decide, by decide, by decide +kernel⟩⟩
theorem cv_X7_allocated : xCV yX7_allocated cX7_allocated 3 (some FieldType.int) 2 := ⟨tb1223, tb1224, tb51, tb1225, ⟨by decide, by decide, by decide +kernel⟩⟩
theorem cv_X7_amountOf : xCV yX7_amountOf cX7_amountOf 2 (some FieldType.int) 1 := ⟨tb1203, tb1204, tb51, tb1205, ⟨by decide, by decide, by decide +kernel⟩⟩
theorem cv_X7_balance : xCV yX7_balance cX7_balance 4 (some FieldType.int) 1 := ⟨tb1231, tb1232, tb51, tb1233, ⟨by decide, by decide, by decide +kernel⟩⟩
theorem cs_X7_between : xCS yX7_between cX7_between 3 (some FieldType.int) 3 := ⟨tb1062, tb51, tb1063, ⟨by decide, by decide, by decide +kernel⟩⟩
theorem cv_X7_bucket : xCV yX7_bucket cX7_bucket 3 (some FieldType.int) 1 := ⟨tb1240, tb41, tb51, tb1241, ⟨by decide, by decide, by decide +kernel⟩⟩
theorem cv_X7_bucketOf : xCV yX7_bucketOf cX7_bucketOf 2 (some FieldType.int) 1 := ⟨tb1235, tb1236, tb51, tb1237, ⟨by decide, by decide, by decide +kernel⟩⟩
theorem cv_X7_chargeInterest : xCV yX7_chargeInterest cX7_chargeInterest 6 (some FieldType.int) 2 := ⟨tb1167, tb1168, tb51, tb1169, ⟨by decide, by decide, by decide +kernel⟩⟩
theorem cv_X7_clear : xCV yX7_clear cX7_clear 2 (some FieldType.int) 1 := ⟨tb1059, tb25, tb51, tb1060, ⟨by decide, by decide, by decide +kernel⟩⟩
theorem cv_X7_clearOf : xCV yX7_clearOf cX7_clearOf 5 (some FieldType.long) 1 := ⟨tb1108, tb31, tb51, tb1109, ⟨by decide, by decide, by decide +kernel⟩⟩
theorem cv_X7_countDays : xCV yX7_countDays cX7_countDays 5 (some FieldType.int) 3 := ⟨tb1078, tb1079, tb51, tb1080, ⟨by decide, by decide, by decide +kernel⟩⟩
theorem cv_X7_customers : xCV yX7_customers cX7_customers 1 (some FieldType.int) 0 := ⟨tb1191, tb1192, tb51, tb1193, ⟨by decide, by decide, by decide +kernel⟩⟩
theorem cv_X7_daysToReminder : xCV yX7_daysToReminder cX7_daysToReminder 3 (some FieldType.int) 1 := ⟨tb1259, tb1260, tb51, tb1261, ⟨by decide, by decide, by decide +kernel⟩⟩
theorem cv_X7_dispute : xCV yX7_dispute cX7_dispute 3 (some FieldType.int) 2 := ⟨tb1155, tb1156, tb51, tb1157, ⟨by decide, by decide, by decide +kernel⟩⟩
theorem cv_X7_disputeAll : xCV yX7_disputeAll cX7_disputeAll 5 (some FieldType.int) 2 := ⟨tb1159, tb1160, tb51, tb1161, ⟨by decide, by decide, by decide +kernel⟩⟩
theorem cv_X7_disputedOf : xCV yX7_disputedOf cX7_disputedOf 2 (some FieldType.int) 1 := ⟨tb1219, tb1220, tb51, tb1221, ⟨by decide, by decide, by decide +kernel⟩⟩
theorem cv_X7_dueDay : xCV yX7_dueDay cX7_dueDay 2 (some FieldType.int) 1 := ⟨tb1207, tb1208, tb51, tb1209, ⟨by decide, by decide, by decide +kernel⟩⟩
theorem cv_X7_fromOldest : xCV yX7_fromOldest cX7_fromOldest 8 (some FieldType.int) 3 := ⟨tb1116, tb33, tb51, tb1117, ⟨by decide, by decide, by decide +kernel⟩⟩
theorem ci_X7_init : xCI yX7_init cX7_init 1 0 := ⟨tb924, rfl, tb51, tb925, ⟨by decide, by decide, by decide +kernel⟩⟩
theorem cv_X7_invoices : xCV yX7_invoices cX7_invoices 1 (some FieldType.int) 0 := ⟨tb1195, tb1196, tb51, tb1197, ⟨by decide, by decide, by decide +kernel⟩⟩
theorem cv_X7_invoicesAt : xCV yX7_invoicesAt cX7_invoicesAt 4 (some FieldType.int) 1 := ⟨tb1263, tb1264, tb51, tb1265, ⟨by decide, by decide, by decide +kernel⟩⟩
theorem cv_X7_isCustomer : xCV yX7_isCustomer cX7_isCustomer 2 (some FieldType.boolean) 1 := ⟨tb1031, tb22, tb51, tb1032, ⟨by decide, by decide, by decide +kernel⟩⟩
theorem cv_X7_isInterest : xCV yX7_isInterest cX7_isInterest 2 (some FieldType.boolean) 1 := ⟨tb1187, tb1188, tb51, tb1189, ⟨by decide, by decide, by decide +kernel⟩⟩
theorem cv_X7_isInvoice : xCV yX7_isInvoice cX7_isInvoice 2 (some FieldType.boolean) 1 := ⟨tb1132, tb36, tb51, tb1133, ⟨by decide, by decide, by decide +kernel⟩⟩
theorem cv_X7_isPayment : xCV yX7_isPayment cX7_isPayment 2 (some FieldType.boolean) 1 := ⟨tb1128, tb35, tb51, tb1129, ⟨by decide, by decide, by decide +kernel⟩⟩
theorem cv_X7_isReminded : xCV yX7_isReminded cX7_isReminded 2 (some FieldType.boolean) 1 := ⟨tb1072, tb26, tb51, tb1073, ⟨by decide, by decide, by decide +kernel⟩⟩
theorem cv_X7_ledgerLines : xCV yX7_ledgerLines cX7_ledgerLines 1 (some FieldType.int) 0 := ⟨tb1267, tb1268, tb51, tb1269, ⟨by decide, by decide, by decide +kernel⟩⟩
theorem cs_X7_length : xCS yX7_length cX7_length 2 (some FieldType.int) 2 := ⟨tb1068, tb51, tb1069, ⟨by decide, by decide, by decide +kernel⟩⟩
theorem cv_X7_levelOf : xCV yX7_levelOf cX7_levelOf 2 (some FieldType.int) 1 := ⟨tb1255, tb1256, tb51, tb1257, ⟨by decide, by decide, by decide +kernel⟩⟩
theorem cv_X7_lineAmount : xCV yX7_lineAmount cX7_lineAmount 2 (some FieldType.int) 1 := ⟨tb1279, tb1280, tb51, tb1281, ⟨by decide, by decide, by decide +kernel⟩⟩
theorem cv_X7_lineInvoice : xCV yX7_lineInvoice cX7_lineInvoice 2 (some FieldType.int) 1 := ⟨tb1271, tb1272, tb51, tb1273, ⟨by decide, by decide, by decide +kernel⟩⟩
theorem cv_X7_noCustomer : xCV yX7_noCustomer cX7_noCustomer 2 (some FieldType.boolean) 1 := ⟨tb1140, tb37, tb51, tb1141, ⟨by decide, by decide, by decide +kernel⟩⟩
theorem cv_X7_noInvoice : xCV yX7_noInvoice cX7_noInvoice 2 (some FieldType.boolean) 1 := ⟨tb1184, tb40, tb51, tb1185, ⟨by decide, by decide, by decide +kernel⟩⟩
theorem cv_X7_noLine : xCV yX7_noLine cX7_noLine 2 (some FieldType.boolean) 1 := ⟨tb1276, tb43, tb51, tb1277, ⟨by decide, by decide, by decide +kernel⟩⟩
theorem cv_X7_oldest : xCV yX7_oldest cX7_oldest 2 (some FieldType.int) 1 := ⟨tb1247, tb1248, tb51, tb1249, ⟨by decide, by decide, by decide +kernel⟩⟩
theorem cv_X7_oldestOf : xCV yX7_oldestOf cX7_oldestOf 4 (some FieldType.int) 1 := ⟨tb1252, tb42, tb51, tb1253, ⟨by decide, by decide, by decide +kernel⟩⟩
theorem cv_X7_openByLedger : xCV yX7_openByLedger cX7_openByLedger 4 (some FieldType.int) 1 := ⟨tb1215, tb1216, tb51, tb1217, ⟨by decide, by decide, by decide +kernel⟩⟩
theorem cv_X7_openOf : xCV yX7_openOf cX7_openOf 2 (some FieldType.int) 1 := ⟨tb1211, tb1212, tb51, tb1213, ⟨by decide, by decide, by decide +kernel⟩⟩
theorem cv_X7_passDay : xCV yX7_passDay cX7_passDay 4 none 0 := ⟨tb1055, tb24, tb51, tb1056, ⟨by decide, by decide, by decide +kernel⟩⟩
theorem cv_X7_passDays : xCV yX7_passDays cX7_passDays 3 (some FieldType.int) 1 := ⟨tb1050, tb1051, tb51, tb1052, ⟨by decide, by decide, by decide +kernel⟩⟩
theorem cs_X7_patience : xCS yX7_patience cX7_patience 1 (some FieldType.int) 1 := ⟨tb1075, tb51, tb1076, ⟨by decide, by decide, by decide +kernel⟩⟩
theorem cv_X7_pauseReminders : xCV yX7_pauseReminders cX7_pauseReminders 3 (some FieldType.int) 2 := ⟨tb1038, tb1039, tb51, tb1040, ⟨by decide, by decide, by decide +kernel⟩⟩
theorem cv_X7_payments : xCV yX7_payments cX7_payments 1 (some FieldType.int) 0 := ⟨tb1199, tb1200, tb51, tb1201, ⟨by decide, by decide, by decide +kernel⟩⟩
theorem cv_X7_post : xCV yX7_post cX7_post 5 (some FieldType.int) 4 := ⟨tb1088, tb27, tb51, tb1089, ⟨by decide, by decide, by decide +kernel⟩⟩
theorem cv_X7_postInvoice : xCV yX7_postInvoice cX7_postInvoice 5 (some FieldType.int) 3 := ⟨tb1082, tb1083, tb51, tb1084, ⟨by decide, by decide, by decide +kernel⟩⟩
theorem cv_X7_postPayment : xCV yX7_postPayment cX7_postPayment 4 (some FieldType.int) 2 := ⟨tb1095, tb1096, tb51, tb1097, ⟨by decide, by decide, by decide +kernel⟩⟩
theorem cv_X7_put : xCV yX7_put cX7_put 4 none 3 := ⟨tb1120, tb34, tb51, tb1121, ⟨by decide, by decide, by decide +kernel⟩⟩
theorem cv_X7_refused : xCV yX7_refused cX7_refused 2 (some FieldType.boolean) 1 := ⟨tb1023, tb21, tb51, tb1024, ⟨by decide, by decide, by decide +kernel⟩⟩
theorem cv_X7_release : xCV yX7_release cX7_release 3 (some FieldType.int) 2 := ⟨tb1143, tb1144, tb51, tb1145, ⟨by decide, by decide, by decide +kernel⟩⟩
theorem cv_X7_reverse : xCV yX7_reverse cX7_reverse 4 (some FieldType.int) 1 := ⟨tb1151, tb1152, tb51, tb1153, ⟨by decide, by decide, by decide +kernel⟩⟩
theorem cv_X7_setRate : xCV yX7_setRate cX7_setRate 4 (some FieldType.int) 2 := ⟨tb1034, tb1035, tb51, tb1036, ⟨by decide, by decide, by decide +kernel⟩⟩
theorem cv_X7_setRule : xCV yX7_setRule cX7_setRule 4 (some FieldType.int) 2 := ⟨tb1026, tb1027, tb51, tb1028, ⟨by decide, by decide, by decide +kernel⟩⟩
theorem cv_X7_settle : xCV yX7_settle cX7_settle 3 (some FieldType.int) 2 := ⟨tb1163, tb1164, tb51, tb1165, ⟨by decide, by decide, by decide +kernel⟩⟩
theorem cv_X7_share : xCV yX7_share cX7_share 7 none 2 := ⟨tb1104, tb30, tb51, tb1105, ⟨by decide, by decide, by decide +kernel⟩⟩
theorem cv_X7_split : xCV yX7_split cX7_split 9 none 2 := ⟨tb1112, tb32, tb51, tb1113, ⟨by decide, by decide, by decide +kernel⟩⟩
theorem cv_X7_takeBack : xCV yX7_takeBack cX7_takeBack 4 (some FieldType.int) 2 := ⟨tb1148, tb38, tb51, tb1149, ⟨by decide, by decide, by decide +kernel⟩⟩
theorem cs_X7_thirties : xCS yX7_thirties cX7_thirties 5 (some FieldType.int) 1 := ⟨tb1065, tb51, tb1066, ⟨by decide, by decide, by decide +kernel⟩⟩
theorem cv_X7_thrown : xCV yX7_thrown cX7_thrown 1 (some FieldType.int) 0 := ⟨tb1011, tb1012, tb51, tb1013, ⟨by decide, by decide, by decide +kernel⟩⟩
theorem cv_X7_today : xCV yX7_today cX7_today 1 (some FieldType.int) 0 := ⟨tb1042, tb1043, tb51, tb1044, ⟨by decide, by decide, by decide +kernel⟩⟩
theorem cv_X7_told : xCV yX7_told cX7_told 2 (some FieldType.int) 1 := ⟨tb1047, tb23, tb51, tb1048, ⟨by decide, by decide, by decide +kernel⟩⟩
theorem cv_X7_unallocated : xCV yX7_unallocated cX7_unallocated 2 (some FieldType.int) 1 := ⟨tb1227, tb1228, tb51, tb1229, ⟨by decide, by decide, by decide +kernel⟩⟩
theorem cs_X7_unit : xCS yX7_unit cX7_unit 1 (some FieldType.long) 1 := ⟨tb1175, tb51, tb1176, ⟨by decide, by decide, by decide +kernel⟩⟩
theorem cs_X7_within : xCS yX7_within cX7_within 3 (some FieldType.boolean) 3 := ⟨tb1019, tb51, tb1020, ⟨by decide, by decide, by decide +kernel⟩⟩
theorem cv_X7_write : xCV yX7_write cX7_write 3 none 2 := ⟨tb1092, tb28, tb51, tb1093, ⟨by decide, by decide, by decide +kernel⟩⟩
end
