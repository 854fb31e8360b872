set_option maxRecDepth 100000 in
set_option maxHeartbeats 4000000 in
theorem m_X7_within {l : Launch} {N0 : Nat} {D : va_G} {dT : Nat → ClassId} (hflags : l.stackTraces = false) {hp : xH} {v a b : Int32}  : xMet l N0 D dT yX7_within cX7_within 3 (some FieldType.boolean) 0 0 0 [.int v, .int a, .int b] (hp) xNo (fun r h => r = some (.int (bI (a ≤ v ∧ v ≤ b))) ∧ h = hp) xNX := by
  refine xMet_of hflags (by decide +kernel) (fun _ _ h => h) (Nat.le_of_ble_eq_true rfl) ?_
  intro E C I hret hthr
  refine a_loc [(0, .int v), (1, .int a), (2, .int b)] (xsub_cons rfl (xsub_cons rfl (xsub_cons rfl (xsub_nil)))) ?_
  refine a_iload_n (i := 0) C dX7_within_0 rfl rfl ?_
  refine a_iload_n (i := 1) C dX7_within_1 rfl rfl ?_
  refine a_icmp_lt (tgt := 14) C dX7_within_2 (by decide) (fun c2 => ?_) (fun c2 => ?_)
  · refine a_iconst (v := 0) C dX7_within_14 (by decide) ?_
    exact a_zret C dX7_within_15 (by first | rfl | exact bI_nar) (Nat.le_of_ble_eq_true rfl) (Nat.le_of_ble_eq_true rfl) (hret _ _ ⟨congrArg (fun z => some (Value.int z)) (by first | exact (bI_t (by grind)).symm | exact (bI_f (by grind)).symm), rfl⟩)
  · refine a_iload_n (i := 0) C dX7_within_5 rfl rfl ?_
    refine a_iload_n (i := 2) C dX7_within_6 rfl rfl ?_
    refine a_icmp_gt (tgt := 14) C dX7_within_7 (by decide) (fun c7 => ?_) (fun c7 => ?_)
    · refine a_iconst (v := 0) C dX7_within_14 (by decide) ?_
      exact a_zret C dX7_within_15 (by first | rfl | exact bI_nar) (Nat.le_of_ble_eq_true rfl) (Nat.le_of_ble_eq_true rfl) (hret _ _ ⟨congrArg (fun z => some (Value.int z)) (by first | exact (bI_t (by grind)).symm | exact (bI_f (by grind)).symm), rfl⟩)
    · refine a_iconst (v := 1) C dX7_within_10 (by decide) ?_
      refine a_goto (tgt := 15) C dX7_within_11 (by decide) ?_
      exact a_zret C dX7_within_15 (by first | rfl | exact bI_nar) (Nat.le_of_ble_eq_true rfl) (Nat.le_of_ble_eq_true rfl) (hret _ _ ⟨congrArg (fun z => some (Value.int z)) (by first | exact (bI_t (by grind)).symm | exact (bI_f (by grind)).symm), rfl⟩)
set_option maxRecDepth 100000 in
set_option maxHeartbeats 4000000 in
theorem m_X7_thrown {l : Launch} {N0 : Nat} {D : va_G} {dT : Nat → ClassId} (hflags : l.stackTraces = false) {h : xH} {n : Nat → Int32} {f : Nat → Nat → Int32} {g : Nat → Nat → Int64}   : xMet l N0 D dT yX7_thrown cX7_thrown 1 (some FieldType.int) 0 0 0 [.ref 200] (xM h n f g) xNo (fun r h' => r = some (.int (n 0)) ∧ h' = xM h n f g) xNX := by
  refine xMet_of hflags (by decide +kernel) (fun _ _ h => h) (Nat.le_of_ble_eq_true rfl) ?_
  intro E C I hret hthr
  refine a_loc [(0, .ref 200)] (xsub_cons rfl (xsub_nil)) ?_
  refine a_aload_n (i := 0) C dX7_thrown_0 rfl rfl ?_
  refine a_get C dX7_thrown_1 fl_X7_75 xM_0 rfl ?_
  exact a_iret C dX7_thrown_4 (Nat.le_of_ble_eq_true rfl) (Nat.le_of_ble_eq_true rfl) (hret _ _ ⟨rfl, rfl⟩)
set_option maxRecDepth 100000 in
set_option maxHeartbeats 4000000 in
theorem m_X7_refused {l : Launch} {N0 : Nat} {D : va_G} {dT : Nat → ClassId} (hflags : l.stackTraces = false) {h : xH} {n : Nat → Int32} {f : Nat → Nat → Int32} {g : Nat → Nat → Int64} {w : Int32}  : xMet l N0 D dT yX7_refused cX7_refused 2 (some FieldType.boolean) 0 0 0 [.ref 200, .int w] (xM h n f g) xNo (fun r h' => r = some (.int (bI (¬ w = 0))) ∧ h' = xM h (nup n 0 w) f g) xNX := by
  refine xMet_of hflags (by decide +kernel) (fun _ _ h => h) (Nat.le_of_ble_eq_true rfl) ?_
  intro E C I hret hthr
  refine a_loc [(0, .ref 200), (1, .int w)] (xsub_cons rfl (xsub_cons rfl (xsub_nil))) ?_
  refine a_aload_n (i := 0) C dX7_refused_0 rfl rfl ?_
  refine a_iload_n (i := 1) C dX7_refused_1 rfl rfl ?_
  refine a_put C dX7_refused_2 fl_X7_75 xM_0 (Nat.le_of_ble_eq_true rfl) rfl rfl ?_
  refine a_hp xMp_0 ?_
  refine a_iload_n (i := 1) C dX7_refused_5 rfl rfl ?_
  refine a_if_eq (tgt := 13) C dX7_refused_6 (by decide) (fun c6 => ?_) (fun c6 => ?_)
  · refine a_iconst (v := 0) C dX7_refused_13 (by decide) ?_
    exact a_zret C dX7_refused_14 (by first | rfl | exact bI_nar) (Nat.le_of_ble_eq_true rfl) (Nat.le_of_ble_eq_true rfl) (hret _ _ ⟨congrArg (fun z => some (Value.int z)) (by first | exact (bI_t (by grind)).symm | exact (bI_f (by grind)).symm), rfl⟩)
  · refine a_iconst (v := 1) C dX7_refused_9 (by decide) ?_
    refine a_goto (tgt := 14) C dX7_refused_10 (by decide) ?_
    exact a_zret C dX7_refused_14 (by first | rfl | exact bI_nar) (Nat.le_of_ble_eq_true rfl) (Nat.le_of_ble_eq_true rfl) (hret _ _ ⟨congrArg (fun z => some (Value.int z)) (by first | exact (bI_t (by grind)).symm | exact (bI_f (by grind)).symm), rfl⟩)
set_option maxRecDepth 100000 in
set_option maxHeartbeats 4000000 in
theorem m_X7_told {l : Launch} {N0 : Nat} {D : va_G} {dT : Nat → ClassId} (hflags : l.stackTraces = false) {h : xH} {n : Nat → Int32} {f : Nat → Nat → Int32} {g : Nat → Nat → Int64} {w : Int32}  : xMet l N0 D dT yX7_told cX7_told 2 (some FieldType.int) 0 0 0 [.ref 200, .int w] (xM h n f g) xNo (fun r h' => r = some (.int w) ∧ h' = xM h (nup n 0 0) f g) xNX := by
  refine xMet_of hflags (by decide +kernel) (fun _ _ h => h) (Nat.le_of_ble_eq_true rfl) ?_
  intro E C I hret hthr
  refine a_loc [(0, .ref 200), (1, .int w)] (xsub_cons rfl (xsub_cons rfl (xsub_nil))) ?_
  refine a_aload_n (i := 0) C dX7_told_0 rfl rfl ?_
  refine a_iconst (v := 0) C dX7_told_1 (by decide) ?_
  refine a_put C dX7_told_2 fl_X7_75 xM_0 (Nat.le_of_ble_eq_true rfl) rfl rfl ?_
  refine a_hp xMp_0 ?_
  refine a_iload_n (i := 1) C dX7_told_5 rfl rfl ?_
  exact a_iret C dX7_told_6 (Nat.le_of_ble_eq_true rfl) (Nat.le_of_ble_eq_true rfl) (hret _ _ ⟨rfl, rfl⟩)
set_option maxRecDepth 100000 in
set_option maxHeartbeats 4000000 in
theorem m_X7_isCustomer {l : Launch} {N0 : Nat} {D : va_G} {dT : Nat → ClassId} (hflags : l.stackTraces = false) {h : xH} {n : Nat → Int32} {f : Nat → Nat → Int32} {g : Nat → Nat → Int64} {w : Int32}  : xMet l N0 D dT yX7_isCustomer cX7_isCustomer 2 (some FieldType.boolean) 1 0 0 [.ref 200, .int w] (xM h n f g) xNo (fun r h' => r = some (.int (bI (0 ≤ w ∧ w ≤ n 2 - 1))) ∧ h' = xM h n f g) xNX := by
  refine xMet_of hflags (by decide +kernel) (fun _ _ h => h) (Nat.le_of_ble_eq_true rfl) ?_
  intro E C I hret hthr
  refine a_loc [(0, .ref 200), (1, .int w)] (xsub_cons rfl (xsub_cons rfl (xsub_nil))) ?_
  refine a_iload_n (i := 1) C dX7_isCustomer_0 rfl rfl ?_
  refine a_iconst (v := 0) C dX7_isCustomer_1 (by decide) ?_
  refine a_aload_n (i := 0) C dX7_isCustomer_2 rfl rfl ?_
  refine a_get C dX7_isCustomer_3 fl_X7_79 xM_0 rfl ?_
  refine a_iconst (v := 1) C dX7_isCustomer_6 (by decide) ?_
  refine a_isub C dX7_isCustomer_7 ?_
  refine a_callS C dX7_isCustomer_8 cs_X7_within tb1018 (m_X7_within hflags) rfl rfl (Nat.le_of_ble_eq_true rfl) ⟨Nat.le_of_ble_eq_true rfl, Nat.le_of_ble_eq_true rfl⟩ ⟨Nat.le_of_ble_eq_true rfl, Nat.le_of_ble_eq_true rfl⟩ (fun _ h => h.elim) xav_no (fun _ _ h => h.elim) (fun r8 hp8 hq8 => ?_)
  obtain ⟨rfl, rfl⟩ := hq8
  exact a_zret C dX7_isCustomer_11 (by first | rfl | exact bI_nar) (Nat.le_of_ble_eq_true rfl) (Nat.le_of_ble_eq_true rfl) (hret _ _ ⟨rfl, rfl⟩)
set_option maxRecDepth 100000 in
set_option maxHeartbeats 4000000 in
theorem m_X7_isInvoice {l : Launch} {N0 : Nat} {D : va_G} {dT : Nat → ClassId} (hflags : l.stackTraces = false) {h : xH} {n : Nat → Int32} {f : Nat → Nat → Int32} {g : Nat → Nat → Int64} {w : Int32}  : xMet l N0 D dT yX7_isInvoice cX7_isInvoice 2 (some FieldType.boolean) 1 0 0 [.ref 200, .int w] (xM h n f g) xNo (fun r h' => r = some (.int (bI (0 ≤ w ∧ w ≤ n 3 - 1))) ∧ h' = xM h n f g) xNX := by
  refine xMet_of hflags (by decide +kernel) (fun _ _ h => h) (Nat.le_of_ble_eq_true rfl) ?_
  intro E C I hret hthr
  refine a_loc [(0, .ref 200), (1, .int w)] (xsub_cons rfl (xsub_cons rfl (xsub_nil))) ?_
  refine a_iload_n (i := 1) C dX7_isInvoice_0 rfl rfl ?_
  refine a_iconst (v := 0) C dX7_isInvoice_1 (by decide) ?_
  refine a_aload_n (i := 0) C dX7_isInvoice_2 rfl rfl ?_
  refine a_get C dX7_isInvoice_3 fl_X7_86 xM_0 rfl ?_
  refine a_iconst (v := 1) C dX7_isInvoice_6 (by decide) ?_
  refine a_isub C dX7_isInvoice_7 ?_
  refine a_callS C dX7_isInvoice_8 cs_X7_within tb1018 (m_X7_within hflags) rfl rfl (Nat.le_of_ble_eq_true rfl) ⟨Nat.le_of_ble_eq_true rfl, Nat.le_of_ble_eq_true rfl⟩ ⟨Nat.le_of_ble_eq_true rfl, Nat.le_of_ble_eq_true rfl⟩ (fun _ h => h.elim) xav_no (fun _ _ h => h.elim) (fun r8 hp8 hq8 => ?_)
  obtain ⟨rfl, rfl⟩ := hq8
  exact a_zret C dX7_isInvoice_11 (by first | rfl | exact bI_nar) (Nat.le_of_ble_eq_true rfl) (Nat.le_of_ble_eq_true rfl) (hret _ _ ⟨rfl, rfl⟩)
set_option maxRecDepth 100000 in
set_option maxHeartbeats 4000000 in
theorem m_X7_isPayment {l : Launch} {N0 : Nat} {D : va_G} {dT : Nat → ClassId} (hflags : l.stackTraces = false) {h : xH} {n : Nat → Int32} {f : Nat → Nat → Int32} {g : Nat → Nat → Int64} {w : Int32}  : xMet l N0 D dT yX7_isPayment cX7_isPayment 2 (some FieldType.boolean) 1 0 0 [.ref 200, .int w] (xM h n f g) xNo (fun r h' => r = some (.int (bI (0 ≤ w ∧ w ≤ n 4 - 1))) ∧ h' = xM h n f g) xNX := by
  refine xMet_of hflags (by decide +kernel) (fun _ _ h => h) (Nat.le_of_ble_eq_true rfl) ?_
  intro E C I hret hthr
  refine a_loc [(0, .ref 200), (1, .int w)] (xsub_cons rfl (xsub_cons rfl (xsub_nil))) ?_
  refine a_iload_n (i := 1) C dX7_isPayment_0 rfl rfl ?_
  refine a_iconst (v := 0) C dX7_isPayment_1 (by decide) ?_
  refine a_aload_n (i := 0) C dX7_isPayment_2 rfl rfl ?_
  refine a_get C dX7_isPayment_3 fl_X7_89 xM_0 rfl ?_
  refine a_iconst (v := 1) C dX7_isPayment_6 (by decide) ?_
  refine a_isub C dX7_isPayment_7 ?_
  refine a_callS C dX7_isPayment_8 cs_X7_within tb1018 (m_X7_within hflags) rfl rfl (Nat.le_of_ble_eq_true rfl) ⟨Nat.le_of_ble_eq_true rfl, Nat.le_of_ble_eq_true rfl⟩ ⟨Nat.le_of_ble_eq_true rfl, Nat.le_of_ble_eq_true rfl⟩ (fun _ h => h.elim) xav_no (fun _ _ h => h.elim) (fun r8 hp8 hq8 => ?_)
  obtain ⟨rfl, rfl⟩ := hq8
  exact a_zret C dX7_isPayment_11 (by first | rfl | exact bI_nar) (Nat.le_of_ble_eq_true rfl) (Nat.le_of_ble_eq_true rfl) (hret _ _ ⟨rfl, rfl⟩)
