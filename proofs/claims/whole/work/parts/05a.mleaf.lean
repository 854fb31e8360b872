/-- the reference's counts -/
def xI (n : Nat → Int32) (nc ni np nl : Nat) : Prop := n 2 = nI nc ∧ n 3 = nI ni ∧ n 4 = nI np ∧ n 5 = nI nl ∧ nc ≤ 6 ∧ ni ≤ 24 ∧ np ≤ 24 ∧ nl ≤ 16000
theorem xI_0 {n : Nat → Int32} {nc ni np nl : Nat} {w : Int32} (h : xI n nc ni np nl) : xI (nup n 0 w) nc ni np nl := h
theorem xI_1 {n : Nat → Int32} {nc ni np nl : Nat} {w : Int32} (h : xI n nc ni np nl) : xI (nup n 1 w) nc ni np nl := h
/-- the bucket of so many days of lateness -/
def xbk (l : Int32) : Int32 := if l ≤ 0 then 0 else if l ≤ 30 then 1 else if l ≤ 60 then 2 else if l ≤ 90 then 3 else 4
set_option maxRecDepth 100000 in
set_option maxHeartbeats 4000000 in
theorem m_X7_within {l : Launch} {N0 : Nat} {D : va_G} {dT : Nat → ClassId} (hflags : l.stackTraces = false) {hp : xH} {v a b : Int32}  : xMet l N0 D dT yX7_within cX7_within 3 (some FieldType.boolean) 0 0 0 [.int v, .int a, .int b] (hp) xNo (fun r h => r = some (.int (bI (a ≤ v ∧ v ≤ b))) ∧ h = hp) xNX := by
  refine xMet_of hflags (by decide +kernel) (fun _ _ h => h) (Nat.le_of_ble_eq_true rfl) ?_
  intro E C I hret hthr
  refine a_loc [(0, .int v), (1, .int a), (2, .int b)] (xsub_cons rfl (xsub_cons rfl (xsub_cons rfl (xsub_nil)))) ?_
  refine a_iload_n (i := 0) C dX7_within_0 rfl rfl ?_
  refine a_iload_n (i := 1) C dX7_within_1 rfl rfl ?_
  refine a_icmp_lt (tgt := 14) C dX7_within_2 (by decide) (fun c2 => ?_) (fun c2 => ?_)
  · refine a_iconst (v := 0) C dX7_within_14 (by decide) ?_
    exact a_zret C dX7_within_15 (by first | rfl | exact bI_nar) (Nat.le_of_ble_eq_true rfl) (Nat.le_of_ble_eq_true rfl) (hret _ _ ⟨congrArg (fun z => some (Value.int z)) (by clear hret hthr I C; first | exact (bI_t (by grind)).symm | exact (bI_f (by grind)).symm), rfl⟩)
  · refine a_iload_n (i := 0) C dX7_within_5 rfl rfl ?_
    refine a_iload_n (i := 2) C dX7_within_6 rfl rfl ?_
    refine a_icmp_gt (tgt := 14) C dX7_within_7 (by decide) (fun c7 => ?_) (fun c7 => ?_)
    · refine a_iconst (v := 0) C dX7_within_14 (by decide) ?_
      exact a_zret C dX7_within_15 (by first | rfl | exact bI_nar) (Nat.le_of_ble_eq_true rfl) (Nat.le_of_ble_eq_true rfl) (hret _ _ ⟨congrArg (fun z => some (Value.int z)) (by clear hret hthr I C; first | exact (bI_t (by grind)).symm | exact (bI_f (by grind)).symm), rfl⟩)
    · refine a_iconst (v := 1) C dX7_within_10 (by decide) ?_
      refine a_goto (tgt := 15) C dX7_within_11 (by decide) ?_
      exact a_zret C dX7_within_15 (by first | rfl | exact bI_nar) (Nat.le_of_ble_eq_true rfl) (Nat.le_of_ble_eq_true rfl) (hret _ _ ⟨congrArg (fun z => some (Value.int z)) (by clear hret hthr I C; first | exact (bI_t (by grind)).symm | exact (bI_f (by grind)).symm), rfl⟩)
set_option maxRecDepth 100000 in
set_option maxHeartbeats 4000000 in
theorem m_X7_thrown {l : Launch} {N0 : Nat} {D : va_G} {dT : Nat → ClassId} (hflags : l.stackTraces = false) {h : xH} {n : Nat → Int32} {f : Nat → Nat → Int32} {g : Nat → Nat → Int64}   : xMet l N0 D dT yX7_thrown cX7_thrown 1 (some FieldType.int) 0 0 0 [.ref 200] (xM h n f g) xNo (fun r h' => r = some (.int (n 0)) ∧ h' = xM h n f g) xNX := by
  refine xMet_of hflags (by decide +kernel) (fun _ _ h => h) (Nat.le_of_ble_eq_true rfl) ?_
  intro E C I hret hthr
  refine a_loc [(0, .ref 200)] (xsub_cons rfl (xsub_nil)) ?_
  refine a_aload_n (i := 0) C dX7_thrown_0 rfl rfl ?_
  refine a_get C dX7_thrown_1 fl_X7_75 xM_0 rfl ?_
  exact a_iret C dX7_thrown_4 (Nat.le_of_ble_eq_true rfl) (Nat.le_of_ble_eq_true rfl) (hret _ _ ⟨rfl, rfl⟩)
set_option maxRecDepth 100000 in
set_option maxHeartbeats 4000000 in
theorem m_X7_refused0 {l : Launch} {N0 : Nat} {D : va_G} {dT : Nat → ClassId} (hflags : l.stackTraces = false) {h : xH} {n : Nat → Int32} {f : Nat → Nat → Int32} {g : Nat → Nat → Int64}   : xMet l N0 D dT yX7_refused cX7_refused 2 (some FieldType.boolean) 0 0 0 [.ref 200, .int 0] (xM h n f g) xNo (fun r h' => r = some (.int 0) ∧ h' = xM h (nup n 0 0) f g) xNX := by
  refine xMet_of hflags (by decide +kernel) (fun _ _ h => h) (Nat.le_of_ble_eq_true rfl) ?_
  intro E C I hret hthr
  refine a_loc [(0, .ref 200), (1, .int 0)] (xsub_cons rfl (xsub_cons rfl (xsub_nil))) ?_
  refine a_aload_n (i := 0) C dX7_refused_0 rfl rfl ?_
  refine a_iload_n (i := 1) C dX7_refused_1 rfl rfl ?_
  refine a_put C dX7_refused_2 fl_X7_75 xM_0 (Nat.le_of_ble_eq_true rfl) rfl rfl ?_
  refine a_hp xMp_0 ?_
  refine a_iload_n (i := 1) C dX7_refused_5 rfl rfl ?_
  refine a_if_eq (tgt := 13) C dX7_refused_6 (by decide) (fun _ => ?_) (fun z => absurd (by decide) z)
  refine a_iconst (v := 0) C dX7_refused_13 (by decide) ?_
  exact a_zret C dX7_refused_14 (by first | rfl | exact bI_nar) (Nat.le_of_ble_eq_true rfl) (Nat.le_of_ble_eq_true rfl) (hret _ _ ⟨rfl, rfl⟩)
set_option maxRecDepth 100000 in
set_option maxHeartbeats 4000000 in
theorem m_X7_refused1 {l : Launch} {N0 : Nat} {D : va_G} {dT : Nat → ClassId} (hflags : l.stackTraces = false) {h : xH} {n : Nat → Int32} {f : Nat → Nat → Int32} {g : Nat → Nat → Int64} {w : Int32} (hw : ¬ w = 0)  : xMet l N0 D dT yX7_refused cX7_refused 2 (some FieldType.boolean) 0 0 0 [.ref 200, .int w] (xM h n f g) xNo (fun r h' => r = some (.int 1) ∧ h' = xM h (nup n 0 w) f g) xNX := by
  refine xMet_of hflags (by decide +kernel) (fun _ _ h => h) (Nat.le_of_ble_eq_true rfl) ?_
  intro E C I hret hthr
  refine a_loc [(0, .ref 200), (1, .int w)] (xsub_cons rfl (xsub_cons rfl (xsub_nil))) ?_
  refine a_aload_n (i := 0) C dX7_refused_0 rfl rfl ?_
  refine a_iload_n (i := 1) C dX7_refused_1 rfl rfl ?_
  refine a_put C dX7_refused_2 fl_X7_75 xM_0 (Nat.le_of_ble_eq_true rfl) rfl rfl ?_
  refine a_hp xMp_0 ?_
  refine a_iload_n (i := 1) C dX7_refused_5 rfl rfl ?_
  refine a_if_eq (tgt := 13) C dX7_refused_6 (by decide) (fun c6 => ?_) (fun c6 => ?_)
  · exact absurd c6 hw
  · refine a_iconst (v := 1) C dX7_refused_9 (by decide) ?_
    refine a_goto (tgt := 14) C dX7_refused_10 (by decide) ?_
    exact a_zret C dX7_refused_14 (by first | rfl | exact bI_nar) (Nat.le_of_ble_eq_true rfl) (Nat.le_of_ble_eq_true rfl) (hret _ _ ⟨rfl, rfl⟩)
set_option maxRecDepth 100000 in
set_option maxHeartbeats 4000000 in
theorem m_X7_told {l : Launch} {N0 : Nat} {D : va_G} {dT : Nat → ClassId} (hflags : l.stackTraces = false) {h : xH} {n : Nat → Int32} {f : Nat → Nat → Int32} {g : Nat → Nat → Int64} {w : Int32}  : xMet l N0 D dT yX7_told cX7_told 2 (some FieldType.int) 0 0 0 [.ref 200, .int w] (xM h n f g) xNo (fun r h' => r = some (.int w) ∧ h' = xM h (nup n 0 0) f g) xNX := by
  refine xMet_of hflags (by decide +kernel) (fun _ _ h => h) (Nat.le_of_ble_eq_true rfl) ?_
  intro E C I hret hthr
  refine a_loc [(0, .ref 200), (1, .int w)] (xsub_cons rfl (xsub_cons rfl (xsub_nil))) ?_
  refine a_aload_n (i := 0) C dX7_told_0 rfl rfl ?_
  refine a_iconst (v := 0) C dX7_told_1 (by decide) ?_
  refine a_put C dX7_told_2 fl_X7_75 xM_0 (Nat.le_of_ble_eq_true rfl) rfl rfl ?_
  refine a_hp xMp_0 ?_
  refine a_iload_n (i := 1) C dX7_told_5 rfl rfl ?_
  exact a_iret C dX7_told_6 (Nat.le_of_ble_eq_true rfl) (Nat.le_of_ble_eq_true rfl) (hret _ _ ⟨rfl, rfl⟩)
set_option maxRecDepth 100000 in
set_option maxHeartbeats 4000000 in
theorem m_X7_isCustomer {l : Launch} {N0 : Nat} {D : va_G} {dT : Nat → ClassId} (hflags : l.stackTraces = false) {h : xH} {n : Nat → Int32} {f : Nat → Nat → Int32} {g : Nat → Nat → Int64} {nc ni np nl : Nat} (hI : xI n nc ni np nl) {w : Int32}  : xMet l N0 D dT yX7_isCustomer cX7_isCustomer 2 (some FieldType.boolean) 1 0 0 [.ref 200, .int w] (xM h n f g) xNo (fun r h' => r = some (.int (bI (xin w nc))) ∧ h' = xM h n f g) xNX := by
  refine xMet_of hflags (by decide +kernel) (fun _ _ h => h) (Nat.le_of_ble_eq_true rfl) ?_
  intro E C I hret hthr
  refine a_loc [(0, .ref 200), (1, .int w)] (xsub_cons rfl (xsub_cons rfl (xsub_nil))) ?_
  obtain ⟨hc, hi, hpy, hln, hc6, hi24, hp24, hlm⟩ := id hI
  refine a_iload_n (i := 1) C dX7_isCustomer_0 rfl rfl ?_
  refine a_iconst (v := 0) C dX7_isCustomer_1 (by decide) ?_
  refine a_aload_n (i := 0) C dX7_isCustomer_2 rfl rfl ?_
  refine a_get C dX7_isCustomer_3 fl_X7_79 xM_0 (by first | exact congrArg (fun z => some (Value.int z)) hc | rfl) ?_
  refine a_iconst (v := 1) C dX7_isCustomer_6 (by decide) ?_
  refine a_isub C dX7_isCustomer_7 ?_
  refine a_callS C dX7_isCustomer_8 cs_X7_within tb1029 (m_X7_within hflags) rfl rfl (Nat.le_of_ble_eq_true rfl) ⟨Nat.le_of_ble_eq_true rfl, Nat.le_of_ble_eq_true rfl⟩ ⟨Nat.le_of_ble_eq_true rfl, Nat.le_of_ble_eq_true rfl⟩ (fun _ h => h.elim) xav_no (fun _ _ h => h.elim) (fun r8 hp8 hq8 => ?_)
  obtain ⟨rfl, rfl⟩ := hq8
  exact a_zret C dX7_isCustomer_11 (by first | rfl | exact bI_nar) (Nat.le_of_ble_eq_true rfl) (Nat.le_of_ble_eq_true rfl) (hret _ _ ⟨congrArg (fun z => some (Value.int z)) (bI_congr (xin_iff rfl (by omega))), rfl⟩)
set_option maxRecDepth 100000 in
set_option maxHeartbeats 4000000 in
theorem m_X7_isInvoice {l : Launch} {N0 : Nat} {D : va_G} {dT : Nat → ClassId} (hflags : l.stackTraces = false) {h : xH} {n : Nat → Int32} {f : Nat → Nat → Int32} {g : Nat → Nat → Int64} {nc ni np nl : Nat} (hI : xI n nc ni np nl) {w : Int32}  : xMet l N0 D dT yX7_isInvoice cX7_isInvoice 2 (some FieldType.boolean) 1 0 0 [.ref 200, .int w] (xM h n f g) xNo (fun r h' => r = some (.int (bI (xin w ni))) ∧ h' = xM h n f g) xNX := by
  refine xMet_of hflags (by decide +kernel) (fun _ _ h => h) (Nat.le_of_ble_eq_true rfl) ?_
  intro E C I hret hthr
  refine a_loc [(0, .ref 200), (1, .int w)] (xsub_cons rfl (xsub_cons rfl (xsub_nil))) ?_
  obtain ⟨hc, hi, hpy, hln, hc6, hi24, hp24, hlm⟩ := id hI
  refine a_iload_n (i := 1) C dX7_isInvoice_0 rfl rfl ?_
  refine a_iconst (v := 0) C dX7_isInvoice_1 (by decide) ?_
  refine a_aload_n (i := 0) C dX7_isInvoice_2 rfl rfl ?_
  refine a_get C dX7_isInvoice_3 fl_X7_86 xM_0 (by first | exact congrArg (fun z => some (Value.int z)) hi | rfl) ?_
  refine a_iconst (v := 1) C dX7_isInvoice_6 (by decide) ?_
  refine a_isub C dX7_isInvoice_7 ?_
  refine a_callS C dX7_isInvoice_8 cs_X7_within tb1029 (m_X7_within hflags) rfl rfl (Nat.le_of_ble_eq_true rfl) ⟨Nat.le_of_ble_eq_true rfl, Nat.le_of_ble_eq_true rfl⟩ ⟨Nat.le_of_ble_eq_true rfl, Nat.le_of_ble_eq_true rfl⟩ (fun _ h => h.elim) xav_no (fun _ _ h => h.elim) (fun r8 hp8 hq8 => ?_)
  obtain ⟨rfl, rfl⟩ := hq8
  exact a_zret C dX7_isInvoice_11 (by first | rfl | exact bI_nar) (Nat.le_of_ble_eq_true rfl) (Nat.le_of_ble_eq_true rfl) (hret _ _ ⟨congrArg (fun z => some (Value.int z)) (bI_congr (xin_iff rfl (by omega))), rfl⟩)
set_option maxRecDepth 100000 in
set_option maxHeartbeats 4000000 in
theorem m_X7_isPayment {l : Launch} {N0 : Nat} {D : va_G} {dT : Nat → ClassId} (hflags : l.stackTraces = false) {h : xH} {n : Nat → Int32} {f : Nat → Nat → Int32} {g : Nat → Nat → Int64} {nc ni np nl : Nat} (hI : xI n nc ni np nl) {w : Int32}  : xMet l N0 D dT yX7_isPayment cX7_isPayment 2 (some FieldType.boolean) 1 0 0 [.ref 200, .int w] (xM h n f g) xNo (fun r h' => r = some (.int (bI (xin w np))) ∧ h' = xM h n f g) xNX := by
  refine xMet_of hflags (by decide +kernel) (fun _ _ h => h) (Nat.le_of_ble_eq_true rfl) ?_
  intro E C I hret hthr
  refine a_loc [(0, .ref 200), (1, .int w)] (xsub_cons rfl (xsub_cons rfl (xsub_nil))) ?_
  obtain ⟨hc, hi, hpy, hln, hc6, hi24, hp24, hlm⟩ := id hI
  refine a_iload_n (i := 1) C dX7_isPayment_0 rfl rfl ?_
  refine a_iconst (v := 0) C dX7_isPayment_1 (by decide) ?_
  refine a_aload_n (i := 0) C dX7_isPayment_2 rfl rfl ?_
  refine a_get C dX7_isPayment_3 fl_X7_89 xM_0 (by first | exact congrArg (fun z => some (Value.int z)) hpy | rfl) ?_
  refine a_iconst (v := 1) C dX7_isPayment_6 (by decide) ?_
  refine a_isub C dX7_isPayment_7 ?_
  refine a_callS C dX7_isPayment_8 cs_X7_within tb1029 (m_X7_within hflags) rfl rfl (Nat.le_of_ble_eq_true rfl) ⟨Nat.le_of_ble_eq_true rfl, Nat.le_of_ble_eq_true rfl⟩ ⟨Nat.le_of_ble_eq_true rfl, Nat.le_of_ble_eq_true rfl⟩ (fun _ h => h.elim) xav_no (fun _ _ h => h.elim) (fun r8 hp8 hq8 => ?_)
  obtain ⟨rfl, rfl⟩ := hq8
  exact a_zret C dX7_isPayment_11 (by first | rfl | exact bI_nar) (Nat.le_of_ble_eq_true rfl) (Nat.le_of_ble_eq_true rfl) (hret _ _ ⟨congrArg (fun z => some (Value.int z)) (bI_congr (xin_iff rfl (by omega))), rfl⟩)
set_option maxRecDepth 100000 in
set_option maxHeartbeats 4000000 in
theorem m_X7_noCustomer {l : Launch} {N0 : Nat} {D : va_G} {dT : Nat → ClassId} (hflags : l.stackTraces = false) {h : xH} {n : Nat → Int32} {f : Nat → Nat → Int32} {g : Nat → Nat → Int64} {nc ni np nl : Nat} (hI : xI n nc ni np nl) {w : Int32}  : xMet l N0 D dT yX7_noCustomer cX7_noCustomer 2 (some FieldType.boolean) 2 0 0 [.ref 200, .int w] (xM h n f g) xNo (fun r h' => r = some (.int (bI (¬ xin w nc))) ∧ h' = xM h (nup n 0 (bI (¬ xin w nc))) f g) xNX := by
  refine xMet_of hflags (by decide +kernel) (fun _ _ h => h) (Nat.le_of_ble_eq_true rfl) ?_
  intro E C I hret hthr
  refine a_loc [(0, .ref 200), (1, .int w)] (xsub_cons rfl (xsub_cons rfl (xsub_nil))) ?_
  obtain ⟨hc, hi, hpy, hln, hc6, hi24, hp24, hlm⟩ := id hI
  refine a_aload_n (i := 0) C dX7_noCustomer_0 rfl rfl ?_
  refine a_aload_n (i := 0) C dX7_noCustomer_1 rfl rfl ?_
  refine a_iload_n (i := 1) C dX7_noCustomer_2 rfl rfl ?_
  refine a_callV C dX7_noCustomer_3 cv_X7_isCustomer tb1040 (m_X7_isCustomer hflags hI) rfl rfl xM_0 rfl (Nat.le_of_ble_eq_true rfl) ⟨Nat.le_of_ble_eq_true rfl, Nat.le_of_ble_eq_true rfl⟩ ⟨Nat.le_of_ble_eq_true rfl, Nat.le_of_ble_eq_true rfl⟩ (fun _ h => h.elim) xav_no (fun _ _ h => h.elim) (fun r3 hp3 hq3 => ?_)
  obtain ⟨rfl, rfl⟩ := hq3
  refine a_if_eq (tgt := 13) C dX7_noCustomer_6 (by decide) (fun c6 => ?_) (fun c6 => ?_)
  · refine a_iconst (v := 1) C dX7_noCustomer_13 (by decide) ?_
    refine a_callV C dX7_noCustomer_14 cv_X7_refused tb1032 (m_X7_refused1 hflags (by decide)) rfl rfl xM_0 rfl (Nat.le_of_ble_eq_true rfl) ⟨Nat.le_of_ble_eq_true rfl, Nat.le_of_ble_eq_true rfl⟩ ⟨Nat.le_of_ble_eq_true rfl, Nat.le_of_ble_eq_true rfl⟩ (fun _ h => h.elim) xav_no (fun _ _ h => h.elim) (fun r14 hp14 hq14 => ?_)
    obtain ⟨rfl, rfl⟩ := hq14
    exact a_zret C dX7_noCustomer_17 (by first | rfl | exact bI_nar) (Nat.le_of_ble_eq_true rfl) (Nat.le_of_ble_eq_true rfl) (hret _ _ (by first | (have e := bI_0.mp c6; rw [bI_t e]; exact ⟨rfl, rfl⟩) | (have e := bI_n0.mp c6; rw [bI_f (fun z => z e)]; exact ⟨rfl, rfl⟩)))
  · refine a_iconst (v := 0) C dX7_noCustomer_9 (by decide) ?_
    refine a_goto (tgt := 14) C dX7_noCustomer_10 (by decide) ?_
    refine a_callV C dX7_noCustomer_14 cv_X7_refused tb1032 (m_X7_refused0 hflags) rfl rfl xM_0 rfl (Nat.le_of_ble_eq_true rfl) ⟨Nat.le_of_ble_eq_true rfl, Nat.le_of_ble_eq_true rfl⟩ ⟨Nat.le_of_ble_eq_true rfl, Nat.le_of_ble_eq_true rfl⟩ (fun _ h => h.elim) xav_no (fun _ _ h => h.elim) (fun r14 hp14 hq14 => ?_)
    obtain ⟨rfl, rfl⟩ := hq14
    exact a_zret C dX7_noCustomer_17 (by first | rfl | exact bI_nar) (Nat.le_of_ble_eq_true rfl) (Nat.le_of_ble_eq_true rfl) (hret _ _ (by first | (have e := bI_0.mp c6; rw [bI_t e]; exact ⟨rfl, rfl⟩) | (have e := bI_n0.mp c6; rw [bI_f (fun z => z e)]; exact ⟨rfl, rfl⟩)))
set_option maxRecDepth 100000 in
set_option maxHeartbeats 4000000 in
theorem m_X7_noInvoice {l : Launch} {N0 : Nat} {D : va_G} {dT : Nat → ClassId} (hflags : l.stackTraces = false) {h : xH} {n : Nat → Int32} {f : Nat → Nat → Int32} {g : Nat → Nat → Int64} {nc ni np nl : Nat} (hI : xI n nc ni np nl) {w : Int32}  : xMet l N0 D dT yX7_noInvoice cX7_noInvoice 2 (some FieldType.boolean) 2 0 0 [.ref 200, .int w] (xM h n f g) xNo (fun r h' => r = some (.int (bI (¬ xin w ni))) ∧ h' = xM h (nup n 0 (bI (¬ xin w ni))) f g) xNX := by
  refine xMet_of hflags (by decide +kernel) (fun _ _ h => h) (Nat.le_of_ble_eq_true rfl) ?_
  intro E C I hret hthr
  refine a_loc [(0, .ref 200), (1, .int w)] (xsub_cons rfl (xsub_cons rfl (xsub_nil))) ?_
  obtain ⟨hc, hi, hpy, hln, hc6, hi24, hp24, hlm⟩ := id hI
  refine a_aload_n (i := 0) C dX7_noInvoice_0 rfl rfl ?_
  refine a_aload_n (i := 0) C dX7_noInvoice_1 rfl rfl ?_
  refine a_iload_n (i := 1) C dX7_noInvoice_2 rfl rfl ?_
  refine a_callV C dX7_noInvoice_3 cv_X7_isInvoice tb1141 (m_X7_isInvoice hflags hI) rfl rfl xM_0 rfl (Nat.le_of_ble_eq_true rfl) ⟨Nat.le_of_ble_eq_true rfl, Nat.le_of_ble_eq_true rfl⟩ ⟨Nat.le_of_ble_eq_true rfl, Nat.le_of_ble_eq_true rfl⟩ (fun _ h => h.elim) xav_no (fun _ _ h => h.elim) (fun r3 hp3 hq3 => ?_)
  obtain ⟨rfl, rfl⟩ := hq3
  refine a_if_eq (tgt := 13) C dX7_noInvoice_6 (by decide) (fun c6 => ?_) (fun c6 => ?_)
  · refine a_iconst (v := 1) C dX7_noInvoice_13 (by decide) ?_
    refine a_callV C dX7_noInvoice_14 cv_X7_refused tb1032 (m_X7_refused1 hflags (by decide)) rfl rfl xM_0 rfl (Nat.le_of_ble_eq_true rfl) ⟨Nat.le_of_ble_eq_true rfl, Nat.le_of_ble_eq_true rfl⟩ ⟨Nat.le_of_ble_eq_true rfl, Nat.le_of_ble_eq_true rfl⟩ (fun _ h => h.elim) xav_no (fun _ _ h => h.elim) (fun r14 hp14 hq14 => ?_)
    obtain ⟨rfl, rfl⟩ := hq14
    exact a_zret C dX7_noInvoice_17 (by first | rfl | exact bI_nar) (Nat.le_of_ble_eq_true rfl) (Nat.le_of_ble_eq_true rfl) (hret _ _ (by first | (have e := bI_0.mp c6; rw [bI_t e]; exact ⟨rfl, rfl⟩) | (have e := bI_n0.mp c6; rw [bI_f (fun z => z e)]; exact ⟨rfl, rfl⟩)))
  · refine a_iconst (v := 0) C dX7_noInvoice_9 (by decide) ?_
    refine a_goto (tgt := 14) C dX7_noInvoice_10 (by decide) ?_
    refine a_callV C dX7_noInvoice_14 cv_X7_refused tb1032 (m_X7_refused0 hflags) rfl rfl xM_0 rfl (Nat.le_of_ble_eq_true rfl) ⟨Nat.le_of_ble_eq_true rfl, Nat.le_of_ble_eq_true rfl⟩ ⟨Nat.le_of_ble_eq_true rfl, Nat.le_of_ble_eq_true rfl⟩ (fun _ h => h.elim) xav_no (fun _ _ h => h.elim) (fun r14 hp14 hq14 => ?_)
    obtain ⟨rfl, rfl⟩ := hq14
    exact a_zret C dX7_noInvoice_17 (by first | rfl | exact bI_nar) (Nat.le_of_ble_eq_true rfl) (Nat.le_of_ble_eq_true rfl) (hret _ _ (by first | (have e := bI_0.mp c6; rw [bI_t e]; exact ⟨rfl, rfl⟩) | (have e := bI_n0.mp c6; rw [bI_f (fun z => z e)]; exact ⟨rfl, rfl⟩)))
set_option maxRecDepth 100000 in
set_option maxHeartbeats 4000000 in
theorem m_X7_clear {l : Launch} {N0 : Nat} {D : va_G} {dT : Nat → ClassId} (hflags : l.stackTraces = false) {h : xH} {n : Nat → Int32} {f : Nat → Nat → Int32} {g : Nat → Nat → Int64} {i : Nat} (hi : i < 24)  : xMet l N0 D dT yX7_clear cX7_clear 2 (some FieldType.int) 0 0 0 [.ref 200, .int (nI i)] (xM h n f g) xNo (fun r h' => r = some (.int (f 13 i - f 14 i)) ∧ h' = xM h n f g) xNX := by
  refine xMet_of hflags (by decide +kernel) (fun _ _ h => h) (Nat.le_of_ble_eq_true rfl) ?_
  intro E C I hret hthr
  refine a_loc [(0, .ref 200), (1, .int (nI i))] (xsub_cons rfl (xsub_cons rfl (xsub_nil))) ?_
  refine a_aload_n (i := 0) C dX7_clear_0 rfl rfl ?_
  refine a_get C dX7_clear_1 fl_X7_31 xM_0 rfl ?_
  refine a_iload_n (i := 1) C dX7_clear_4 rfl rfl ?_
  refine a_ialdI C dX7_clear_5 xM_13 ⟨by omega, by omega⟩ ?_
  refine a_aload_n (i := 0) C dX7_clear_6 rfl rfl ?_
  refine a_get C dX7_clear_7 fl_X7_34 xM_0 rfl ?_
  refine a_iload_n (i := 1) C dX7_clear_10 rfl rfl ?_
  refine a_ialdI C dX7_clear_11 xM_14 ⟨by omega, by omega⟩ ?_
  refine a_isub C dX7_clear_12 ?_
  exact a_iret C dX7_clear_13 (Nat.le_of_ble_eq_true rfl) (Nat.le_of_ble_eq_true rfl) (hret _ _ ⟨rfl, rfl⟩)
set_option maxRecDepth 100000 in
set_option maxHeartbeats 4000000 in
theorem m_X7_length {l : Launch} {N0 : Nat} {D : va_G} {dT : Nat → ClassId} (hflags : l.stackTraces = false) {hp : xH} {m y : Int32}  : xMet l N0 D dT yX7_length cX7_length 2 (some FieldType.int) 0 0 0 [.int m, .int y] (hp) xNo (fun r h => r = some (.int (if m = 2 then (if y = 2004 then 29 else 28) else if m = 4 ∨ m = 6 ∨ m = 9 ∨ m = 11 then 30 else 31)) ∧ h = hp) xNX := by
  refine xMet_of hflags (by decide +kernel) (fun _ _ h => h) (Nat.le_of_ble_eq_true rfl) ?_
  intro E C I hret hthr
  refine a_loc [(0, .int m), (1, .int y)] (xsub_cons rfl (xsub_cons rfl (xsub_nil))) ?_
  refine a_iload_n (i := 0) C dX7_length_0 rfl rfl ?_
  refine a_iconst (v := 2) C dX7_length_1 (by decide) ?_
  refine a_icmp_ne (tgt := 20) C dX7_length_2 (by decide) (fun c2 => ?_) (fun c2 => ?_)
  · refine a_iload_n (i := 0) C dX7_length_20 rfl rfl ?_
    refine a_iconst (v := 4) C dX7_length_21 (by decide) ?_
    refine a_icmp_eq (tgt := 43) C dX7_length_22 (by decide) (fun c22 => ?_) (fun c22 => ?_)
    · refine a_bipush (v := 30) C dX7_length_43 (by decide) ?_
      refine a_goto (tgt := 50) C dX7_length_45 (by decide) ?_
      exact a_iret C dX7_length_50 (Nat.le_of_ble_eq_true rfl) (Nat.le_of_ble_eq_true rfl) (hret _ _ (by constructor <;> simp_all))
    · refine a_iload_n (i := 0) C dX7_length_25 rfl rfl ?_
      refine a_bipush (v := 6) C dX7_length_26 (by decide) ?_
      refine a_icmp_eq (tgt := 43) C dX7_length_28 (by decide) (fun c28 => ?_) (fun c28 => ?_)
      · refine a_bipush (v := 30) C dX7_length_43 (by decide) ?_
        refine a_goto (tgt := 50) C dX7_length_45 (by decide) ?_
        exact a_iret C dX7_length_50 (Nat.le_of_ble_eq_true rfl) (Nat.le_of_ble_eq_true rfl) (hret _ _ (by constructor <;> simp_all))
      · refine a_iload_n (i := 0) C dX7_length_31 rfl rfl ?_
        refine a_bipush (v := 9) C dX7_length_32 (by decide) ?_
        refine a_icmp_eq (tgt := 43) C dX7_length_34 (by decide) (fun c34 => ?_) (fun c34 => ?_)
        · refine a_bipush (v := 30) C dX7_length_43 (by decide) ?_
          refine a_goto (tgt := 50) C dX7_length_45 (by decide) ?_
          exact a_iret C dX7_length_50 (Nat.le_of_ble_eq_true rfl) (Nat.le_of_ble_eq_true rfl) (hret _ _ (by constructor <;> simp_all))
        · refine a_iload_n (i := 0) C dX7_length_37 rfl rfl ?_
          refine a_bipush (v := 11) C dX7_length_38 (by decide) ?_
          refine a_icmp_ne (tgt := 48) C dX7_length_40 (by decide) (fun c40 => ?_) (fun c40 => ?_)
          · refine a_bipush (v := 31) C dX7_length_48 (by decide) ?_
            exact a_iret C dX7_length_50 (Nat.le_of_ble_eq_true rfl) (Nat.le_of_ble_eq_true rfl) (hret _ _ (by constructor <;> simp_all))
          · refine a_bipush (v := 30) C dX7_length_43 (by decide) ?_
            refine a_goto (tgt := 50) C dX7_length_45 (by decide) ?_
            exact a_iret C dX7_length_50 (Nat.le_of_ble_eq_true rfl) (Nat.le_of_ble_eq_true rfl) (hret _ _ (by constructor <;> simp_all))
  · refine a_iload_n (i := 1) C dX7_length_5 rfl rfl ?_
    refine a_sipush (v := 2004) C dX7_length_6 (by decide) ?_
    refine a_icmp_ne (tgt := 17) C dX7_length_9 (by decide) (fun c9 => ?_) (fun c9 => ?_)
    · refine a_bipush (v := 28) C dX7_length_17 (by decide) ?_
      exact a_iret C dX7_length_19 (Nat.le_of_ble_eq_true rfl) (Nat.le_of_ble_eq_true rfl) (hret _ _ (by constructor <;> simp_all))
    · refine a_bipush (v := 29) C dX7_length_12 (by decide) ?_
      refine a_goto (tgt := 19) C dX7_length_14 (by decide) ?_
      exact a_iret C dX7_length_19 (Nat.le_of_ble_eq_true rfl) (Nat.le_of_ble_eq_true rfl) (hret _ _ (by constructor <;> simp_all))
set_option maxRecDepth 100000 in
set_option maxHeartbeats 4000000 in
theorem m_X7_unit {l : Launch} {N0 : Nat} {D : va_G} {dT : Nat → ClassId} (hflags : l.stackTraces = false) {hp : xH} {m : Int32}  : xMet l N0 D dT yX7_unit cX7_unit 1 (some FieldType.long) 0 0 0 [.int m] (hp) xNo (fun r h => r = some (.long (10000 * (if m = 0 then (365 : Int32) else 360).toInt64)) ∧ h = hp) xNX := by
  refine xMet_of hflags (by decide +kernel) (fun _ _ h => h) (Nat.le_of_ble_eq_true rfl) ?_
  intro E C I hret hthr
  refine a_loc [(0, .int m)] (xsub_cons rfl (xsub_nil)) ?_
  refine a_ldc2 C dX7_unit_0 tb1188 ?_
  refine a_iload_n (i := 0) C dX7_unit_3 rfl rfl ?_
  refine a_if_ne (tgt := 13) C dX7_unit_4 (by decide) (fun c4 => ?_) (fun c4 => ?_)
  · refine a_sipush (v := 360) C dX7_unit_13 (by decide) ?_
    refine a_i2l C dX7_unit_16 ?_
    refine a_lmul C dX7_unit_17 ?_
    exact a_lret C dX7_unit_18 (Nat.le_of_ble_eq_true rfl) (Nat.le_of_ble_eq_true rfl) (hret _ _ (by constructor <;> simp_all))
  · refine a_sipush (v := 365) C dX7_unit_7 (by decide) ?_
    refine a_goto (tgt := 16) C dX7_unit_10 (by decide) ?_
    refine a_i2l C dX7_unit_16 ?_
    refine a_lmul C dX7_unit_17 ?_
    exact a_lret C dX7_unit_18 (Nat.le_of_ble_eq_true rfl) (Nat.le_of_ble_eq_true rfl) (hret _ _ (by constructor <;> simp_all))
set_option maxRecDepth 100000 in
set_option maxHeartbeats 4000000 in
theorem m_X7_patience {l : Launch} {N0 : Nat} {D : va_G} {dT : Nat → ClassId} (hflags : l.stackTraces = false) {hp : xH} {m : Int32}  : xMet l N0 D dT yX7_patience cX7_patience 1 (some FieldType.int) 0 0 0 [.int m] (hp) xNo (fun r h => r = some (.int (if m = 0 then 7 else if m = 3 then 21 else 14)) ∧ h = hp) xNX := by
  refine xMet_of hflags (by decide +kernel) (fun _ _ h => h) (Nat.le_of_ble_eq_true rfl) ?_
  intro E C I hret hthr
  refine a_loc [(0, .int m)] (xsub_cons rfl (xsub_nil)) ?_
  refine a_iload_n (i := 0) C dX7_patience_0 rfl rfl ?_
  refine a_if_ne (tgt := 9) C dX7_patience_1 (by decide) (fun c1 => ?_) (fun c1 => ?_)
  · refine a_iload_n (i := 0) C dX7_patience_9 rfl rfl ?_
    refine a_iconst (v := 3) C dX7_patience_10 (by decide) ?_
    refine a_icmp_ne (tgt := 19) C dX7_patience_11 (by decide) (fun c11 => ?_) (fun c11 => ?_)
    · refine a_bipush (v := 14) C dX7_patience_19 (by decide) ?_
      exact a_iret C dX7_patience_21 (Nat.le_of_ble_eq_true rfl) (Nat.le_of_ble_eq_true rfl) (hret _ _ (by constructor <;> simp_all))
    · refine a_bipush (v := 21) C dX7_patience_14 (by decide) ?_
      refine a_goto (tgt := 21) C dX7_patience_16 (by decide) ?_
      exact a_iret C dX7_patience_21 (Nat.le_of_ble_eq_true rfl) (Nat.le_of_ble_eq_true rfl) (hret _ _ (by constructor <;> simp_all))
  · refine a_bipush (v := 7) C dX7_patience_4 (by decide) ?_
    refine a_goto (tgt := 21) C dX7_patience_6 (by decide) ?_
    exact a_iret C dX7_patience_21 (Nat.le_of_ble_eq_true rfl) (Nat.le_of_ble_eq_true rfl) (hret _ _ (by constructor <;> simp_all))
set_option maxRecDepth 100000 in
set_option maxHeartbeats 4000000 in
theorem m_X7_isReminded {l : Launch} {N0 : Nat} {D : va_G} {dT : Nat → ClassId} (hflags : l.stackTraces = false) {h : xH} {n : Nat → Int32} {f : Nat → Nat → Int32} {g : Nat → Nat → Int64} {i : Nat} (hi : i < 24)  : xMet l N0 D dT yX7_isReminded cX7_isReminded 2 (some FieldType.boolean) 0 0 0 [.ref 200, .int (nI i)] (xM h n f g) xNo (fun r h' => r = some (.int (bI (f 17 i < 4 ∧ 0 < f 13 i ∧ f 14 i = 0))) ∧ h' = xM h n f g) xNX := by
  refine xMet_of hflags (by decide +kernel) (fun _ _ h => h) (Nat.le_of_ble_eq_true rfl) ?_
  intro E C I hret hthr
  refine a_loc [(0, .ref 200), (1, .int (nI i))] (xsub_cons rfl (xsub_cons rfl (xsub_nil))) ?_
  refine a_aload_n (i := 0) C dX7_isReminded_0 rfl rfl ?_
  refine a_get C dX7_isReminded_1 fl_X7_45 xM_0 rfl ?_
  refine a_iload_n (i := 1) C dX7_isReminded_4 rfl rfl ?_
  refine a_ialdI C dX7_isReminded_5 xM_17 ⟨by omega, by omega⟩ ?_
  refine a_iconst (v := 4) C dX7_isReminded_6 (by decide) ?_
  refine a_icmp_ge (tgt := 32) C dX7_isReminded_7 (by decide) (fun c7 => ?_) (fun c7 => ?_)
  · refine a_iconst (v := 0) C dX7_isReminded_32 (by decide) ?_
    exact a_zret C dX7_isReminded_33 (by first | rfl | exact bI_nar) (Nat.le_of_ble_eq_true rfl) (Nat.le_of_ble_eq_true rfl) (hret _ _ ⟨congrArg (fun z => some (Value.int z)) (by clear hret hthr I C; first | exact (bI_t (by grind)).symm | exact (bI_f (by grind)).symm), rfl⟩)
  · refine a_aload_n (i := 0) C dX7_isReminded_10 rfl rfl ?_
    refine a_get C dX7_isReminded_11 fl_X7_31 xM_0 rfl ?_
    refine a_iload_n (i := 1) C dX7_isReminded_14 rfl rfl ?_
    refine a_ialdI C dX7_isReminded_15 xM_13 ⟨by omega, by omega⟩ ?_
    refine a_if_le (tgt := 32) C dX7_isReminded_16 (by decide) (fun c16 => ?_) (fun c16 => ?_)
    · refine a_iconst (v := 0) C dX7_isReminded_32 (by decide) ?_
      exact a_zret C dX7_isReminded_33 (by first | rfl | exact bI_nar) (Nat.le_of_ble_eq_true rfl) (Nat.le_of_ble_eq_true rfl) (hret _ _ ⟨congrArg (fun z => some (Value.int z)) (by clear hret hthr I C; first | exact (bI_t (by grind)).symm | exact (bI_f (by grind)).symm), rfl⟩)
    · refine a_aload_n (i := 0) C dX7_isReminded_19 rfl rfl ?_
      refine a_get C dX7_isReminded_20 fl_X7_34 xM_0 rfl ?_
      refine a_iload_n (i := 1) C dX7_isReminded_23 rfl rfl ?_
      refine a_ialdI C dX7_isReminded_24 xM_14 ⟨by omega, by omega⟩ ?_
      refine a_if_ne (tgt := 32) C dX7_isReminded_25 (by decide) (fun c25 => ?_) (fun c25 => ?_)
      · refine a_iconst (v := 0) C dX7_isReminded_32 (by decide) ?_
        exact a_zret C dX7_isReminded_33 (by first | rfl | exact bI_nar) (Nat.le_of_ble_eq_true rfl) (Nat.le_of_ble_eq_true rfl) (hret _ _ ⟨congrArg (fun z => some (Value.int z)) (by clear hret hthr I C; first | exact (bI_t (by grind)).symm | exact (bI_f (by grind)).symm), rfl⟩)
      · refine a_iconst (v := 1) C dX7_isReminded_28 (by decide) ?_
        refine a_goto (tgt := 33) C dX7_isReminded_29 (by decide) ?_
        exact a_zret C dX7_isReminded_33 (by first | rfl | exact bI_nar) (Nat.le_of_ble_eq_true rfl) (Nat.le_of_ble_eq_true rfl) (hret _ _ ⟨congrArg (fun z => some (Value.int z)) (by clear hret hthr I C; first | exact (bI_t (by grind)).symm | exact (bI_f (by grind)).symm), rfl⟩)
set_option maxRecDepth 100000 in
set_option maxHeartbeats 4000000 in
theorem m_X7_bucket {l : Launch} {N0 : Nat} {D : va_G} {dT : Nat → ClassId} (hflags : l.stackTraces = false) {h : xH} {n : Nat → Int32} {f : Nat → Nat → Int32} {g : Nat → Nat → Int64} {i : Nat} (hi : i < 24)  : xMet l N0 D dT yX7_bucket cX7_bucket 3 (some FieldType.int) 0 0 0 [.ref 200, .int (nI i)] (xM h n f g) xNo (fun r h' => r = some (.int (xbk (n 1 - f 12 i))) ∧ h' = xM h n f g) xNX := by
  refine xMet_of hflags (by decide +kernel) (fun _ _ h => h) (Nat.le_of_ble_eq_true rfl) ?_
  intro E C I hret hthr
  refine a_loc [(0, .ref 200), (1, .int (nI i))] (xsub_cons rfl (xsub_cons rfl (xsub_nil))) ?_
  refine a_aload_n (i := 0) C dX7_bucket_0 rfl rfl ?_
  refine a_get C dX7_bucket_1 fl_X7_112 xM_0 rfl ?_
  refine a_aload_n (i := 0) C dX7_bucket_4 rfl rfl ?_
  refine a_get C dX7_bucket_5 fl_X7_28 xM_0 rfl ?_
  refine a_iload_n (i := 1) C dX7_bucket_8 rfl rfl ?_
  refine a_ialdI C dX7_bucket_9 xM_12 ⟨by omega, by omega⟩ ?_
  refine a_isub C dX7_bucket_10 ?_
  refine a_istore_n (i := 2) C dX7_bucket_11 rfl (by decide) ?_
  refine a_iload_n (i := 2) C dX7_bucket_12 rfl rfl ?_
  refine a_if_gt (tgt := 20) C dX7_bucket_13 (by decide) (fun c13 => ?_) (fun c13 => ?_)
  · refine a_iload_n (i := 2) C dX7_bucket_20 rfl rfl ?_
    refine a_bipush (v := 30) C dX7_bucket_21 (by decide) ?_
    refine a_icmp_gt (tgt := 30) C dX7_bucket_23 (by decide) (fun c23 => ?_) (fun c23 => ?_)
    · refine a_iload_n (i := 2) C dX7_bucket_30 rfl rfl ?_
      refine a_bipush (v := 60) C dX7_bucket_31 (by decide) ?_
      refine a_icmp_gt (tgt := 40) C dX7_bucket_33 (by decide) (fun c33 => ?_) (fun c33 => ?_)
      · refine a_iload_n (i := 2) C dX7_bucket_40 rfl rfl ?_
        refine a_bipush (v := 90) C dX7_bucket_41 (by decide) ?_
        refine a_icmp_gt (tgt := 50) C dX7_bucket_43 (by decide) (fun c43 => ?_) (fun c43 => ?_)
        · refine a_iconst (v := 4) C dX7_bucket_50 (by decide) ?_
          exact a_iret C dX7_bucket_51 (Nat.le_of_ble_eq_true rfl) (Nat.le_of_ble_eq_true rfl) (hret _ _ (by refine ⟨?_, rfl⟩; clear hret hthr I C; unfold xbk; grind))
        · refine a_iconst (v := 3) C dX7_bucket_46 (by decide) ?_
          refine a_goto (tgt := 51) C dX7_bucket_47 (by decide) ?_
          exact a_iret C dX7_bucket_51 (Nat.le_of_ble_eq_true rfl) (Nat.le_of_ble_eq_true rfl) (hret _ _ (by refine ⟨?_, rfl⟩; clear hret hthr I C; unfold xbk; grind))
      · refine a_iconst (v := 2) C dX7_bucket_36 (by decide) ?_
        refine a_goto (tgt := 51) C dX7_bucket_37 (by decide) ?_
        exact a_iret C dX7_bucket_51 (Nat.le_of_ble_eq_true rfl) (Nat.le_of_ble_eq_true rfl) (hret _ _ (by refine ⟨?_, rfl⟩; clear hret hthr I C; unfold xbk; grind))
    · refine a_iconst (v := 1) C dX7_bucket_26 (by decide) ?_
      refine a_goto (tgt := 51) C dX7_bucket_27 (by decide) ?_
      exact a_iret C dX7_bucket_51 (Nat.le_of_ble_eq_true rfl) (Nat.le_of_ble_eq_true rfl) (hret _ _ (by refine ⟨?_, rfl⟩; clear hret hthr I C; unfold xbk; grind))
  · refine a_iconst (v := 0) C dX7_bucket_16 (by decide) ?_
    refine a_goto (tgt := 51) C dX7_bucket_17 (by decide) ?_
    exact a_iret C dX7_bucket_51 (Nat.le_of_ble_eq_true rfl) (Nat.le_of_ble_eq_true rfl) (hret _ _ (by refine ⟨?_, rfl⟩; clear hret hthr I C; unfold xbk; grind))
