theorem xow_lt {nc ni : Nat} {f : Nat → Nat → Int32} (hO : ∀ i, i < ni → ∃ k, k < nc ∧ f 10 i = nI k) (hc : nc ≤ 6) : ∀ i, i < ni → xow f i < nc := fun i hi => by
  obtain ⟨k, h1, h2⟩ := hO i hi
  rw [xow_eq h2 (by omega)]
  exact h1
theorem own_iff {nc ni i j : Nat} {f : Nat → Nat → Int32} (hO : ∀ i, i < ni → ∃ k, k < nc ∧ f 10 i = nI k) (hc : nc ≤ 6) (hi : i < ni) (hj : j < nc) : 16 + xow f i = 16 + j ↔ f 10 i = nI j := by
  obtain ⟨k, h1, h2⟩ := hO i hi
  rw [xow_eq h2 (by omega), h2, nI_eq (by omega) (by omega)]
  omega
theorem pow_lt {nc np : Nat} {f : Nat → Nat → Int32} (hO : ∀ i, i < np → ∃ k, k < nc ∧ f 19 i = nI k) (hc : nc ≤ 6) : ∀ i, i < np → xpow f i < nc := fun i hi => by
  obtain ⟨k, h1, h2⟩ := hO i hi
  unfold xpow
  rw [h2, nI_clamp (by omega)]
  exact h1
theorem pow_iff {nc np i j : Nat} {f : Nat → Nat → Int32} (hO : ∀ i, i < np → ∃ k, k < nc ∧ f 19 i = nI k) (hc : nc ≤ 6) (hi : i < np) (hj : j < nc) : 16 + xpow f i = 16 + j ↔ f 19 i = nI j := by
  obtain ⟨k, h1, h2⟩ := hO i hi
  unfold xpow
  rw [h2, nI_clamp (by omega), nI_eq (by omega) (by omega)]
  omega
theorem xsum_t {t : Nat → Int32} {k : Nat} {v : Int32} (h : t k = v) : xsum t (k + 1) = xsum t k + v := congrArg (fun z => xsum t k + z) h
theorem xsum_0 {t : Nat → Int32} {k : Nat} (h : t k = 0) : xsum t (k + 1) = xsum t k := (xsum_t h).trans (Int32.add_zero _)
theorem xsubt_t {t : Nat → Int32} {k : Nat} {s v : Int32} (h : t k = v) : xsubt s t (k + 1) = xsubt s t k - v := congrArg (fun z => xsubt s t k - z) h
theorem xsubt_0 {t : Nat → Int32} {k : Nat} {s : Int32} (h : t k = 0) : xsubt s t (k + 1) = xsubt s t k := (xsubt_t h).trans (Int32.sub_zero _)
set_option maxRecDepth 100000 in
set_option maxHeartbeats 4000000 in
theorem m_X6_setRule {l : Launch} {N0 : Nat} {D : va_G} {dT : Nat → ClassId} (hflags : l.stackTraces = false) {h : xH} {nc ni np nl : Nat} {n : Nat → Int32} {f : Nat → Nat → Int32} {g : Nat → Nat → Int64} {jc : Nat → Nat → Int32} {jr : Nat → Int64} (hB : nc ≤ 6 ∧ ni ≤ 24 ∧ np ≤ 24 ∧ nl ≤ 16000) {w v : Int32}  : xMet l N0 D dT yX6_setRule cX6_setRule 5 (some FieldType.int) 9 2 12 [.ref 0, .int w, .int v] (xC h nc ni np nl (n 1) f g jc jr) xNo (cP h nc ni np nl (o_setRule nc w v n f g)) (cX (xC h nc ni np nl (n 1) f g jc jr) [("java/lang/IndexOutOfBoundsException", (1 : Int32)), ("java/lang/IllegalArgumentException", (2 : Int32))] (o_setRule nc w v n f g)) := by
  refine xMet_of hflags (by decide +kernel) (fun _ _ h => h) (Nat.le_of_ble_eq_true rfl) ?_
  intro E C I hret hthr
  refine a_loc [(0, .ref 0), (1, .int w), (2, .int v)] (xsub_cons rfl (xsub_cons rfl (xsub_cons rfl (xsub_nil)))) ?_
  obtain ⟨hc6, hi24, hp24, hl16⟩ := id hB
  refine a_aload_n (i := 0) C dX6_setRule_0 rfl rfl ?_
  refine a_iload_n (i := 1) C dX6_setRule_1 rfl rfl ?_
  refine a_callV C dX6_setRule_2 cv_X6_customerAt tb349 (m_X6_customerAt hflags hB) rfl rfl xC_0 rfl (Nat.le_of_ble_eq_true rfl) ⟨Nat.le_of_ble_eq_true rfl, Nat.le_of_ble_eq_true rfl⟩ ⟨Nat.le_of_ble_eq_true rfl, Nat.le_of_ble_eq_true rfl⟩ (fun _ h => h.elim) xav_no (fun _ _ ⟨e1, e2, e3⟩ => by subst e1; subst e2; exact a_out C (fun _ h => nomatch h) (hthr _ _ ⟨rfl, by unfold o_setRule; rw [if_pos e3]; exact (List.Mem.head _)⟩) (Nat.le_of_ble_eq_true rfl) (Nat.le_of_ble_eq_true rfl)) (fun r2 hp2 hq2 => ?_)
  obtain ⟨j, hj, rfl, rfl, rfl⟩ := hq2
  refine a_astore_n (i := 3) C dX6_setRule_5 rfl (by decide) ?_
  refine a_iload_n (i := 2) C dX6_setRule_6 rfl rfl ?_
  refine a_iconst (v := 0) C dX6_setRule_7 (by decide) ?_
  refine a_iconst (v := 2) C dX6_setRule_8 (by decide) ?_
  refine a_callS C dX6_setRule_9 cs_X6_requireRange tb168 (m_X6_requireRange hflags) rfl rfl (Nat.le_of_ble_eq_true rfl) ⟨Nat.le_of_ble_eq_true rfl, Nat.le_of_ble_eq_true rfl⟩ ⟨Nat.le_of_ble_eq_true rfl, Nat.le_of_ble_eq_true rfl⟩ (fun _ h => h.elim) xav_no (fun _ _ ⟨e1, e2, e3⟩ => by subst e1; subst e2; exact a_out C (fun _ h => nomatch h) (hthr _ _ ⟨rfl, by unfold o_setRule; rw [if_neg (fun z => z (xin_of hj (by omega))), if_pos e3]; exact (List.Mem.tail _ (List.Mem.head _))⟩) (Nat.le_of_ble_eq_true rfl) (Nat.le_of_ble_eq_true rfl)) (fun r9 hp9 hq9 => ?_)
  obtain ⟨rfl, rfl, hx⟩ := hq9
  refine a_aload_n (i := 3) C dX6_setRule_12 rfl rfl ?_
  refine a_get C dX6_setRule_13 fl_X6_64 (xC_cu (by omega) (by omega)) rfl ?_
  refine a_istore (i := 4) C dX6_setRule_16 (by decide) ?_
  refine a_aload_n (i := 3) C dX6_setRule_18 rfl rfl ?_
  refine a_iload_n (i := 2) C dX6_setRule_19 rfl rfl ?_
  refine a_put C dX6_setRule_20 fl_X6_64 (xC_cu (by omega) (by omega)) (Nat.le_of_ble_eq_true rfl) rfl rfl ?_
  refine a_hp (xCc_6 (by omega) (by omega)) ?_
  refine a_iload (i := 4) C dX6_setRule_23 rfl ?_
  exact a_iret C dX6_setRule_25 (Nat.le_of_ble_eq_true rfl) (Nat.le_of_ble_eq_true rfl) (hret _ _ (by unfold cP o_setRule; rw [if_neg (fun z => z (xin_of hj (by omega))), if_neg (fun z => z hx), nI_clamp (by omega)]; exact ⟨rfl, rfl, jc, jr, rfl⟩))
set_option maxRecDepth 100000 in
set_option maxHeartbeats 4000000 in
theorem m_X6_setRate {l : Launch} {N0 : Nat} {D : va_G} {dT : Nat → ClassId} (hflags : l.stackTraces = false) {h : xH} {nc ni np nl : Nat} {n : Nat → Int32} {f : Nat → Nat → Int32} {g : Nat → Nat → Int64} {jc : Nat → Nat → Int32} {jr : Nat → Int64} (hB : nc ≤ 6 ∧ ni ≤ 24 ∧ np ≤ 24 ∧ nl ≤ 16000) {w v : Int32}  : xMet l N0 D dT yX6_setRate cX6_setRate 5 (some FieldType.int) 9 2 12 [.ref 0, .int w, .int v] (xC h nc ni np nl (n 1) f g jc jr) xNo (cP h nc ni np nl (o_setRate nc w v n f g)) (cX (xC h nc ni np nl (n 1) f g jc jr) [("java/lang/IndexOutOfBoundsException", (1 : Int32)), ("java/lang/IllegalArgumentException", (2 : Int32))] (o_setRate nc w v n f g)) := by
  refine xMet_of hflags (by decide +kernel) (fun _ _ h => h) (Nat.le_of_ble_eq_true rfl) ?_
  intro E C I hret hthr
  refine a_loc [(0, .ref 0), (1, .int w), (2, .int v)] (xsub_cons rfl (xsub_cons rfl (xsub_cons rfl (xsub_nil)))) ?_
  obtain ⟨hc6, hi24, hp24, hl16⟩ := id hB
  refine a_aload_n (i := 0) C dX6_setRate_0 rfl rfl ?_
  refine a_iload_n (i := 1) C dX6_setRate_1 rfl rfl ?_
  refine a_callV C dX6_setRate_2 cv_X6_customerAt tb349 (m_X6_customerAt hflags hB) rfl rfl xC_0 rfl (Nat.le_of_ble_eq_true rfl) ⟨Nat.le_of_ble_eq_true rfl, Nat.le_of_ble_eq_true rfl⟩ ⟨Nat.le_of_ble_eq_true rfl, Nat.le_of_ble_eq_true rfl⟩ (fun _ h => h.elim) xav_no (fun _ _ ⟨e1, e2, e3⟩ => by subst e1; subst e2; exact a_out C (fun _ h => nomatch h) (hthr _ _ ⟨rfl, by unfold o_setRate; rw [if_pos e3]; exact (List.Mem.head _)⟩) (Nat.le_of_ble_eq_true rfl) (Nat.le_of_ble_eq_true rfl)) (fun r2 hp2 hq2 => ?_)
  obtain ⟨j, hj, rfl, rfl, rfl⟩ := hq2
  refine a_astore_n (i := 3) C dX6_setRate_5 rfl (by decide) ?_
  refine a_iload_n (i := 2) C dX6_setRate_6 rfl rfl ?_
  refine a_iconst (v := 0) C dX6_setRate_7 (by decide) ?_
  refine a_sipush (v := 3000) C dX6_setRate_8 (by decide) ?_
  refine a_callS C dX6_setRate_11 cs_X6_requireRange tb168 (m_X6_requireRange hflags) rfl rfl (Nat.le_of_ble_eq_true rfl) ⟨Nat.le_of_ble_eq_true rfl, Nat.le_of_ble_eq_true rfl⟩ ⟨Nat.le_of_ble_eq_true rfl, Nat.le_of_ble_eq_true rfl⟩ (fun _ h => h.elim) xav_no (fun _ _ ⟨e1, e2, e3⟩ => by subst e1; subst e2; exact a_out C (fun _ h => nomatch h) (hthr _ _ ⟨rfl, by unfold o_setRate; rw [if_neg (fun z => z (xin_of hj (by omega))), if_pos e3]; exact (List.Mem.tail _ (List.Mem.head _))⟩) (Nat.le_of_ble_eq_true rfl) (Nat.le_of_ble_eq_true rfl)) (fun r11 hp11 hq11 => ?_)
  obtain ⟨rfl, rfl, hx⟩ := hq11
  refine a_aload_n (i := 3) C dX6_setRate_14 rfl rfl ?_
  refine a_get C dX6_setRate_15 fl_X6_67 (xC_cu (by omega) (by omega)) rfl ?_
  refine a_istore (i := 4) C dX6_setRate_18 (by decide) ?_
  refine a_aload_n (i := 3) C dX6_setRate_20 rfl rfl ?_
  refine a_iload_n (i := 2) C dX6_setRate_21 rfl rfl ?_
  refine a_put C dX6_setRate_22 fl_X6_67 (xC_cu (by omega) (by omega)) (Nat.le_of_ble_eq_true rfl) rfl rfl ?_
  refine a_hp (xCc_8 (by omega) (by omega)) ?_
  refine a_iload (i := 4) C dX6_setRate_25 rfl ?_
  exact a_iret C dX6_setRate_27 (Nat.le_of_ble_eq_true rfl) (Nat.le_of_ble_eq_true rfl) (hret _ _ (by unfold cP o_setRate; rw [if_neg (fun z => z (xin_of hj (by omega))), if_neg (fun z => z hx), nI_clamp (by omega)]; exact ⟨rfl, rfl, jc, jr, rfl⟩))
set_option maxRecDepth 100000 in
set_option maxHeartbeats 4000000 in
theorem m_X6_pauseReminders {l : Launch} {N0 : Nat} {D : va_G} {dT : Nat → ClassId} (hflags : l.stackTraces = false) {h : xH} {nc ni np nl : Nat} {n : Nat → Int32} {f : Nat → Nat → Int32} {g : Nat → Nat → Int64} {jc : Nat → Nat → Int32} {jr : Nat → Int64} (hB : nc ≤ 6 ∧ ni ≤ 24 ∧ np ≤ 24 ∧ nl ≤ 16000) {w v : Int32}  : xMet l N0 D dT yX6_pauseReminders cX6_pauseReminders 4 (some FieldType.int) 9 2 12 [.ref 0, .int w, .int v] (xC h nc ni np nl (n 1) f g jc jr) xNo (cP h nc ni np nl (o_pause nc w v n f g)) (cX (xC h nc ni np nl (n 1) f g jc jr) [("java/lang/IndexOutOfBoundsException", (1 : Int32)), ("java/lang/IllegalArgumentException", (2 : Int32))] (o_pause nc w v n f g)) := by
  refine xMet_of hflags (by decide +kernel) (fun _ _ h => h) (Nat.le_of_ble_eq_true rfl) ?_
  intro E C I hret hthr
  refine a_loc [(0, .ref 0), (1, .int w), (2, .int v)] (xsub_cons rfl (xsub_cons rfl (xsub_cons rfl (xsub_nil)))) ?_
  obtain ⟨hc6, hi24, hp24, hl16⟩ := id hB
  refine a_aload_n (i := 0) C dX6_pauseReminders_0 rfl rfl ?_
  refine a_iload_n (i := 1) C dX6_pauseReminders_1 rfl rfl ?_
  refine a_callV C dX6_pauseReminders_2 cv_X6_customerAt tb349 (m_X6_customerAt hflags hB) rfl rfl xC_0 rfl (Nat.le_of_ble_eq_true rfl) ⟨Nat.le_of_ble_eq_true rfl, Nat.le_of_ble_eq_true rfl⟩ ⟨Nat.le_of_ble_eq_true rfl, Nat.le_of_ble_eq_true rfl⟩ (fun _ h => h.elim) xav_no (fun _ _ ⟨e1, e2, e3⟩ => by subst e1; subst e2; exact a_out C (fun _ h => nomatch h) (hthr _ _ ⟨rfl, by unfold o_pause; rw [if_pos e3]; exact (List.Mem.head _)⟩) (Nat.le_of_ble_eq_true rfl) (Nat.le_of_ble_eq_true rfl)) (fun r2 hp2 hq2 => ?_)
  obtain ⟨j, hj, rfl, rfl, rfl⟩ := hq2
  refine a_astore_n (i := 3) C dX6_pauseReminders_5 rfl (by decide) ?_
  refine a_iload_n (i := 2) C dX6_pauseReminders_6 rfl rfl ?_
  refine a_iconst (v := 0) C dX6_pauseReminders_7 (by decide) ?_
  refine a_sipush (v := 200) C dX6_pauseReminders_8 (by decide) ?_
  refine a_callS C dX6_pauseReminders_11 cs_X6_requireRange tb168 (m_X6_requireRange hflags) rfl rfl (Nat.le_of_ble_eq_true rfl) ⟨Nat.le_of_ble_eq_true rfl, Nat.le_of_ble_eq_true rfl⟩ ⟨Nat.le_of_ble_eq_true rfl, Nat.le_of_ble_eq_true rfl⟩ (fun _ h => h.elim) xav_no (fun _ _ ⟨e1, e2, e3⟩ => by subst e1; subst e2; exact a_out C (fun _ h => nomatch h) (hthr _ _ ⟨rfl, by unfold o_pause; rw [if_neg (fun z => z (xin_of hj (by omega))), if_pos e3]; exact (List.Mem.tail _ (List.Mem.head _))⟩) (Nat.le_of_ble_eq_true rfl) (Nat.le_of_ble_eq_true rfl)) (fun r11 hp11 hq11 => ?_)
  obtain ⟨rfl, rfl, hx⟩ := hq11
  refine a_aload_n (i := 3) C dX6_pauseReminders_14 rfl rfl ?_
  refine a_aload_n (i := 0) C dX6_pauseReminders_15 rfl rfl ?_
  refine a_get C dX6_pauseReminders_16 fl_X6_36 xC_0 rfl ?_
  refine a_iload_n (i := 2) C dX6_pauseReminders_19 rfl rfl ?_
  refine a_iadd C dX6_pauseReminders_20 ?_
  refine a_put C dX6_pauseReminders_21 fl_X6_70 (xC_cu (by omega) (by omega)) (Nat.le_of_ble_eq_true rfl) rfl rfl ?_
  refine a_hp (xCc_9 (by omega) (by omega)) ?_
  refine a_aload_n (i := 3) C dX6_pauseReminders_24 rfl rfl ?_
  refine a_get C dX6_pauseReminders_25 fl_X6_70 (xC_cu (by omega) (by omega)) (congrArg (fun z => some (Value.int z)) xupd_i) ?_
  exact a_iret C dX6_pauseReminders_28 (Nat.le_of_ble_eq_true rfl) (Nat.le_of_ble_eq_true rfl) (hret _ _ (by unfold cP o_pause; rw [if_neg (fun z => z (xin_of hj (by omega))), if_neg (fun z => z hx), nI_clamp (by omega)]; exact ⟨rfl, rfl, jc, jr, rfl⟩))
set_option maxRecDepth 100000 in
set_option maxHeartbeats 4000000 in
theorem m_X6_allocated {l : Launch} {N0 : Nat} {D : va_G} {dT : Nat → ClassId} (hflags : l.stackTraces = false) {h : xH} {nc ni np nl : Nat} {n : Nat → Int32} {f : Nat → Nat → Int32} {g : Nat → Nat → Int64} {jc : Nat → Nat → Int32} {jr : Nat → Int64} (hB : nc ≤ 6 ∧ ni ≤ 24 ∧ np ≤ 24 ∧ nl ≤ 16000) {w u : Int32}  : xMet l N0 D dT yX6_allocated cX6_allocated 4 (some FieldType.int) 9 2 12 [.ref 0, .int w, .int u] (xC h nc ni np nl (n 1) f g jc jr) xNo (cP h nc ni np nl (oRd (xin w np ∧ xin u ni) (f 22 (24 * w.toNatClampNeg + u.toNatClampNeg)) n f g)) (cX (xC h nc ni np nl (n 1) f g jc jr) [("java/lang/IndexOutOfBoundsException", (1 : Int32))] (oRd (xin w np ∧ xin u ni) (f 22 (24 * w.toNatClampNeg + u.toNatClampNeg)) n f g)) := by
  refine xMet_of hflags (by decide +kernel) (fun _ _ h => h) (Nat.le_of_ble_eq_true rfl) ?_
  intro E C I hret hthr
  refine a_loc [(0, .ref 0), (1, .int w), (2, .int u)] (xsub_cons rfl (xsub_cons rfl (xsub_cons rfl (xsub_nil)))) ?_
  obtain ⟨hc6, hi24, hp24, hl16⟩ := id hB
  refine a_aload_n (i := 0) C dX6_allocated_0 rfl rfl ?_
  refine a_iload_n (i := 1) C dX6_allocated_1 rfl rfl ?_
  refine a_callV C dX6_allocated_2 cv_X6_paymentAt tb530 (m_X6_paymentAt hflags hB) rfl rfl xC_0 rfl (Nat.le_of_ble_eq_true rfl) ⟨Nat.le_of_ble_eq_true rfl, Nat.le_of_ble_eq_true rfl⟩ ⟨Nat.le_of_ble_eq_true rfl, Nat.le_of_ble_eq_true rfl⟩ (fun _ h => h.elim) xav_no (fun _ _ ⟨e1, e2, e3⟩ => by subst e1; subst e2; exact a_out C (fun _ h => nomatch h) (hthr _ _ (cX_rf (fun z => e3 z.1) (List.Mem.head _))) (Nat.le_of_ble_eq_true rfl) (Nat.le_of_ble_eq_true rfl)) (fun r2 hp2 hq2 => ?_)
  obtain ⟨j, hj, rfl, rfl, rfl⟩ := hq2
  refine a_astore_n (i := 3) C dX6_allocated_5 rfl (by decide) ?_
  refine a_aload_n (i := 0) C dX6_allocated_6 rfl rfl ?_
  refine a_iload_n (i := 2) C dX6_allocated_7 rfl rfl ?_
  refine a_callV C dX6_allocated_8 cv_X6_invoiceAt tb535 (m_X6_invoiceAt hflags hB) rfl rfl xC_0 rfl (Nat.le_of_ble_eq_true rfl) ⟨Nat.le_of_ble_eq_true rfl, Nat.le_of_ble_eq_true rfl⟩ ⟨Nat.le_of_ble_eq_true rfl, Nat.le_of_ble_eq_true rfl⟩ (fun _ h => h.elim) xav_no (fun _ _ ⟨e1, e2, e3⟩ => by subst e1; subst e2; exact a_out C (fun _ h => nomatch h) (hthr _ _ (cX_rf (fun z => e3 z.2) (List.Mem.head _))) (Nat.le_of_ble_eq_true rfl) (Nat.le_of_ble_eq_true rfl)) (fun r8 hp8 hq8 => ?_)
  obtain ⟨i, hi, rfl, rfl, rfl⟩ := hq8
  refine a_pop C dX6_allocated_11 rfl ?_
  refine a_aload_n (i := 3) C dX6_allocated_12 rfl rfl ?_
  refine a_iload_n (i := 2) C dX6_allocated_13 rfl rfl ?_
  refine a_callV C dX6_allocated_14 cv_X4_spentOn tb647 (m_X4_spentOn hflags hB hj (i := i) (by omega)) rfl rfl (xC_pa (by omega) (by omega)) rfl (Nat.le_of_ble_eq_true rfl) ⟨Nat.le_of_ble_eq_true rfl, Nat.le_of_ble_eq_true rfl⟩ ⟨Nat.le_of_ble_eq_true rfl, Nat.le_of_ble_eq_true rfl⟩ (fun _ h => h.elim) xav_no (fun _ _ h => h.elim) (fun r14 hp14 hq14 => ?_)
  obtain ⟨rfl, rfl⟩ := hq14
  exact a_iret C dX6_allocated_17 (Nat.le_of_ble_eq_true rfl) (Nat.le_of_ble_eq_true rfl) (hret _ _ (cP_rt ⟨xin_of hj (by omega), xin_of hi (by omega)⟩ (by rw [nI_clamp (by omega), nI_clamp (by omega)])))
set_option maxRecDepth 100000 in
set_option maxHeartbeats 4000000 in
theorem m_X6_invoicesAt {l : Launch} {N0 : Nat} {D : va_G} {dT : Nat → ClassId} (hflags : l.stackTraces = false) {h : xH} {nc ni np nl : Nat} {n : Nat → Int32} {f : Nat → Nat → Int32} {g : Nat → Nat → Int64} {jc : Nat → Nat → Int32} {jr : Nat → Int64} (hB : nc ≤ 6 ∧ ni ≤ 24 ∧ np ≤ 24 ∧ nl ≤ 16000) {w : Int32}  : xMet l N0 D dT yX6_invoicesAt cX6_invoicesAt 4 (some FieldType.int) 9 1 6 [.ref 0, .int w] (xC h nc ni np nl (n 1) f g jc jr) xNo (cP h nc ni np nl (oRd (0 ≤ w ∧ w ≤ 4) (xsum (xlev f w) ni) n f g)) (cX (xC h nc ni np nl (n 1) f g jc jr) [("java/lang/IllegalArgumentException", (1 : Int32))] (oRd (0 ≤ w ∧ w ≤ 4) (xsum (xlev f w) ni) n f g)) := by
  refine xMet_of hflags (by decide +kernel) (fun _ _ h => h) (Nat.le_of_ble_eq_true rfl) ?_
  intro E C I hret hthr
  refine a_loc [(0, .ref 0), (1, .int w)] (xsub_cons rfl (xsub_cons rfl (xsub_nil))) ?_
  obtain ⟨hc6, hi24, hp24, hl16⟩ := id hB
  refine a_iload_n (i := 1) C dX6_invoicesAt_0 rfl rfl ?_
  refine a_iconst (v := 0) C dX6_invoicesAt_1 (by decide) ?_
  refine a_iconst (v := 4) C dX6_invoicesAt_2 (by decide) ?_
  refine a_callS C dX6_invoicesAt_3 cs_X6_requireRange tb168 (m_X6_requireRange hflags) rfl rfl (Nat.le_of_ble_eq_true rfl) ⟨Nat.le_of_ble_eq_true rfl, Nat.le_of_ble_eq_true rfl⟩ ⟨Nat.le_of_ble_eq_true rfl, Nat.le_of_ble_eq_true rfl⟩ (fun _ h => h.elim) xav_no (fun _ _ ⟨e1, e2, e3⟩ => by subst e1; subst e2; exact a_out C (fun _ h => nomatch h) (hthr _ _ (cX_rf e3 (List.Mem.head _))) (Nat.le_of_ble_eq_true rfl) (Nat.le_of_ble_eq_true rfl)) (fun r3 hp3 hq3 => ?_)
  obtain ⟨rfl, rfl, r1⟩ := hq3
  have loop : ∀ (k i : Nat), i ≤ ni → ni < i + k → aW E 1 6 (xC h nc ni np nl (n 1) f g jc jr) 10 [(0, .ref 0), (1, .int w), (2, .int (xsum (xlev f w) i)), (3, .int (nI i))] [] := by
    intro k
    induction k with
    | zero => intro i h1 h2; exact absurd h2 (by omega)
    | succ k ih =>
      intro i h1 h2
      refine a_iload_n (i := 3) C dX6_invoicesAt_10 rfl rfl ?_
      refine a_aload_n (i := 0) C dX6_invoicesAt_11 rfl rfl ?_
      refine a_get C dX6_invoicesAt_12 fl_X6_16 xC_0 rfl ?_
      refine a_callV C dX6_invoicesAt_15 cv_Jx4a65c_size_8abf5 tb142 (m_Jx4a65c_size_8abf5 hflags xC_2) rfl rfl xC_2 rfl (Nat.le_of_ble_eq_true rfl) ⟨Nat.le_of_ble_eq_true rfl, Nat.le_of_ble_eq_true rfl⟩ ⟨Nat.le_of_ble_eq_true rfl, Nat.le_of_ble_eq_true rfl⟩ (fun _ h => h.elim) xav_no (fun _ _ h => h.elim) (fun r15 hp15 hq15 => ?_)
      obtain ⟨rfl, rfl⟩ := hq15
      refine a_icmp_ge (tgt := 48) C dX6_invoicesAt_18 (by decide) (fun c18 => ?_) (fun c18 => ?_)
      · have hie : i = ni := by
          have := (xle (by omega) (by omega)).mp c18
          omega
        rw [hie]
        refine a_iload_n (i := 2) C dX6_invoicesAt_48 rfl rfl ?_
        exact a_iret C dX6_invoicesAt_49 (Nat.le_of_ble_eq_true rfl) (Nat.le_of_ble_eq_true rfl) (hret _ _ (cP_rt r1 rfl))
      · have hlt : i < ni := by
          rcases Nat.lt_or_ge i ni with q | q
          · exact q
          · exact absurd ((xle (by omega) (by omega)).mpr q) c18
        refine a_aload_n (i := 0) C dX6_invoicesAt_21 rfl rfl ?_
        refine a_get C dX6_invoicesAt_22 fl_X6_16 xC_0 rfl ?_
        refine a_iload_n (i := 3) C dX6_invoicesAt_25 rfl rfl ?_
        refine a_callV C dX6_invoicesAt_26 cv_Jx4a65c_get_915e3 tb372 (m_Jx4a65c_get_915e3 hflags xC_2 (xC_l2 (by omega)) (by omega) (aCap_ge (by omega)) (Nat.lt_of_le_of_lt (aCap_le _) (by decide)) (xLr_lt (by omega))) rfl rfl xC_2 rfl (Nat.le_of_ble_eq_true rfl) ⟨Nat.le_of_ble_eq_true rfl, Nat.le_of_ble_eq_true rfl⟩ ⟨Nat.le_of_ble_eq_true rfl, Nat.le_of_ble_eq_true rfl⟩ (fun _ h => h.elim) xav_no (fun _ _ h => h.elim) (fun r26 hp26 hq26 => ?_)
        obtain ⟨rfl, rfl⟩ := hq26
        refine a_castS C dX6_invoicesAt_29 tb409 (xC_in (by omega) (by omega)) rfl rfl ?_
        refine a_get C dX6_invoicesAt_32 fl_X6_240 (xC_in (by omega) (by omega)) rfl ?_
        refine a_iload_n (i := 1) C dX6_invoicesAt_35 rfl rfl ?_
        refine a_icmp_ne (tgt := 42) C dX6_invoicesAt_36 (by decide) (fun c36 => ?_) (fun c36 => ?_)
        · first
          | (refine a_loc [(0, .ref 0), (1, .int w), (2, .int (xsum (xlev f w) (i + 1))), (3, .int (nI i))] (by rw [xsum_t (show xlev f w i = 1 from if_pos (Classical.not_not.mp c36))]; exact xsub_cons rfl (xsub_cons rfl (xsub_cons rfl (xsub_cons rfl (xsub_nil))))) ?_)
          | (refine a_loc [(0, .ref 0), (1, .int w), (2, .int (xsum (xlev f w) (i + 1))), (3, .int (nI i))] (by rw [xsum_t (show xlev f w i = 1 from if_pos c36)]; exact xsub_cons rfl (xsub_cons rfl (xsub_cons rfl (xsub_cons rfl (xsub_nil))))) ?_)
          | (refine a_loc [(0, .ref 0), (1, .int w), (2, .int (xsum (xlev f w) (i + 1))), (3, .int (nI i))] (by rw [xsum_0 (show xlev f w i = 0 from if_neg c36)]; exact xsub_cons rfl (xsub_cons rfl (xsub_cons rfl (xsub_cons rfl (xsub_nil))))) ?_)
          refine a_iinc (i := 3) (v := nI (i + 1)) C dX6_invoicesAt_42 rfl (nI_1 i) (by decide) ?_
          refine a_goto (tgt := 10) C dX6_invoicesAt_45 (by decide) ?_
          refine a_loc _ ?_ (ih (i + 1) (by omega) (by omega))
          exact xsub_cons rfl (xsub_cons rfl (xsub_cons rfl (xsub_cons rfl (xsub_nil))))
        · refine a_iinc (i := 2) (v := xsum (xlev f w) i + 1) C dX6_invoicesAt_39 rfl rfl (by decide) ?_
          first
          | (refine a_loc [(0, .ref 0), (1, .int w), (2, .int (xsum (xlev f w) (i + 1))), (3, .int (nI i))] (by rw [xsum_t (show xlev f w i = 1 from if_pos (Classical.not_not.mp c36))]; exact xsub_cons rfl (xsub_cons rfl (xsub_cons rfl (xsub_cons rfl (xsub_nil))))) ?_)
          | (refine a_loc [(0, .ref 0), (1, .int w), (2, .int (xsum (xlev f w) (i + 1))), (3, .int (nI i))] (by rw [xsum_t (show xlev f w i = 1 from if_pos c36)]; exact xsub_cons rfl (xsub_cons rfl (xsub_cons rfl (xsub_cons rfl (xsub_nil))))) ?_)
          | (refine a_loc [(0, .ref 0), (1, .int w), (2, .int (xsum (xlev f w) (i + 1))), (3, .int (nI i))] (by rw [xsum_0 (show xlev f w i = 0 from if_neg c36)]; exact xsub_cons rfl (xsub_cons rfl (xsub_cons rfl (xsub_cons rfl (xsub_nil))))) ?_)
          refine a_iinc (i := 3) (v := nI (i + 1)) C dX6_invoicesAt_42 rfl (nI_1 i) (by decide) ?_
          refine a_goto (tgt := 10) C dX6_invoicesAt_45 (by decide) ?_
          refine a_loc _ ?_ (ih (i + 1) (by omega) (by omega))
          exact xsub_cons rfl (xsub_cons rfl (xsub_cons rfl (xsub_cons rfl (xsub_nil))))
  refine a_iconst (v := 0) C dX6_invoicesAt_6 (by decide) ?_
  refine a_istore_n (i := 2) C dX6_invoicesAt_7 rfl (by decide) ?_
  refine a_iconst (v := 0) C dX6_invoicesAt_8 (by decide) ?_
  refine a_istore_n (i := 3) C dX6_invoicesAt_9 rfl (by decide) ?_
  refine a_loc _ ?_ (loop (ni + 1) 0 (Nat.zero_le _) (by omega))
  exact xsub_cons rfl (xsub_cons rfl (xsub_cons rfl (xsub_cons rfl (xsub_nil))))
set_option maxRecDepth 100000 in
set_option maxHeartbeats 4000000 in
theorem m_X6_ageing {l : Launch} {N0 : Nat} {D : va_G} {dT : Nat → ClassId} (hflags : l.stackTraces = false) {h : xH} {nc ni np nl : Nat} {n : Nat → Int32} {f : Nat → Nat → Int32} {g : Nat → Nat → Int64} {jc : Nat → Nat → Int32} {jr : Nat → Int64} (hB : nc ≤ 6 ∧ ni ≤ 24 ∧ np ≤ 24 ∧ nl ≤ 16000) {w b : Int32} (hO : ∀ i, i < ni → ∃ k, k < nc ∧ f 10 i = nI k)  : xMet l N0 D dT yX6_ageing cX6_ageing 7 (some FieldType.int) 9 2 12 [.ref 0, .int w, .int b] (xC h nc ni np nl (n 1) f g jc jr) xNo (cP h nc ni np nl (oRd (xin w nc ∧ (0 ≤ b ∧ b ≤ 4)) (xsum (xage n f w b) ni) n f g)) (cX (xC h nc ni np nl (n 1) f g jc jr) [("java/lang/IndexOutOfBoundsException", (1 : Int32))] (oRd (xin w nc ∧ (0 ≤ b ∧ b ≤ 4)) (xsum (xage n f w b) ni) n f g)) := by
  refine xMet_of hflags (by decide +kernel) (fun _ _ h => h) (Nat.le_of_ble_eq_true rfl) ?_
  intro E C I hret hthr
  refine a_loc [(0, .ref 0), (1, .int w), (2, .int b)] (xsub_cons rfl (xsub_cons rfl (xsub_cons rfl (xsub_nil)))) ?_
  obtain ⟨hc6, hi24, hp24, hl16⟩ := id hB
  refine a_aload_n (i := 0) C dX6_ageing_0 rfl rfl ?_
  refine a_iload_n (i := 1) C dX6_ageing_1 rfl rfl ?_
  refine a_callV C dX6_ageing_2 cv_X6_customerAt tb349 (m_X6_customerAt hflags hB) rfl rfl xC_0 rfl (Nat.le_of_ble_eq_true rfl) ⟨Nat.le_of_ble_eq_true rfl, Nat.le_of_ble_eq_true rfl⟩ ⟨Nat.le_of_ble_eq_true rfl, Nat.le_of_ble_eq_true rfl⟩ (fun _ h => h.elim) xav_no (fun _ _ ⟨e1, e2, e3⟩ => by subst e1; subst e2; exact a_out C (fun _ h => nomatch h) (hthr _ _ (cX_rf (fun z => e3 z.1) (List.Mem.head _))) (Nat.le_of_ble_eq_true rfl) (Nat.le_of_ble_eq_true rfl)) (fun r2 hp2 hq2 => ?_)
  obtain ⟨j, hj, rfl, rfl, rfl⟩ := hq2
  refine a_astore_n (i := 3) C dX6_ageing_5 rfl (by decide) ?_
  refine a_iload_n (i := 2) C dX6_ageing_6 rfl rfl ?_
  refine a_iconst (v := 5) C dX6_ageing_7 (by decide) ?_
  refine a_callS C dX6_ageing_8 cs_X6_requireIndex tb353 (m_X6_requireIndex hflags (c := 5) (by decide)) rfl rfl (Nat.le_of_ble_eq_true rfl) ⟨Nat.le_of_ble_eq_true rfl, Nat.le_of_ble_eq_true rfl⟩ ⟨Nat.le_of_ble_eq_true rfl, Nat.le_of_ble_eq_true rfl⟩ (fun _ h => h.elim) xav_no (fun _ _ ⟨e1, e2, e3⟩ => by subst e1; subst e2; exact a_out C (fun _ h => nomatch h) (hthr _ _ (cX_rf (fun z => e3 ((xin_iff (m := 5) (c := 5) rfl (by decide)).mp z.2)) (List.Mem.head _))) (Nat.le_of_ble_eq_true rfl) (Nat.le_of_ble_eq_true rfl)) (fun r8 hp8 hq8 => ?_)
  obtain ⟨rfl, rfl, r1⟩ := hq8
  have loop : ∀ (k i : Nat), i ≤ ni → ni < i + k → aW E 2 12 (xC h nc ni np nl (n 1) f g jc jr) 17 [(0, .ref 0), (2, .int b), (3, .ref (16 + j)), (4, .int (xsum (xage n f (nI j) b) i)), (5, .int (nI i))] [] := by
    intro k
    induction k with
    | zero => intro i h1 h2; exact absurd h2 (by omega)
    | succ k ih =>
      intro i h1 h2
      refine a_iload (i := 5) C dX6_ageing_17 rfl ?_
      refine a_aload_n (i := 0) C dX6_ageing_19 rfl rfl ?_
      refine a_get C dX6_ageing_20 fl_X6_16 xC_0 rfl ?_
      refine a_callV C dX6_ageing_23 cv_Jx4a65c_size_8abf5 tb142 (m_Jx4a65c_size_8abf5 hflags xC_2) rfl rfl xC_2 rfl (Nat.le_of_ble_eq_true rfl) ⟨Nat.le_of_ble_eq_true rfl, Nat.le_of_ble_eq_true rfl⟩ ⟨Nat.le_of_ble_eq_true rfl, Nat.le_of_ble_eq_true rfl⟩ (fun _ h => h.elim) xav_no (fun _ _ h => h.elim) (fun r23 hp23 hq23 => ?_)
      obtain ⟨rfl, rfl⟩ := hq23
      refine a_icmp_ge (tgt := 81) C dX6_ageing_26 (by decide) (fun c26 => ?_) (fun c26 => ?_)
      · have hie : i = ni := by
          have := (xle (by omega) (by omega)).mp c26
          omega
        rw [hie]
        refine a_iload (i := 4) C dX6_ageing_81 rfl ?_
        exact a_iret C dX6_ageing_83 (Nat.le_of_ble_eq_true rfl) (Nat.le_of_ble_eq_true rfl) (hret _ _ (cP_rt ⟨xin_of hj (by omega), (xin_iff (m := 5) (c := 5) rfl (by decide)).mpr r1⟩ rfl))
      · have hlt : i < ni := by
          rcases Nat.lt_or_ge i ni with q | q
          · exact q
          · exact absurd ((xle (by omega) (by omega)).mpr q) c26
        refine a_aload_n (i := 0) C dX6_ageing_29 rfl rfl ?_
        refine a_get C dX6_ageing_30 fl_X6_16 xC_0 rfl ?_
        refine a_iload (i := 5) C dX6_ageing_33 rfl ?_
        refine a_callV C dX6_ageing_35 cv_Jx4a65c_get_915e3 tb372 (m_Jx4a65c_get_915e3 hflags xC_2 (xC_l2 (by omega)) (by omega) (aCap_ge (by omega)) (Nat.lt_of_le_of_lt (aCap_le _) (by decide)) (xLr_lt (by omega))) rfl rfl xC_2 rfl (Nat.le_of_ble_eq_true rfl) ⟨Nat.le_of_ble_eq_true rfl, Nat.le_of_ble_eq_true rfl⟩ ⟨Nat.le_of_ble_eq_true rfl, Nat.le_of_ble_eq_true rfl⟩ (fun _ h => h.elim) xav_no (fun _ _ h => h.elim) (fun r35 hp35 hq35 => ?_)
        obtain ⟨rfl, rfl⟩ := hq35
        refine a_castS C dX6_ageing_38 tb409 (xC_in (by omega) (by omega)) rfl rfl ?_
        refine a_astore (i := 6) C dX6_ageing_41 (by decide) ?_
        refine a_aload (i := 6) C dX6_ageing_43 rfl ?_
        refine a_get C dX6_ageing_45 fl_X6_127 (xC_in (by omega) (by omega)) rfl ?_
        refine a_aload_n (i := 3) C dX6_ageing_48 rfl rfl ?_
        refine a_acmp_ne (tgt := 75) C dX6_ageing_49 (by decide) (xC_cu (xow_lt hO hc6 i hlt) hc6) (xC_cu hj hc6) (fun c49 => ?_) (fun c49 => ?_)
        · first
          | (refine a_loc [(0, .ref 0), (2, .int b), (3, .ref (16 + j)), (4, .int (xsum (xage n f (nI j) b) (i + 1))), (5, .int (nI i))] (by rw [xsum_t (show xage n f (nI j) b i = f 13 i from if_pos ⟨(own_iff hO hc6 hlt hj).mp c49, c62⟩)]; exact xsub_cons rfl (xsub_cons rfl (xsub_cons rfl (xsub_cons rfl (xsub_cons rfl (xsub_nil)))))) ?_)
          | (refine a_loc [(0, .ref 0), (2, .int b), (3, .ref (16 + j)), (4, .int (xsum (xage n f (nI j) b) (i + 1))), (5, .int (nI i))] (by rw [xsum_0 (show xage n f (nI j) b i = 0 from if_neg (fun z => c49 ((own_iff hO hc6 hlt hj).mpr z.1)))]; exact xsub_cons rfl (xsub_cons rfl (xsub_cons rfl (xsub_cons rfl (xsub_cons rfl (xsub_nil)))))) ?_)
          | (refine a_loc [(0, .ref 0), (2, .int b), (3, .ref (16 + j)), (4, .int (xsum (xage n f (nI j) b) (i + 1))), (5, .int (nI i))] (by rw [xsum_0 (show xage n f (nI j) b i = 0 from if_neg (fun z => c62 z.2))]; exact xsub_cons rfl (xsub_cons rfl (xsub_cons rfl (xsub_cons rfl (xsub_cons rfl (xsub_nil)))))) ?_)
          refine a_iinc (i := 5) (v := nI (i + 1)) C dX6_ageing_75 rfl (nI_1 i) (by decide) ?_
          refine a_goto (tgt := 17) C dX6_ageing_78 (by decide) ?_
          refine a_loc _ ?_ (ih (i + 1) (by omega) (by omega))
          exact xsub_cons rfl (xsub_cons rfl (xsub_cons rfl (xsub_cons rfl (xsub_cons rfl (xsub_nil)))))
        · refine a_aload (i := 6) C dX6_ageing_52 rfl ?_
          refine a_aload_n (i := 0) C dX6_ageing_54 rfl rfl ?_
          refine a_get C dX6_ageing_55 fl_X6_36 xC_0 rfl ?_
          refine a_callV C dX6_ageing_58 cv_X2_bucketOn tb842 (m_X2_bucketOn hflags hB hlt) rfl rfl (xC_in (by omega) (by omega)) rfl (Nat.le_of_ble_eq_true rfl) ⟨Nat.le_of_ble_eq_true rfl, Nat.le_of_ble_eq_true rfl⟩ ⟨Nat.le_of_ble_eq_true rfl, Nat.le_of_ble_eq_true rfl⟩ (fun _ h => h.elim) xav_no (fun _ _ h => h.elim) (fun r58 hp58 hq58 => ?_)
          obtain ⟨rfl, rfl⟩ := hq58
          refine a_iload_n (i := 2) C dX6_ageing_61 rfl rfl ?_
          refine a_icmp_ne (tgt := 75) C dX6_ageing_62 (by decide) (fun c62 => ?_) (fun c62 => ?_)
          · first
            | (refine a_loc [(0, .ref 0), (2, .int b), (3, .ref (16 + j)), (4, .int (xsum (xage n f (nI j) b) (i + 1))), (5, .int (nI i))] (by rw [xsum_t (show xage n f (nI j) b i = f 13 i from if_pos ⟨(own_iff hO hc6 hlt hj).mp c49, c62⟩)]; exact xsub_cons rfl (xsub_cons rfl (xsub_cons rfl (xsub_cons rfl (xsub_cons rfl (xsub_nil)))))) ?_)
            | (refine a_loc [(0, .ref 0), (2, .int b), (3, .ref (16 + j)), (4, .int (xsum (xage n f (nI j) b) (i + 1))), (5, .int (nI i))] (by rw [xsum_0 (show xage n f (nI j) b i = 0 from if_neg (fun z => c49 ((own_iff hO hc6 hlt hj).mpr z.1)))]; exact xsub_cons rfl (xsub_cons rfl (xsub_cons rfl (xsub_cons rfl (xsub_cons rfl (xsub_nil)))))) ?_)
            | (refine a_loc [(0, .ref 0), (2, .int b), (3, .ref (16 + j)), (4, .int (xsum (xage n f (nI j) b) (i + 1))), (5, .int (nI i))] (by rw [xsum_0 (show xage n f (nI j) b i = 0 from if_neg (fun z => c62 z.2))]; exact xsub_cons rfl (xsub_cons rfl (xsub_cons rfl (xsub_cons rfl (xsub_cons rfl (xsub_nil)))))) ?_)
            refine a_iinc (i := 5) (v := nI (i + 1)) C dX6_ageing_75 rfl (nI_1 i) (by decide) ?_
            refine a_goto (tgt := 17) C dX6_ageing_78 (by decide) ?_
            refine a_loc _ ?_ (ih (i + 1) (by omega) (by omega))
            exact xsub_cons rfl (xsub_cons rfl (xsub_cons rfl (xsub_cons rfl (xsub_cons rfl (xsub_nil)))))
          · refine a_iload (i := 4) C dX6_ageing_65 rfl ?_
            refine a_aload (i := 6) C dX6_ageing_67 rfl ?_
            refine a_callV C dX6_ageing_69 cv_X2_openAmount tb547 (m_X2_openAmount hflags hB hlt) rfl rfl (xC_in (by omega) (by omega)) rfl (Nat.le_of_ble_eq_true rfl) ⟨Nat.le_of_ble_eq_true rfl, Nat.le_of_ble_eq_true rfl⟩ ⟨Nat.le_of_ble_eq_true rfl, Nat.le_of_ble_eq_true rfl⟩ (fun _ h => h.elim) xav_no (fun _ _ h => h.elim) (fun r69 hp69 hq69 => ?_)
            obtain ⟨rfl, rfl⟩ := hq69
            refine a_iadd C dX6_ageing_72 ?_
            refine a_istore (i := 4) C dX6_ageing_73 (by decide) ?_
            first
            | (refine a_loc [(0, .ref 0), (2, .int b), (3, .ref (16 + j)), (4, .int (xsum (xage n f (nI j) b) (i + 1))), (5, .int (nI i))] (by rw [xsum_t (show xage n f (nI j) b i = f 13 i from if_pos ⟨(own_iff hO hc6 hlt hj).mp c49, c62⟩)]; exact xsub_cons rfl (xsub_cons rfl (xsub_cons rfl (xsub_cons rfl (xsub_cons rfl (xsub_nil)))))) ?_)
            | (refine a_loc [(0, .ref 0), (2, .int b), (3, .ref (16 + j)), (4, .int (xsum (xage n f (nI j) b) (i + 1))), (5, .int (nI i))] (by rw [xsum_0 (show xage n f (nI j) b i = 0 from if_neg (fun z => c49 ((own_iff hO hc6 hlt hj).mpr z.1)))]; exact xsub_cons rfl (xsub_cons rfl (xsub_cons rfl (xsub_cons rfl (xsub_cons rfl (xsub_nil)))))) ?_)
            | (refine a_loc [(0, .ref 0), (2, .int b), (3, .ref (16 + j)), (4, .int (xsum (xage n f (nI j) b) (i + 1))), (5, .int (nI i))] (by rw [xsum_0 (show xage n f (nI j) b i = 0 from if_neg (fun z => c62 z.2))]; exact xsub_cons rfl (xsub_cons rfl (xsub_cons rfl (xsub_cons rfl (xsub_cons rfl (xsub_nil)))))) ?_)
            refine a_iinc (i := 5) (v := nI (i + 1)) C dX6_ageing_75 rfl (nI_1 i) (by decide) ?_
            refine a_goto (tgt := 17) C dX6_ageing_78 (by decide) ?_
            refine a_loc _ ?_ (ih (i + 1) (by omega) (by omega))
            exact xsub_cons rfl (xsub_cons rfl (xsub_cons rfl (xsub_cons rfl (xsub_cons rfl (xsub_nil)))))
  refine a_iconst (v := 0) C dX6_ageing_11 (by decide) ?_
  refine a_istore (i := 4) C dX6_ageing_12 (by decide) ?_
  refine a_iconst (v := 0) C dX6_ageing_14 (by decide) ?_
  refine a_istore (i := 5) C dX6_ageing_15 (by decide) ?_
  refine a_loc _ ?_ (loop (ni + 1) 0 (Nat.zero_le _) (by omega))
  exact xsub_cons rfl (xsub_cons rfl (xsub_cons rfl (xsub_cons rfl (xsub_cons rfl (xsub_nil)))))
set_option maxRecDepth 100000 in
set_option maxHeartbeats 4000000 in
theorem m_X6_balance {l : Launch} {N0 : Nat} {D : va_G} {dT : Nat → ClassId} (hflags : l.stackTraces = false) {h : xH} {nc ni np nl : Nat} {n : Nat → Int32} {f : Nat → Nat → Int32} {g : Nat → Nat → Int64} {jc : Nat → Nat → Int32} {jr : Nat → Int64} (hB : nc ≤ 6 ∧ ni ≤ 24 ∧ np ≤ 24 ∧ nl ≤ 16000) {w : Int32} (hO : ∀ i, i < ni → ∃ k, k < nc ∧ f 10 i = nI k) (hP : ∀ i, i < np → ∃ k, k < nc ∧ f 19 i = nI k) (hRV : ∀ p, p < np → ¬ f 21 p = 0 → f 20 p = 0)  : xMet l N0 D dT yX6_balance cX6_balance 6 (some FieldType.int) 9 1 6 [.ref 0, .int w] (xC h nc ni np nl (n 1) f g jc jr) xNo (cP h nc ni np nl (oRd (xin w nc) (xbal f w ni np) n f g)) (cX (xC h nc ni np nl (n 1) f g jc jr) [("java/lang/IndexOutOfBoundsException", (1 : Int32))] (oRd (xin w nc) (xbal f w ni np) n f g)) := by
  refine xMet_of hflags (by decide +kernel) (fun _ _ h => h) (Nat.le_of_ble_eq_true rfl) ?_
  intro E C I hret hthr
  refine a_loc [(0, .ref 0), (1, .int w)] (xsub_cons rfl (xsub_cons rfl (xsub_nil))) ?_
  obtain ⟨hc6, hi24, hp24, hl16⟩ := id hB
  refine a_aload_n (i := 0) C dX6_balance_0 rfl rfl ?_
  refine a_iload_n (i := 1) C dX6_balance_1 rfl rfl ?_
  refine a_callV C dX6_balance_2 cv_X6_customerAt tb349 (m_X6_customerAt hflags hB) rfl rfl xC_0 rfl (Nat.le_of_ble_eq_true rfl) ⟨Nat.le_of_ble_eq_true rfl, Nat.le_of_ble_eq_true rfl⟩ ⟨Nat.le_of_ble_eq_true rfl, Nat.le_of_ble_eq_true rfl⟩ (fun _ h => h.elim) xav_no (fun _ _ ⟨e1, e2, e3⟩ => by subst e1; subst e2; exact a_out C (fun _ h => nomatch h) (hthr _ _ (cX_rf e3 (List.Mem.head _))) (Nat.le_of_ble_eq_true rfl) (Nat.le_of_ble_eq_true rfl)) (fun r2 hp2 hq2 => ?_)
  obtain ⟨j, hj, rfl, rfl, rfl⟩ := hq2
  refine a_astore_n (i := 2) C dX6_balance_5 rfl (by decide) ?_
  have loop2 : ∀ (k i : Nat), i ≤ np → np < i + k → aW E 1 6 (xC h nc ni np nl (n 1) f g jc jr) 63 [(0, .ref 0), (2, .ref (16 + j)), (3, .int (xsubt (xsum (xopn f (nI j)) ni) (xrst f (nI j)) i)), (4, .int (nI i))] [] := by
    intro k
    induction k with
    | zero => intro i h1 h2; exact absurd h2 (by omega)
    | succ k ih =>
      intro i h1 h2
      refine a_iload (i := 4) C dX6_balance_63 rfl ?_
      refine a_aload_n (i := 0) C dX6_balance_65 rfl rfl ?_
      refine a_get C dX6_balance_66 fl_X6_19 xC_0 rfl ?_
      refine a_callV C dX6_balance_69 cv_Jx4a65c_size_8abf5 tb142 (m_Jx4a65c_size_8abf5 hflags xC_3) rfl rfl xC_3 rfl (Nat.le_of_ble_eq_true rfl) ⟨Nat.le_of_ble_eq_true rfl, Nat.le_of_ble_eq_true rfl⟩ ⟨Nat.le_of_ble_eq_true rfl, Nat.le_of_ble_eq_true rfl⟩ (fun _ h => h.elim) xav_no (fun _ _ h => h.elim) (fun r69 hp69 hq69 => ?_)
      obtain ⟨rfl, rfl⟩ := hq69
      refine a_icmp_ge (tgt := 112) C dX6_balance_72 (by decide) (fun c72 => ?_) (fun c72 => ?_)
      · have hie : i = np := by
          have := (xle (by omega) (by omega)).mp c72
          omega
        rw [hie]
        refine a_iload_n (i := 3) C dX6_balance_112 rfl rfl ?_
        exact a_iret C dX6_balance_113 (Nat.le_of_ble_eq_true rfl) (Nat.le_of_ble_eq_true rfl) (hret _ _ (cP_rt (xin_of hj (by omega)) rfl))
      · have hlt : i < np := by
          rcases Nat.lt_or_ge i np with q | q
          · exact q
          · exact absurd ((xle (by omega) (by omega)).mpr q) c72
        refine a_aload_n (i := 0) C dX6_balance_75 rfl rfl ?_
        refine a_get C dX6_balance_76 fl_X6_19 xC_0 rfl ?_
        refine a_iload (i := 4) C dX6_balance_79 rfl ?_
        refine a_callV C dX6_balance_81 cv_Jx4a65c_get_915e3 tb372 (m_Jx4a65c_get_915e3 hflags xC_3 (xC_l3 (by omega)) (by omega) (aCap_ge (by omega)) (Nat.lt_of_le_of_lt (aCap_le _) (by decide)) (xLr_lt (by omega))) rfl rfl xC_3 rfl (Nat.le_of_ble_eq_true rfl) ⟨Nat.le_of_ble_eq_true rfl, Nat.le_of_ble_eq_true rfl⟩ ⟨Nat.le_of_ble_eq_true rfl, Nat.le_of_ble_eq_true rfl⟩ (fun _ h => h.elim) xav_no (fun _ _ h => h.elim) (fun r81 hp81 hq81 => ?_)
        obtain ⟨rfl, rfl⟩ := hq81
        refine a_castS C dX6_balance_84 tb534 (xC_pa (by omega) (by omega)) rfl rfl ?_
        refine a_astore (i := 5) C dX6_balance_87 (by decide) ?_
        refine a_aload (i := 5) C dX6_balance_89 rfl ?_
        refine a_get C dX6_balance_91 fl_X6_131 (xC_pa (by omega) (by omega)) rfl ?_
        refine a_aload_n (i := 2) C dX6_balance_94 rfl rfl ?_
        refine a_acmp_ne (tgt := 106) C dX6_balance_95 (by decide) (xC_cu (pow_lt hP hc6 i hlt) hc6) (xC_cu hj hc6) (fun c95 => ?_) (fun c95 => ?_)
        · first
          | (refine a_loc [(0, .ref 0), (2, .ref (16 + j)), (3, .int (xsubt (xsum (xopn f (nI j)) ni) (xrst f (nI j)) (i + 1))), (4, .int (nI i))] (by rw [xsubt_t (show xrst f (nI j) i = f 20 i from if_pos ((pow_iff hP hc6 hlt hj).mp c95))]; exact xsub_cons rfl (xsub_cons rfl (xsub_cons rfl (xsub_cons rfl (xsub_nil))))) ?_)
          | (refine a_loc [(0, .ref 0), (2, .ref (16 + j)), (3, .int (xsubt (xsum (xopn f (nI j)) ni) (xrst f (nI j)) (i + 1))), (4, .int (nI i))] (by rw [xsubt_0 (show xrst f (nI j) i = 0 from if_neg (fun z => c95 ((pow_iff hP hc6 hlt hj).mpr z)))]; exact xsub_cons rfl (xsub_cons rfl (xsub_cons rfl (xsub_cons rfl (xsub_nil))))) ?_)
          refine a_iinc (i := 4) (v := nI (i + 1)) C dX6_balance_106 rfl (nI_1 i) (by decide) ?_
          refine a_goto (tgt := 63) C dX6_balance_109 (by decide) ?_
          refine a_loc _ ?_ (ih (i + 1) (by omega) (by omega))
          exact xsub_cons rfl (xsub_cons rfl (xsub_cons rfl (xsub_cons rfl (xsub_nil))))
        · refine a_iload_n (i := 3) C dX6_balance_98 rfl rfl ?_
          refine a_aload (i := 5) C dX6_balance_99 rfl ?_
          refine a_callV C dX6_balance_101 cv_X4_unspent tb543 (m_X4_unspent hflags hB hlt (hRV i hlt)) rfl rfl (xC_pa (by omega) (by omega)) rfl (Nat.le_of_ble_eq_true rfl) ⟨Nat.le_of_ble_eq_true rfl, Nat.le_of_ble_eq_true rfl⟩ ⟨Nat.le_of_ble_eq_true rfl, Nat.le_of_ble_eq_true rfl⟩ (fun _ h => h.elim) xav_no (fun _ _ h => h.elim) (fun r101 hp101 hq101 => ?_)
          obtain ⟨rfl, rfl⟩ := hq101
          refine a_isub C dX6_balance_104 ?_
          refine a_istore_n (i := 3) C dX6_balance_105 rfl (by decide) ?_
          first
          | (refine a_loc [(0, .ref 0), (2, .ref (16 + j)), (3, .int (xsubt (xsum (xopn f (nI j)) ni) (xrst f (nI j)) (i + 1))), (4, .int (nI i))] (by rw [xsubt_t (show xrst f (nI j) i = f 20 i from if_pos ((pow_iff hP hc6 hlt hj).mp c95))]; exact xsub_cons rfl (xsub_cons rfl (xsub_cons rfl (xsub_cons rfl (xsub_nil))))) ?_)
          | (refine a_loc [(0, .ref 0), (2, .ref (16 + j)), (3, .int (xsubt (xsum (xopn f (nI j)) ni) (xrst f (nI j)) (i + 1))), (4, .int (nI i))] (by rw [xsubt_0 (show xrst f (nI j) i = 0 from if_neg (fun z => c95 ((pow_iff hP hc6 hlt hj).mpr z)))]; exact xsub_cons rfl (xsub_cons rfl (xsub_cons rfl (xsub_cons rfl (xsub_nil))))) ?_)
          refine a_iinc (i := 4) (v := nI (i + 1)) C dX6_balance_106 rfl (nI_1 i) (by decide) ?_
          refine a_goto (tgt := 63) C dX6_balance_109 (by decide) ?_
          refine a_loc _ ?_ (ih (i + 1) (by omega) (by omega))
          exact xsub_cons rfl (xsub_cons rfl (xsub_cons rfl (xsub_cons rfl (xsub_nil))))
  have loop : ∀ (k i : Nat), i ≤ ni → ni < i + k → aW E 1 6 (xC h nc ni np nl (n 1) f g jc jr) 11 [(0, .ref 0), (2, .ref (16 + j)), (3, .int (xsum (xopn f (nI j)) i)), (4, .int (nI i))] [] := by
    intro k
    induction k with
    | zero => intro i h1 h2; exact absurd h2 (by omega)
    | succ k ih =>
      intro i h1 h2
      refine a_iload (i := 4) C dX6_balance_11 rfl ?_
      refine a_aload_n (i := 0) C dX6_balance_13 rfl rfl ?_
      refine a_get C dX6_balance_14 fl_X6_16 xC_0 rfl ?_
      refine a_callV C dX6_balance_17 cv_Jx4a65c_size_8abf5 tb142 (m_Jx4a65c_size_8abf5 hflags xC_2) rfl rfl xC_2 rfl (Nat.le_of_ble_eq_true rfl) ⟨Nat.le_of_ble_eq_true rfl, Nat.le_of_ble_eq_true rfl⟩ ⟨Nat.le_of_ble_eq_true rfl, Nat.le_of_ble_eq_true rfl⟩ (fun _ h => h.elim) xav_no (fun _ _ h => h.elim) (fun r17 hp17 hq17 => ?_)
      obtain ⟨rfl, rfl⟩ := hq17
      refine a_icmp_ge (tgt := 60) C dX6_balance_20 (by decide) (fun c20 => ?_) (fun c20 => ?_)
      · have hie : i = ni := by
          have := (xle (by omega) (by omega)).mp c20
          omega
        rw [hie]
        refine a_iconst (v := 0) C dX6_balance_60 (by decide) ?_
        refine a_istore (i := 4) C dX6_balance_61 (by decide) ?_
        refine a_loc _ ?_ (loop2 (np + 1) 0 (Nat.zero_le _) (by omega))
        exact xsub_cons rfl (xsub_cons rfl (xsub_cons rfl (xsub_cons rfl (xsub_nil))))
      · have hlt : i < ni := by
          rcases Nat.lt_or_ge i ni with q | q
          · exact q
          · exact absurd ((xle (by omega) (by omega)).mpr q) c20
        refine a_aload_n (i := 0) C dX6_balance_23 rfl rfl ?_
        refine a_get C dX6_balance_24 fl_X6_16 xC_0 rfl ?_
        refine a_iload (i := 4) C dX6_balance_27 rfl ?_
        refine a_callV C dX6_balance_29 cv_Jx4a65c_get_915e3 tb372 (m_Jx4a65c_get_915e3 hflags xC_2 (xC_l2 (by omega)) (by omega) (aCap_ge (by omega)) (Nat.lt_of_le_of_lt (aCap_le _) (by decide)) (xLr_lt (by omega))) rfl rfl xC_2 rfl (Nat.le_of_ble_eq_true rfl) ⟨Nat.le_of_ble_eq_true rfl, Nat.le_of_ble_eq_true rfl⟩ ⟨Nat.le_of_ble_eq_true rfl, Nat.le_of_ble_eq_true rfl⟩ (fun _ h => h.elim) xav_no (fun _ _ h => h.elim) (fun r29 hp29 hq29 => ?_)
        obtain ⟨rfl, rfl⟩ := hq29
        refine a_castS C dX6_balance_32 tb409 (xC_in (by omega) (by omega)) rfl rfl ?_
        refine a_astore (i := 5) C dX6_balance_35 (by decide) ?_
        refine a_aload (i := 5) C dX6_balance_37 rfl ?_
        refine a_get C dX6_balance_39 fl_X6_127 (xC_in (by omega) (by omega)) rfl ?_
        refine a_aload_n (i := 2) C dX6_balance_42 rfl rfl ?_
        refine a_acmp_ne (tgt := 54) C dX6_balance_43 (by decide) (xC_cu (xow_lt hO hc6 i hlt) hc6) (xC_cu hj hc6) (fun c43 => ?_) (fun c43 => ?_)
        · first
          | (refine a_loc [(0, .ref 0), (2, .ref (16 + j)), (3, .int (xsum (xopn f (nI j)) (i + 1))), (4, .int (nI i))] (by rw [xsum_t (show xopn f (nI j) i = f 13 i from if_pos ((own_iff hO hc6 hlt hj).mp c43))]; exact xsub_cons rfl (xsub_cons rfl (xsub_cons rfl (xsub_cons rfl (xsub_nil))))) ?_)
          | (refine a_loc [(0, .ref 0), (2, .ref (16 + j)), (3, .int (xsum (xopn f (nI j)) (i + 1))), (4, .int (nI i))] (by rw [xsum_0 (show xopn f (nI j) i = 0 from if_neg (fun z => c43 ((own_iff hO hc6 hlt hj).mpr z)))]; exact xsub_cons rfl (xsub_cons rfl (xsub_cons rfl (xsub_cons rfl (xsub_nil))))) ?_)
          refine a_iinc (i := 4) (v := nI (i + 1)) C dX6_balance_54 rfl (nI_1 i) (by decide) ?_
          refine a_goto (tgt := 11) C dX6_balance_57 (by decide) ?_
          refine a_loc _ ?_ (ih (i + 1) (by omega) (by omega))
          exact xsub_cons rfl (xsub_cons rfl (xsub_cons rfl (xsub_cons rfl (xsub_nil))))
        · refine a_iload_n (i := 3) C dX6_balance_46 rfl rfl ?_
          refine a_aload (i := 5) C dX6_balance_47 rfl ?_
          refine a_callV C dX6_balance_49 cv_X2_openAmount tb547 (m_X2_openAmount hflags hB hlt) rfl rfl (xC_in (by omega) (by omega)) rfl (Nat.le_of_ble_eq_true rfl) ⟨Nat.le_of_ble_eq_true rfl, Nat.le_of_ble_eq_true rfl⟩ ⟨Nat.le_of_ble_eq_true rfl, Nat.le_of_ble_eq_true rfl⟩ (fun _ h => h.elim) xav_no (fun _ _ h => h.elim) (fun r49 hp49 hq49 => ?_)
          obtain ⟨rfl, rfl⟩ := hq49
          refine a_iadd C dX6_balance_52 ?_
          refine a_istore_n (i := 3) C dX6_balance_53 rfl (by decide) ?_
          first
          | (refine a_loc [(0, .ref 0), (2, .ref (16 + j)), (3, .int (xsum (xopn f (nI j)) (i + 1))), (4, .int (nI i))] (by rw [xsum_t (show xopn f (nI j) i = f 13 i from if_pos ((own_iff hO hc6 hlt hj).mp c43))]; exact xsub_cons rfl (xsub_cons rfl (xsub_cons rfl (xsub_cons rfl (xsub_nil))))) ?_)
          | (refine a_loc [(0, .ref 0), (2, .ref (16 + j)), (3, .int (xsum (xopn f (nI j)) (i + 1))), (4, .int (nI i))] (by rw [xsum_0 (show xopn f (nI j) i = 0 from if_neg (fun z => c43 ((own_iff hO hc6 hlt hj).mpr z)))]; exact xsub_cons rfl (xsub_cons rfl (xsub_cons rfl (xsub_cons rfl (xsub_nil))))) ?_)
          refine a_iinc (i := 4) (v := nI (i + 1)) C dX6_balance_54 rfl (nI_1 i) (by decide) ?_
          refine a_goto (tgt := 11) C dX6_balance_57 (by decide) ?_
          refine a_loc _ ?_ (ih (i + 1) (by omega) (by omega))
          exact xsub_cons rfl (xsub_cons rfl (xsub_cons rfl (xsub_cons rfl (xsub_nil))))
  refine a_iconst (v := 0) C dX6_balance_6 (by decide) ?_
  refine a_istore_n (i := 3) C dX6_balance_7 rfl (by decide) ?_
  refine a_iconst (v := 0) C dX6_balance_8 (by decide) ?_
  refine a_istore (i := 4) C dX6_balance_9 (by decide) ?_
  refine a_loc _ ?_ (loop (ni + 1) 0 (Nat.zero_le _) (by omega))
  exact xsub_cons rfl (xsub_cons rfl (xsub_cons rfl (xsub_cons rfl (xsub_nil))))
