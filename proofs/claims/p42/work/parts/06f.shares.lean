theorem xmnL {x y : Int64} : (if y < x then y else x) = if x < y then x else y := by
  by_cases h1 : x < y
  · rw [if_pos h1, if_neg (Int64.not_lt.mpr (Int64.le_of_lt h1))]
  · rw [if_neg h1]
    by_cases h2 : y < x
    · rw [if_pos h2]
    · rw [if_neg h2]
      exact Int64.le_antisymm (Int64.not_lt.mp h2) (Int64.not_lt.mp h1)
theorem lCap_ge {c : Nat} (h : c ≤ 16000) : c ≤ lCap c := by
  unfold lCap
  by_cases h64 : c ≤ 64
  · rw [xleT h64]; exact h64
  rw [xleF (show 64 < c by omega)]
  by_cases h128 : c ≤ 128
  · rw [xleT h128]; exact h128
  rw [xleF (show 128 < c by omega)]
  by_cases h256 : c ≤ 256
  · rw [xleT h256]; exact h256
  rw [xleF (show 256 < c by omega)]
  by_cases h512 : c ≤ 512
  · rw [xleT h512]; exact h512
  rw [xleF (show 512 < c by omega)]
  by_cases h1024 : c ≤ 1024
  · rw [xleT h1024]; exact h1024
  rw [xleF (show 1024 < c by omega)]
  by_cases h2048 : c ≤ 2048
  · rw [xleT h2048]; exact h2048
  rw [xleF (show 2048 < c by omega)]
  by_cases h4096 : c ≤ 4096
  · rw [xleT h4096]; exact h4096
  rw [xleF (show 4096 < c by omega)]
  by_cases h8192 : c ≤ 8192
  · rw [xleT h8192]; exact h8192
  rw [xleF (show 8192 < c by omega)]
  show c ≤ 16384
  omega
theorem lCap_le (c : Nat) : lCap c ≤ 16384 := by
  unfold lCap
  cases Nat.ble c 64 <;> cases Nat.ble c 128 <;> cases Nat.ble c 256 <;> cases Nat.ble c 512 <;> cases Nat.ble c 1024 <;> cases Nat.ble c 2048 <;> cases Nat.ble c 4096 <;> cases Nat.ble c 8192 <;> decide
set_option maxRecDepth 100000 in
set_option maxHeartbeats 4000000 in
theorem m_X4_unspent {l : Launch} {N0 : Nat} {D : va_G} {dT : Nat → ClassId} (hflags : l.stackTraces = false) {h : xH} {nc ni np nl : Nat} {n : Nat → Int32} {f : Nat → Nat → Int32} {g : Nat → Nat → Int64} {jc : Nat → Nat → Int32} {jr : Nat → Int64} (hB : nc ≤ 6 ∧ ni ≤ 24 ∧ np ≤ 24 ∧ nl ≤ 16000) {p : Nat} (hpn : p < np) (hrv : ¬ f 21 p = 0 → f 20 p = 0)  : xMet l N0 D dT yX4_unspent cX4_unspent 1 (some FieldType.int) 0 0 0 [.ref (64 + p)] (xC h nc ni np nl (n 1) f g jc jr) xNo (fun r h' => r = some (.int (f 20 p)) ∧ h' = xC h nc ni np nl (n 1) f g jc jr) xNX := by
  refine xMet_of hflags (by decide +kernel) (fun _ _ h => h) (Nat.le_of_ble_eq_true rfl) ?_
  intro E C I hret hthr
  refine a_loc [(0, .ref (64 + p))] (xsub_cons rfl (xsub_nil)) ?_
  obtain ⟨hc6, hi24, hp24, hl16⟩ := id hB
  refine a_aload_n (i := 0) C dX4_unspent_0 rfl rfl ?_
  refine a_get C dX4_unspent_1 fl_X4_23 (xC_pa (by omega) (by omega)) rfl ?_
  refine a_if_eq (tgt := 11) C dX4_unspent_4 (by decide) (fun c4 => ?_) (fun c4 => ?_)
  · refine a_aload_n (i := 0) C dX4_unspent_11 rfl rfl ?_
    refine a_get C dX4_unspent_12 fl_X4_19 (xC_pa (by omega) (by omega)) rfl ?_
    refine a_aload_n (i := 0) C dX4_unspent_15 rfl rfl ?_
    refine a_get C dX4_unspent_16 fl_X4_27 (xC_pa (by omega) (by omega)) rfl ?_
    refine a_isub C dX4_unspent_19 ?_
    exact a_iret C dX4_unspent_20 (Nat.le_of_ble_eq_true rfl) (Nat.le_of_ble_eq_true rfl) (hret _ _ (by first | exact ⟨congrArg (fun z => some (Value.int z)) (hrv c4).symm, rfl⟩ | exact ⟨congrArg (fun z => some (Value.int z)) (by unfold xsp; rw [if_pos c4, xr_5]), rfl⟩))
  · refine a_iconst (v := 0) C dX4_unspent_7 (by decide) ?_
    refine a_goto (tgt := 20) C dX4_unspent_8 (by decide) ?_
    exact a_iret C dX4_unspent_20 (Nat.le_of_ble_eq_true rfl) (Nat.le_of_ble_eq_true rfl) (hret _ _ (by first | exact ⟨congrArg (fun z => some (Value.int z)) (hrv c4).symm, rfl⟩ | exact ⟨congrArg (fun z => some (Value.int z)) (by unfold xsp; rw [if_pos c4, xr_5]), rfl⟩))
set_option maxRecDepth 100000 in
set_option maxHeartbeats 4000000 in
theorem m_X4_spentOn {l : Launch} {N0 : Nat} {D : va_G} {dT : Nat → ClassId} (hflags : l.stackTraces = false) {h : xH} {nc ni np nl : Nat} {n : Nat → Int32} {f : Nat → Nat → Int32} {g : Nat → Nat → Int64} {jc : Nat → Nat → Int32} {jr : Nat → Int64} (hB : nc ≤ 6 ∧ ni ≤ 24 ∧ np ≤ 24 ∧ nl ≤ 16000) {p : Nat} (hpn : p < np) {i : Nat} (hi : i < 24)  : xMet l N0 D dT yX4_spentOn cX4_spentOn 2 (some FieldType.int) 0 0 0 [.ref (64 + p), .int (nI i)] (xC h nc ni np nl (n 1) f g jc jr) xNo (fun r h' => r = some (.int (f 22 (24 * p + i))) ∧ h' = xC h nc ni np nl (n 1) f g jc jr) xNX := by
  refine xMet_of hflags (by decide +kernel) (fun _ _ h => h) (Nat.le_of_ble_eq_true rfl) ?_
  intro E C I hret hthr
  refine a_loc [(0, .ref (64 + p)), (1, .int (nI i))] (xsub_cons rfl (xsub_cons rfl (xsub_nil))) ?_
  obtain ⟨hc6, hi24, hp24, hl16⟩ := id hB
  refine a_iload_n (i := 1) C dX4_spentOn_0 rfl rfl ?_
  refine a_if_lt (tgt := 13) C dX4_spentOn_1 (by decide) (fun c1 => ?_) (fun c1 => ?_)
  · exact absurd c1 (Int32.not_lt.mpr ((xle (a := 0) (by omega) (by omega)).mpr (Nat.zero_le i)))
  · refine a_iload_n (i := 1) C dX4_spentOn_4 rfl rfl ?_
    refine a_aload_n (i := 0) C dX4_spentOn_5 rfl rfl ?_
    refine a_get C dX4_spentOn_6 fl_X4_9 (xC_pa (by omega) (by omega)) rfl ?_
    refine a_alen C dX4_spentOn_9 (by decide) (xC_pr (by omega) (by omega)) ?_
    refine a_icmp_lt (tgt := 15) C dX4_spentOn_10 (by decide) (fun c10 => ?_) (fun c10 => ?_)
    · refine a_aload_n (i := 0) C dX4_spentOn_15 rfl rfl ?_
      refine a_get C dX4_spentOn_16 fl_X4_9 (xC_pa (by omega) (by omega)) rfl ?_
      refine a_iload_n (i := 1) C dX4_spentOn_19 rfl rfl ?_
      refine a_ialdV C (f 22 (24 * p + i)) dX4_spentOn_20 (xC_pr (by omega) (by omega)) ⟨by omega, by omega⟩ (xPr_lt hi) ?_
      exact a_iret C dX4_spentOn_21 (Nat.le_of_ble_eq_true rfl) (Nat.le_of_ble_eq_true rfl) (hret _ _ ⟨rfl, rfl⟩)
    · exact absurd ((nI_ltI (a := i) (b := 24) (by omega) (by omega)).mpr (by omega)) c10
set_option maxRecDepth 100000 in
set_option maxHeartbeats 4000000 in
theorem m_X4_spend {l : Launch} {N0 : Nat} {D : va_G} {dT : Nat → ClassId} (hflags : l.stackTraces = false) {h : xH} {nc ni np nl : Nat} {n : Nat → Int32} {f : Nat → Nat → Int32} {g : Nat → Nat → Int64} {jc : Nat → Nat → Int32} {jr : Nat → Int64} (hB : nc ≤ 6 ∧ ni ≤ 24 ∧ np ≤ 24 ∧ nl ≤ 16000) {p : Nat} (hpn : p < np) {i : Nat} {v : Int32} (hi : i < 24) (h21 : f 21 p = 0)  : xMet l N0 D dT yX4_spend cX4_spend 3 none 0 0 0 [.ref (64 + p), .int (nI i), .int v] (xC h nc ni np nl (n 1) f g jc jr) xNo (fun r h' => r = none ∧ h' = xC h nc ni np nl (n 1) (fup (fup f 22 (upd (f 22) (24 * p + i) (f 22 (24 * p + i) + v))) 20 (upd (f 20) p (f 20 p - v))) g jc jr) xNX := by
  refine xMet_of hflags (by decide +kernel) (fun _ _ h => h) (Nat.le_of_ble_eq_true rfl) ?_
  intro E C I hret hthr
  refine a_loc [(0, .ref (64 + p)), (1, .int (nI i)), (2, .int v)] (xsub_cons rfl (xsub_cons rfl (xsub_cons rfl (xsub_nil)))) ?_
  obtain ⟨hc6, hi24, hp24, hl16⟩ := id hB
  refine a_iload_n (i := 1) C dX4_spend_0 rfl rfl ?_
  refine a_if_lt (tgt := 33) C dX4_spend_1 (by decide) (fun c1 => ?_) (fun c1 => ?_)
  · exact absurd c1 (Int32.not_lt.mpr ((xle (a := 0) (by omega) (by omega)).mpr (Nat.zero_le i)))
  · refine a_iload_n (i := 1) C dX4_spend_4 rfl rfl ?_
    refine a_aload_n (i := 0) C dX4_spend_5 rfl rfl ?_
    refine a_get C dX4_spend_6 fl_X4_9 (xC_pa (by omega) (by omega)) rfl ?_
    refine a_alen C dX4_spend_9 (by decide) (xC_pr (by omega) (by omega)) ?_
    refine a_icmp_ge (tgt := 33) C dX4_spend_10 (by decide) (fun c10 => ?_) (fun c10 => ?_)
    · exact absurd ((xle (a := 24) (b := i) (by omega) (by omega)).mp c10) (by omega)
    · refine a_aload_n (i := 0) C dX4_spend_13 rfl rfl ?_
      refine a_get C dX4_spend_14 fl_X4_9 (xC_pa (by omega) (by omega)) rfl ?_
      refine a_iload_n (i := 1) C dX4_spend_17 rfl rfl ?_
      refine a_dup2 C dX4_spend_18 rfl rfl ?_
      refine a_ialdV C (f 22 (24 * p + i)) dX4_spend_19 (xC_pr (by omega) (by omega)) ⟨by omega, by omega⟩ (xPr_lt hi) ?_
      refine a_iload_n (i := 2) C dX4_spend_20 rfl rfl ?_
      refine a_iadd C dX4_spend_21 ?_
      refine a_iastI C dX4_spend_22 (xC_pr (by omega) (by omega)) ⟨by omega, by omega⟩ ?_
      refine a_hp (xCa_22 (by omega) (by omega) hi) ?_
      refine a_aload_n (i := 0) C dX4_spend_23 rfl rfl ?_
      refine a_dup C dX4_spend_24 rfl ?_
      refine a_get C dX4_spend_25 fl_X4_27 (xC_pa (by omega) (by omega)) rfl ?_
      refine a_iload_n (i := 2) C dX4_spend_28 rfl rfl ?_
      refine a_iadd C dX4_spend_29 ?_
      refine a_put C dX4_spend_30 fl_X4_27 (xC_pa (by omega) (by omega)) (Nat.le_of_ble_eq_true rfl) rfl rfl ?_
      refine a_hp (xCp_4 (by omega) (by omega) h21) ?_
      exact a_vret C dX4_spend_33 (Nat.le_of_ble_eq_true rfl) (Nat.le_of_ble_eq_true rfl) (hret _ _ ⟨rfl, rfl⟩)
set_option maxRecDepth 100000 in
set_option maxHeartbeats 4000000 in
theorem m_X5_reset {l : Launch} {N0 : Nat} {D : va_G} {dT : Nat → ClassId} (hflags : l.stackTraces = false) {h : xH} {nc ni np nl : Nat} {n : Nat → Int32} {f : Nat → Nat → Int32} {g : Nat → Nat → Int64} {jc : Nat → Nat → Int32} {jr : Nat → Int64} (hB : nc ≤ 6 ∧ ni ≤ 24 ∧ np ≤ 24 ∧ nl ≤ 16000)   : xMet l N0 D dT yX5_reset cX5_reset 1 none 2 0 0 [.ref 10] (xC h nc ni np nl (n 1) f g jc jr) xNo (fun r h' => r = none ∧ h' = xC h nc ni np nl (n 1) f g (fup (fup jc 3 (xpre (fun _ => 0) (jc 3) 24)) 4 (xpre (fun _ => 0) (jc 4) 24)) jr) xNX := by
  refine xMet_of hflags (by decide +kernel) (fun _ _ h => h) (Nat.le_of_ble_eq_true rfl) ?_
  intro E C I hret hthr
  refine a_loc [(0, .ref 10)] (xsub_cons rfl (xsub_nil)) ?_
  obtain ⟨hc6, hi24, hp24, hl16⟩ := id hB
  refine a_aload_n (i := 0) C dX5_reset_0 rfl rfl ?_
  refine a_get C dX5_reset_1 fl_X5_9 xC_10 rfl ?_
  refine a_iconst (v := 0) C dX5_reset_4 (by decide) ?_
  refine a_callS C dX5_reset_5 cs_J7_fill_53178 tb584 (m_J7_fill_53178 hflags xC_11 (by decide)) rfl rfl (Nat.le_of_ble_eq_true rfl) ⟨Nat.le_of_ble_eq_true rfl, Nat.le_of_ble_eq_true rfl⟩ ⟨Nat.le_of_ble_eq_true rfl, Nat.le_of_ble_eq_true rfl⟩ (fun _ h => h.elim) xav_no (fun _ _ h => h.elim) (fun r5 hp5 hq5 => ?_)
  obtain ⟨rfl, rfl⟩ := hq5
  refine a_hp xCs_11 ?_
  refine a_aload_n (i := 0) C dX5_reset_8 rfl rfl ?_
  refine a_get C dX5_reset_9 fl_X5_15 xC_10 rfl ?_
  refine a_iconst (v := 0) C dX5_reset_12 (by decide) ?_
  refine a_callS C dX5_reset_13 cs_J7_fill_53178 tb584 (m_J7_fill_53178 hflags xC_12 (by decide)) rfl rfl (Nat.le_of_ble_eq_true rfl) ⟨Nat.le_of_ble_eq_true rfl, Nat.le_of_ble_eq_true rfl⟩ ⟨Nat.le_of_ble_eq_true rfl, Nat.le_of_ble_eq_true rfl⟩ (fun _ h => h.elim) xav_no (fun _ _ h => h.elim) (fun r13 hp13 hq13 => ?_)
  obtain ⟨rfl, rfl⟩ := hq13
  refine a_hp xCs_12 ?_
  exact a_vret C dX5_reset_16 (Nat.le_of_ble_eq_true rfl) (Nat.le_of_ble_eq_true rfl) (hret _ _ ⟨rfl, rfl⟩)
set_option maxRecDepth 100000 in
set_option maxHeartbeats 4000000 in
theorem m_X5_has {l : Launch} {N0 : Nat} {D : va_G} {dT : Nat → ClassId} (hflags : l.stackTraces = false) {h : xH} {nc ni np nl : Nat} {n : Nat → Int32} {f : Nat → Nat → Int32} {g : Nat → Nat → Int64} {jc : Nat → Nat → Int32} {jr : Nat → Int64} (hB : nc ≤ 6 ∧ ni ≤ 24 ∧ np ≤ 24 ∧ nl ≤ 16000) {i : Nat} (hi : i < 24)  : xMet l N0 D dT yX5_has cX5_has 2 (some FieldType.boolean) 0 0 0 [.ref 10, .int (nI i)] (xC h nc ni np nl (n 1) f g jc jr) xNo (fun r h' => r = some (.int 1) ∧ h' = xC h nc ni np nl (n 1) f g jc jr) xNX := by
  refine xMet_of hflags (by decide +kernel) (fun _ _ h => h) (Nat.le_of_ble_eq_true rfl) ?_
  intro E C I hret hthr
  refine a_loc [(0, .ref 10), (1, .int (nI i))] (xsub_cons rfl (xsub_cons rfl (xsub_nil))) ?_
  obtain ⟨hc6, hi24, hp24, hl16⟩ := id hB
  refine a_iload_n (i := 1) C dX5_has_0 rfl rfl ?_
  refine a_if_lt (tgt := 35) C dX5_has_1 (by decide) (fun c1 => ?_) (fun c1 => ?_)
  · exact absurd c1 (Int32.not_lt.mpr ((xle (a := 0) (by omega) (by omega)).mpr (Nat.zero_le i)))
  · refine a_iload_n (i := 1) C dX5_has_4 rfl rfl ?_
    refine a_aload_n (i := 0) C dX5_has_5 rfl rfl ?_
    refine a_get C dX5_has_6 fl_X5_9 xC_10 rfl ?_
    refine a_alen C dX5_has_9 (by decide) xC_11 ?_
    refine a_icmp_ge (tgt := 35) C dX5_has_10 (by decide) (fun c10 => ?_) (fun c10 => ?_)
    · exact absurd ((xle (a := 24) (b := i) (by omega) (by omega)).mp c10) (by omega)
    · refine a_iload_n (i := 1) C dX5_has_13 rfl rfl ?_
      refine a_aload_n (i := 0) C dX5_has_14 rfl rfl ?_
      refine a_get C dX5_has_15 fl_X5_15 xC_10 rfl ?_
      refine a_alen C dX5_has_18 (by decide) xC_12 ?_
      refine a_icmp_ge (tgt := 35) C dX5_has_19 (by decide) (fun c19 => ?_) (fun c19 => ?_)
      · exact absurd ((xle (a := 24) (b := i) (by omega) (by omega)).mp c19) (by omega)
      · refine a_iload_n (i := 1) C dX5_has_22 rfl rfl ?_
        refine a_aload_n (i := 0) C dX5_has_23 rfl rfl ?_
        refine a_get C dX5_has_24 fl_X5_18 xC_10 rfl ?_
        refine a_alen C dX5_has_27 (by decide) xC_13 ?_
        refine a_icmp_ge (tgt := 35) C dX5_has_28 (by decide) (fun c28 => ?_) (fun c28 => ?_)
        · exact absurd ((xle (a := 24) (b := i) (by omega) (by omega)).mp c28) (by omega)
        · refine a_iconst (v := 1) C dX5_has_31 (by decide) ?_
          refine a_goto (tgt := 36) C dX5_has_32 (by decide) ?_
          exact a_zret C dX5_has_36 (by first | rfl | exact bI_nar) (Nat.le_of_ble_eq_true rfl) (Nat.le_of_ble_eq_true rfl) (hret _ _ ⟨rfl, rfl⟩)
set_option maxRecDepth 100000 in
set_option maxHeartbeats 4000000 in
theorem m_X5_has0 {l : Launch} {N0 : Nat} {D : va_G} {dT : Nat → ClassId} (hflags : l.stackTraces = false) {h : xH} {nc ni np nl : Nat} {n : Nat → Int32} {f : Nat → Nat → Int32} {g : Nat → Nat → Int64} {jc : Nat → Nat → Int32} {jr : Nat → Int64} (hB : nc ≤ 6 ∧ ni ≤ 24 ∧ np ≤ 24 ∧ nl ≤ 16000)   : xMet l N0 D dT yX5_has cX5_has 2 (some FieldType.boolean) 0 0 0 [.ref 10, .int (-1)] (xC h nc ni np nl (n 1) f g jc jr) xNo (fun r h' => r = some (.int 0) ∧ h' = xC h nc ni np nl (n 1) f g jc jr) xNX := by
  refine xMet_of hflags (by decide +kernel) (fun _ _ h => h) (Nat.le_of_ble_eq_true rfl) ?_
  intro E C I hret hthr
  refine a_loc [(0, .ref 10), (1, .int (-1))] (xsub_cons rfl (xsub_cons rfl (xsub_nil))) ?_
  obtain ⟨hc6, hi24, hp24, hl16⟩ := id hB
  refine a_iload_n (i := 1) C dX5_has_0 rfl rfl ?_
  refine a_if_lt (tgt := 35) C dX5_has_1 (by decide) (fun c1 => ?_) (fun c1 => ?_)
  · refine a_iconst (v := 0) C dX5_has_35 (by decide) ?_
    exact a_zret C dX5_has_36 (by first | rfl | exact bI_nar) (Nat.le_of_ble_eq_true rfl) (Nat.le_of_ble_eq_true rfl) (hret _ _ ⟨rfl, rfl⟩)
  · exact absurd (by decide) c1
set_option maxRecDepth 100000 in
set_option maxHeartbeats 4000000 in
theorem m_X5_setWeight {l : Launch} {N0 : Nat} {D : va_G} {dT : Nat → ClassId} (hflags : l.stackTraces = false) {h : xH} {nc ni np nl : Nat} {n : Nat → Int32} {f : Nat → Nat → Int32} {g : Nat → Nat → Int64} {jc : Nat → Nat → Int32} {jr : Nat → Int64} (hB : nc ≤ 6 ∧ ni ≤ 24 ∧ np ≤ 24 ∧ nl ≤ 16000) {i : Nat} (hi : i < 24) {v : Int32}  : xMet l N0 D dT yX5_setWeight cX5_setWeight 3 none 1 0 0 [.ref 10, .int (nI i), .int v] (xC h nc ni np nl (n 1) f g jc jr) xNo (fun r h' => r = none ∧ h' = xC h nc ni np nl (n 1) f g (fup jc 3 (upd (jc 3) i v)) jr) xNX := by
  refine xMet_of hflags (by decide +kernel) (fun _ _ h => h) (Nat.le_of_ble_eq_true rfl) ?_
  intro E C I hret hthr
  refine a_loc [(0, .ref 10), (1, .int (nI i)), (2, .int v)] (xsub_cons rfl (xsub_cons rfl (xsub_cons rfl (xsub_nil)))) ?_
  obtain ⟨hc6, hi24, hp24, hl16⟩ := id hB
  refine a_aload_n (i := 0) C dX5_setWeight_0 rfl rfl ?_
  refine a_iload_n (i := 1) C dX5_setWeight_1 rfl rfl ?_
  refine a_callV C dX5_setWeight_2 cv_X5_has tb592 (m_X5_has hflags hB hi) rfl rfl xC_10 rfl (Nat.le_of_ble_eq_true rfl) ⟨Nat.le_of_ble_eq_true rfl, Nat.le_of_ble_eq_true rfl⟩ ⟨Nat.le_of_ble_eq_true rfl, Nat.le_of_ble_eq_true rfl⟩ (fun _ h => h.elim) xav_no (fun _ _ h => h.elim) (fun r2 hp2 hq2 => ?_)
  obtain ⟨rfl, rfl⟩ := hq2
  refine a_if_eq (tgt := 15) C dX5_setWeight_5 (by decide) (fun z => absurd z (by decide)) (fun _ => ?_)
  refine a_aload_n (i := 0) C dX5_setWeight_8 rfl rfl ?_
  refine a_get C dX5_setWeight_9 fl_X5_9 xC_10 rfl ?_
  refine a_iload_n (i := 1) C dX5_setWeight_12 rfl rfl ?_
  refine a_iload_n (i := 2) C dX5_setWeight_13 rfl rfl ?_
  refine a_iastI C dX5_setWeight_14 xC_11 ⟨by omega, by omega⟩ ?_
  refine a_hp xCs_11 ?_
  exact a_vret C dX5_setWeight_15 (Nat.le_of_ble_eq_true rfl) (Nat.le_of_ble_eq_true rfl) (hret _ _ ⟨rfl, rfl⟩)
set_option maxRecDepth 100000 in
set_option maxHeartbeats 4000000 in
theorem m_X5_partOf {l : Launch} {N0 : Nat} {D : va_G} {dT : Nat → ClassId} (hflags : l.stackTraces = false) {h : xH} {nc ni np nl : Nat} {n : Nat → Int32} {f : Nat → Nat → Int32} {g : Nat → Nat → Int64} {jc : Nat → Nat → Int32} {jr : Nat → Int64} (hB : nc ≤ 6 ∧ ni ≤ 24 ∧ np ≤ 24 ∧ nl ≤ 16000) {i : Nat} (hi : i < 24)  : xMet l N0 D dT yX5_partOf cX5_partOf 2 (some FieldType.int) 1 0 0 [.ref 10, .int (nI i)] (xC h nc ni np nl (n 1) f g jc jr) xNo (fun r h' => r = some (.int (jc 4 i)) ∧ h' = xC h nc ni np nl (n 1) f g jc jr) xNX := by
  refine xMet_of hflags (by decide +kernel) (fun _ _ h => h) (Nat.le_of_ble_eq_true rfl) ?_
  intro E C I hret hthr
  refine a_loc [(0, .ref 10), (1, .int (nI i))] (xsub_cons rfl (xsub_cons rfl (xsub_nil))) ?_
  obtain ⟨hc6, hi24, hp24, hl16⟩ := id hB
  refine a_aload_n (i := 0) C dX5_partOf_0 rfl rfl ?_
  refine a_iload_n (i := 1) C dX5_partOf_1 rfl rfl ?_
  refine a_callV C dX5_partOf_2 cv_X5_has tb592 (m_X5_has hflags hB hi) rfl rfl xC_10 rfl (Nat.le_of_ble_eq_true rfl) ⟨Nat.le_of_ble_eq_true rfl, Nat.le_of_ble_eq_true rfl⟩ ⟨Nat.le_of_ble_eq_true rfl, Nat.le_of_ble_eq_true rfl⟩ (fun _ h => h.elim) xav_no (fun _ _ h => h.elim) (fun r2 hp2 hq2 => ?_)
  obtain ⟨rfl, rfl⟩ := hq2
  refine a_if_eq (tgt := 17) C dX5_partOf_5 (by decide) (fun z => absurd z (by decide)) (fun _ => ?_)
  refine a_aload_n (i := 0) C dX5_partOf_8 rfl rfl ?_
  refine a_get C dX5_partOf_9 fl_X5_15 xC_10 rfl ?_
  refine a_iload_n (i := 1) C dX5_partOf_12 rfl rfl ?_
  refine a_ialdI C dX5_partOf_13 xC_12 ⟨by omega, by omega⟩ ?_
  refine a_goto (tgt := 18) C dX5_partOf_14 (by decide) ?_
  exact a_iret C dX5_partOf_18 (Nat.le_of_ble_eq_true rfl) (Nat.le_of_ble_eq_true rfl) (hret _ _ ⟨rfl, rfl⟩)
set_option maxRecDepth 100000 in
set_option maxHeartbeats 4000000 in
theorem m_X5_wantsPart {l : Launch} {N0 : Nat} {D : va_G} {dT : Nat → ClassId} (hflags : l.stackTraces = false) {h : xH} {nc ni np nl : Nat} {n : Nat → Int32} {f : Nat → Nat → Int32} {g : Nat → Nat → Int64} {jc : Nat → Nat → Int32} {jr : Nat → Int64} (hB : nc ≤ 6 ∧ ni ≤ 24 ∧ np ≤ 24 ∧ nl ≤ 16000) {i : Nat} (hi : i < 24)  : xMet l N0 D dT yX5_wantsPart cX5_wantsPart 2 (some FieldType.boolean) 1 0 0 [.ref 10, .int (nI i)] (xC h nc ni np nl (n 1) f g jc jr) xNo (fun r h' => r = some (.int (bI (0 < jc 3 i ∧ jc 4 i = 0))) ∧ h' = xC h nc ni np nl (n 1) f g jc jr) xNX := by
  refine xMet_of hflags (by decide +kernel) (fun _ _ h => h) (Nat.le_of_ble_eq_true rfl) ?_
  intro E C I hret hthr
  refine a_loc [(0, .ref 10), (1, .int (nI i))] (xsub_cons rfl (xsub_cons rfl (xsub_nil))) ?_
  obtain ⟨hc6, hi24, hp24, hl16⟩ := id hB
  refine a_aload_n (i := 0) C dX5_wantsPart_0 rfl rfl ?_
  refine a_iload_n (i := 1) C dX5_wantsPart_1 rfl rfl ?_
  refine a_callV C dX5_wantsPart_2 cv_X5_has tb592 (m_X5_has hflags hB hi) rfl rfl xC_10 rfl (Nat.le_of_ble_eq_true rfl) ⟨Nat.le_of_ble_eq_true rfl, Nat.le_of_ble_eq_true rfl⟩ ⟨Nat.le_of_ble_eq_true rfl, Nat.le_of_ble_eq_true rfl⟩ (fun _ h => h.elim) xav_no (fun _ _ h => h.elim) (fun r2 hp2 hq2 => ?_)
  obtain ⟨rfl, rfl⟩ := hq2
  refine a_if_eq (tgt := 30) C dX5_wantsPart_5 (by decide) (fun z => absurd z (by decide)) (fun _ => ?_)
  refine a_aload_n (i := 0) C dX5_wantsPart_8 rfl rfl ?_
  refine a_get C dX5_wantsPart_9 fl_X5_9 xC_10 rfl ?_
  refine a_iload_n (i := 1) C dX5_wantsPart_12 rfl rfl ?_
  refine a_ialdI C dX5_wantsPart_13 xC_11 ⟨by omega, by omega⟩ ?_
  refine a_if_le (tgt := 30) C dX5_wantsPart_14 (by decide) (fun c14 => ?_) (fun c14 => ?_)
  · refine a_iconst (v := 0) C dX5_wantsPart_30 (by decide) ?_
    exact a_zret C dX5_wantsPart_31 (by first | rfl | exact bI_nar) (Nat.le_of_ble_eq_true rfl) (Nat.le_of_ble_eq_true rfl) (hret _ _ ⟨congrArg (fun z => some (Value.int z)) (by clear hret hthr I C; first | exact (bI_t (by grind)).symm | exact (bI_f (by grind)).symm), rfl⟩)
  · refine a_aload_n (i := 0) C dX5_wantsPart_17 rfl rfl ?_
    refine a_get C dX5_wantsPart_18 fl_X5_15 xC_10 rfl ?_
    refine a_iload_n (i := 1) C dX5_wantsPart_21 rfl rfl ?_
    refine a_ialdI C dX5_wantsPart_22 xC_12 ⟨by omega, by omega⟩ ?_
    refine a_if_ne (tgt := 30) C dX5_wantsPart_23 (by decide) (fun c23 => ?_) (fun c23 => ?_)
    · refine a_iconst (v := 0) C dX5_wantsPart_30 (by decide) ?_
      exact a_zret C dX5_wantsPart_31 (by first | rfl | exact bI_nar) (Nat.le_of_ble_eq_true rfl) (Nat.le_of_ble_eq_true rfl) (hret _ _ ⟨congrArg (fun z => some (Value.int z)) (by clear hret hthr I C; first | exact (bI_t (by grind)).symm | exact (bI_f (by grind)).symm), rfl⟩)
    · refine a_iconst (v := 1) C dX5_wantsPart_26 (by decide) ?_
      refine a_goto (tgt := 31) C dX5_wantsPart_27 (by decide) ?_
      exact a_zret C dX5_wantsPart_31 (by first | rfl | exact bI_nar) (Nat.le_of_ble_eq_true rfl) (Nat.le_of_ble_eq_true rfl) (hret _ _ ⟨congrArg (fun z => some (Value.int z)) (by clear hret hthr I C; first | exact (bI_t (by grind)).symm | exact (bI_f (by grind)).symm), rfl⟩)
set_option maxRecDepth 100000 in
set_option maxHeartbeats 4000000 in
theorem m_X5_fill {l : Launch} {N0 : Nat} {D : va_G} {dT : Nat → ClassId} (hflags : l.stackTraces = false) {h : xH} {nc ni np nl : Nat} {n : Nat → Int32} {f : Nat → Nat → Int32} {g : Nat → Nat → Int64} {jc : Nat → Nat → Int32} {jr : Nat → Int64} (hB : nc ≤ 6 ∧ ni ≤ 24 ∧ np ≤ 24 ∧ nl ≤ 16000) {i : Nat} (hi : i < 24) {w : Int32}  : xMet l N0 D dT yX5_fill cX5_fill 3 (some FieldType.int) 1 0 0 [.ref 10, .int (nI i), .int w] (xC h nc ni np nl (n 1) f g jc jr) xNo (fun r h' => r = some (.int (if w < jc 3 i then w else jc 3 i)) ∧ h' = xC h nc ni np nl (n 1) f g (fup jc 4 (upd (jc 4) i (if w < jc 3 i then w else jc 3 i))) jr) xNX := by
  refine xMet_of hflags (by decide +kernel) (fun _ _ h => h) (Nat.le_of_ble_eq_true rfl) ?_
  intro E C I hret hthr
  refine a_loc [(0, .ref 10), (1, .int (nI i)), (2, .int w)] (xsub_cons rfl (xsub_cons rfl (xsub_cons rfl (xsub_nil)))) ?_
  obtain ⟨hc6, hi24, hp24, hl16⟩ := id hB
  refine a_aload_n (i := 0) C dX5_fill_0 rfl rfl ?_
  refine a_iload_n (i := 1) C dX5_fill_1 rfl rfl ?_
  refine a_callV C dX5_fill_2 cv_X5_has tb592 (m_X5_has hflags hB hi) rfl rfl xC_10 rfl (Nat.le_of_ble_eq_true rfl) ⟨Nat.le_of_ble_eq_true rfl, Nat.le_of_ble_eq_true rfl⟩ ⟨Nat.le_of_ble_eq_true rfl, Nat.le_of_ble_eq_true rfl⟩ (fun _ h => h.elim) xav_no (fun _ _ h => h.elim) (fun r2 hp2 hq2 => ?_)
  obtain ⟨rfl, rfl⟩ := hq2
  refine a_if_ne (tgt := 10) C dX5_fill_5 (by decide) (fun _ => ?_) (fun z => absurd z (by decide))
  refine a_aload_n (i := 0) C dX5_fill_10 rfl rfl ?_
  refine a_get C dX5_fill_11 fl_X5_15 xC_10 rfl ?_
  refine a_iload_n (i := 1) C dX5_fill_14 rfl rfl ?_
  refine a_aload_n (i := 0) C dX5_fill_15 rfl rfl ?_
  refine a_get C dX5_fill_16 fl_X5_9 xC_10 rfl ?_
  refine a_iload_n (i := 1) C dX5_fill_19 rfl rfl ?_
  refine a_ialdI C dX5_fill_20 xC_11 ⟨by omega, by omega⟩ ?_
  refine a_iload_n (i := 2) C dX5_fill_21 rfl rfl ?_
  refine a_min C dX5_fill_22 tb612 tb332 tb37 tb333 (Nat.le_of_ble_eq_true rfl) (Nat.le_of_ble_eq_true rfl) (Nat.le_of_ble_eq_true rfl) (Nat.le_of_ble_eq_true rfl) (Nat.le_of_ble_eq_true rfl) ?_
  refine a_iastI C dX5_fill_25 xC_12 ⟨by omega, by omega⟩ ?_
  refine a_hp xCs_12 ?_
  refine a_aload_n (i := 0) C dX5_fill_26 rfl rfl ?_
  refine a_get C dX5_fill_27 fl_X5_15 xC_10 rfl ?_
  refine a_iload_n (i := 1) C dX5_fill_30 rfl rfl ?_
  refine a_ialdV C ((if w < jc 3 i then w else jc 3 i)) dX5_fill_31 xC_12 ⟨by omega, by omega⟩ xupd_i ?_
  exact a_iret C dX5_fill_32 (Nat.le_of_ble_eq_true rfl) (Nat.le_of_ble_eq_true rfl) (hret _ _ ⟨rfl, rfl⟩)
def xwl (jc : Nat → Nat → Int32) : Nat → Int64 := fun j => (jc 3 j).toInt64
set_option maxRecDepth 100000 in
set_option maxHeartbeats 4000000 in
theorem m_X5_sumOfWeights {l : Launch} {N0 : Nat} {D : va_G} {dT : Nat → ClassId} (hflags : l.stackTraces = false) {h : xH} {nc ni np nl : Nat} {n : Nat → Int32} {f : Nat → Nat → Int32} {g : Nat → Nat → Int64} {jc : Nat → Nat → Int32} {jr : Nat → Int64} (hB : nc ≤ 6 ∧ ni ≤ 24 ∧ np ≤ 24 ∧ nl ≤ 16000)   : xMet l N0 D dT yX5_sumOfWeights cX5_sumOfWeights 4 (some FieldType.long) 0 0 0 [.ref 10] (xC h nc ni np nl (n 1) f g jc jr) xNo (fun r h' => r = some (.long (xsumL (xwl jc) 24)) ∧ h' = xC h nc ni np nl (n 1) f g jc jr) xNX := by
  refine xMet_of hflags (by decide +kernel) (fun _ _ h => h) (Nat.le_of_ble_eq_true rfl) ?_
  intro E C I hret hthr
  refine a_loc [(0, .ref 10)] (xsub_cons rfl (xsub_nil)) ?_
  obtain ⟨hc6, hi24, hp24, hl16⟩ := id hB
  have loop : ∀ (k i : Nat), i ≤ 24 → 24 < i + k → aW E 0 0 (xC h nc ni np nl (n 1) f g jc jr) 4 [(0, .ref 10), (1, .long (xsumL (xwl jc) i)), (3, .int (nI i))] [] := by
    intro k
    induction k with
    | zero => intro i h1 h2; exact absurd h2 (by omega)
    | succ k ih =>
      intro i h1 h2
      refine a_iload_n (i := 3) C dX5_sumOfWeights_4 rfl rfl ?_
      refine a_aload_n (i := 0) C dX5_sumOfWeights_5 rfl rfl ?_
      refine a_get C dX5_sumOfWeights_6 fl_X5_9 xC_10 rfl ?_
      refine a_alen C dX5_sumOfWeights_9 (by decide) xC_11 ?_
      refine a_icmp_ge (tgt := 29) C dX5_sumOfWeights_10 (by decide) (fun c10 => ?_) (fun c10 => ?_)
      · have hie : i = 24 := by
          have := (xle (by omega) (by omega)).mp c10
          omega
        rw [hie]
        refine a_lload_n (i := 1) C dX5_sumOfWeights_29 rfl rfl ?_
        exact a_lret C dX5_sumOfWeights_30 (Nat.le_of_ble_eq_true rfl) (Nat.le_of_ble_eq_true rfl) (hret _ _ ⟨rfl, rfl⟩)
      · have hlt : i < 24 := by
          rcases Nat.lt_or_ge i 24 with q | q
          · exact q
          · exact absurd ((xle (by omega) (by omega)).mpr q) c10
        refine a_lload_n (i := 1) C dX5_sumOfWeights_13 rfl rfl ?_
        refine a_aload_n (i := 0) C dX5_sumOfWeights_14 rfl rfl ?_
        refine a_get C dX5_sumOfWeights_15 fl_X5_9 xC_10 rfl ?_
        refine a_iload_n (i := 3) C dX5_sumOfWeights_18 rfl rfl ?_
        refine a_ialdI C dX5_sumOfWeights_19 xC_11 ⟨by omega, by omega⟩ ?_
        refine a_i2l C dX5_sumOfWeights_20 ?_
        refine a_ladd C dX5_sumOfWeights_21 ?_
        refine a_topl (xsumL (xwl jc) (i + 1)) rfl ?_
        refine a_lstore_n (i := 1) C dX5_sumOfWeights_22 rfl (by decide) ?_
        refine a_iinc (i := 3) (v := nI (i + 1)) C dX5_sumOfWeights_23 rfl (nI_1 i) (by decide) ?_
        refine a_goto (tgt := 4) C dX5_sumOfWeights_26 (by decide) ?_
        refine a_loc _ ?_ (ih (i + 1) (by omega) (by omega))
        exact xsub_cons rfl (xsub_cons rfl (xsub_cons rfl (xsub_nil)))
  refine a_lconst (v := 0) C dX5_sumOfWeights_0 (by decide) ?_
  refine a_lstore_n (i := 1) C dX5_sumOfWeights_1 rfl (by decide) ?_
  refine a_iconst (v := 0) C dX5_sumOfWeights_2 (by decide) ?_
  refine a_istore_n (i := 3) C dX5_sumOfWeights_3 rfl (by decide) ?_
  refine a_loc _ ?_ (loop (24 + 1) 0 (Nat.zero_le _) (by omega))
  exact xsub_cons rfl (xsub_cons rfl (xsub_cons rfl (xsub_nil)))
def cgr (R : Nat → Int64) : Nat → Int32 × Int64
  | 0 => (-1, 0)
  | k + 1 => if (cgr R k).2 < R k then (nI k, R k) else cgr R k
theorem cgr_s {R : Nat → Int64} {k : Nat} : cgr R (k + 1) = if (cgr R k).2 < R k then (nI k, R k) else cgr R k := rfl
theorem cgr_rng (R : Nat → Int64) : ∀ i, (cgr R i).1 = -1 ∨ ∃ j, j < i ∧ (cgr R i).1 = nI j := by
  intro i
  induction i with
  | zero => exact Or.inl rfl
  | succ i ih =>
    rw [cgr_s]
    split
    · exact Or.inr ⟨i, Nat.lt_succ_self i, rfl⟩
    · rcases ih with h | ⟨j, h1, h2⟩
      · exact Or.inl h
      · exact Or.inr ⟨j, Nat.lt_succ_of_lt h1, h2⟩
def cst (S : Nat → Int32) (R : Nat → Int64) : (Nat → Int32) × (Nat → Int64) := if (cgr R 24).1 = -1 then (S, R) else (upd S (cgr R 24).1.toNatClampNeg (S (cgr R 24).1.toNatClampNeg + 1), vp_updL R (cgr R 24).1.toNatClampNeg 0)
def cgive (S : Nat → Int32) (R : Nat → Int64) : Nat → (Nat → Int32) × (Nat → Int64)
  | 0 => (S, R)
  | k + 1 => cst (cgive S R k).1 (cgive S R k).2
def cs0 (jc : Nat → Nat → Int32) (a : Int32) : Nat → Int32 := fun j => (a.toInt64 * (jc 3 j).toInt64 / xsumL (xwl jc) 24).toInt32
def cr0 (jc : Nat → Nat → Int32) (a : Int32) : Nat → Int64 := fun j => a.toInt64 * (jc 3 j).toInt64 - a.toInt64 * (jc 3 j).toInt64 / xsumL (xwl jc) 24 * xsumL (xwl jc) 24
def cspl (jc : Nat → Nat → Int32) (jr : Nat → Int64) (a : Int32) : (Nat → Int32) × (Nat → Int64) := if xsumL (xwl jc) 24 ≤ 0 then (jc 4, jr) else cgive (xpre (cs0 jc a) (jc 4) 24) (xpreL (cr0 jc a) jr 24) (xsubt a (cs0 jc a) 24).toNatClampNeg
set_option maxRecDepth 100000 in
set_option maxHeartbeats 4000000 in
theorem m_X5_giveCentToGreatestRemainder {l : Launch} {N0 : Nat} {D : va_G} {dT : Nat → ClassId} (hflags : l.stackTraces = false) {h : xH} {nc ni np nl : Nat} {n : Nat → Int32} {f : Nat → Nat → Int32} {g : Nat → Nat → Int64} {jc : Nat → Nat → Int32} {jr : Nat → Int64} (hB : nc ≤ 6 ∧ ni ≤ 24 ∧ np ≤ 24 ∧ nl ≤ 16000)   : xMet l N0 D dT yX5_giveCentToGreatestRemainder cX5_giveCentToGreatestRemainder 5 none 1 0 0 [.ref 10] (xC h nc ni np nl (n 1) f g jc jr) xNo (fun r h' => r = none ∧ h' = xC h nc ni np nl (n 1) f g (fup jc 4 (cst (jc 4) jr).1) (cst (jc 4) jr).2) xNX := by
  refine xMet_of hflags (by decide +kernel) (fun _ _ h => h) (Nat.le_of_ble_eq_true rfl) ?_
  intro E C I hret hthr
  refine a_loc [(0, .ref 10)] (xsub_cons rfl (xsub_nil)) ?_
  obtain ⟨hc6, hi24, hp24, hl16⟩ := id hB
  have loop : ∀ (k i : Nat), i ≤ 24 → 24 < i + k → aW E 0 0 (xC h nc ni np nl (n 1) f g jc jr) 7 [(0, .ref 10), (1, .int (cgr jr i).1), (2, .long (cgr jr i).2), (4, .int (nI i))] [] := by
    intro k
    induction k with
    | zero => intro i h1 h2; exact absurd h2 (by omega)
    | succ k ih =>
      intro i h1 h2
      refine a_iload (i := 4) C dX5_giveCentToGreatestRemainder_7 rfl ?_
      refine a_aload_n (i := 0) C dX5_giveCentToGreatestRemainder_9 rfl rfl ?_
      refine a_get C dX5_giveCentToGreatestRemainder_10 fl_X5_18 xC_10 rfl ?_
      refine a_alen C dX5_giveCentToGreatestRemainder_13 (by decide) xC_13 ?_
      refine a_icmp_ge (tgt := 46) C dX5_giveCentToGreatestRemainder_14 (by decide) (fun c14 => ?_) (fun c14 => ?_)
      · have hie : i = 24 := by
          have := (xle (by omega) (by omega)).mp c14
          omega
        rw [hie]
        rcases cgr_rng jr 24 with hne | ⟨q, hq, eq⟩
        · have hcs : cst (jc 4) jr = (jc 4, jr) := if_pos hne
          rw [hne]
          refine a_aload_n (i := 0) C dX5_giveCentToGreatestRemainder_46 rfl rfl ?_
          refine a_iload_n (i := 1) C dX5_giveCentToGreatestRemainder_47 rfl rfl ?_
          refine a_callV C dX5_giveCentToGreatestRemainder_48 cv_X5_has tb592 (m_X5_has0 hflags hB) rfl rfl xC_10 rfl (Nat.le_of_ble_eq_true rfl) ⟨Nat.le_of_ble_eq_true rfl, Nat.le_of_ble_eq_true rfl⟩ ⟨Nat.le_of_ble_eq_true rfl, Nat.le_of_ble_eq_true rfl⟩ (fun _ h => h.elim) xav_no (fun _ _ h => h.elim) (fun r48 hp48 hq48 => ?_)
          obtain ⟨rfl, rfl⟩ := hq48
          refine a_if_eq (tgt := 71) C dX5_giveCentToGreatestRemainder_51 (by decide) (fun _ => ?_) (fun z => absurd (by decide) z)
          exact a_vret C dX5_giveCentToGreatestRemainder_71 (Nat.le_of_ble_eq_true rfl) (Nat.le_of_ble_eq_true rfl) (hret _ _ ⟨rfl, by first | (rw [hcs]; done) | (rw [hcs, fup_id]; done)⟩)
        · have hne : ¬ (cgr jr 24).1 = -1 := fun z => by
            rw [eq] at z
            exact absurd (congrArg Int32.toInt z) (by rw [nI_toInt (by omega)]; show ¬ (q : Int) = -1; omega)
          have hcs : cst (jc 4) jr = (upd (jc 4) q (jc 4 q + 1), vp_updL jr q 0) := by
            unfold cst
            rw [if_neg hne, eq, nI_clamp (by omega)]
          rw [eq]
          refine a_aload_n (i := 0) C dX5_giveCentToGreatestRemainder_46 rfl rfl ?_
          refine a_iload_n (i := 1) C dX5_giveCentToGreatestRemainder_47 rfl rfl ?_
          refine a_callV C dX5_giveCentToGreatestRemainder_48 cv_X5_has tb592 (m_X5_has hflags hB hq) rfl rfl xC_10 rfl (Nat.le_of_ble_eq_true rfl) ⟨Nat.le_of_ble_eq_true rfl, Nat.le_of_ble_eq_true rfl⟩ ⟨Nat.le_of_ble_eq_true rfl, Nat.le_of_ble_eq_true rfl⟩ (fun _ h => h.elim) xav_no (fun _ _ h => h.elim) (fun r48 hp48 hq48 => ?_)
          obtain ⟨rfl, rfl⟩ := hq48
          refine a_if_eq (tgt := 71) C dX5_giveCentToGreatestRemainder_51 (by decide) (fun z => absurd z (by decide)) (fun _ => ?_)
          refine a_aload_n (i := 0) C dX5_giveCentToGreatestRemainder_54 rfl rfl ?_
          refine a_get C dX5_giveCentToGreatestRemainder_55 fl_X5_15 xC_10 rfl ?_
          refine a_iload_n (i := 1) C dX5_giveCentToGreatestRemainder_58 rfl rfl ?_
          refine a_dup2 C dX5_giveCentToGreatestRemainder_59 rfl rfl ?_
          refine a_ialdI C dX5_giveCentToGreatestRemainder_60 xC_12 ⟨by omega, by omega⟩ ?_
          refine a_iconst (v := 1) C dX5_giveCentToGreatestRemainder_61 (by decide) ?_
          refine a_iadd C dX5_giveCentToGreatestRemainder_62 ?_
          refine a_iastI C dX5_giveCentToGreatestRemainder_63 xC_12 ⟨by omega, by omega⟩ ?_
          refine a_hp xCs_12 ?_
          refine a_aload_n (i := 0) C dX5_giveCentToGreatestRemainder_64 rfl rfl ?_
          refine a_get C dX5_giveCentToGreatestRemainder_65 fl_X5_18 xC_10 rfl ?_
          refine a_iload_n (i := 1) C dX5_giveCentToGreatestRemainder_68 rfl rfl ?_
          refine a_lconst (v := 0) C dX5_giveCentToGreatestRemainder_69 (by decide) ?_
          refine a_lastI C dX5_giveCentToGreatestRemainder_70 xC_13 ⟨by omega, by omega⟩ ?_
          refine a_hp xCs_13 ?_
          exact a_vret C dX5_giveCentToGreatestRemainder_71 (Nat.le_of_ble_eq_true rfl) (Nat.le_of_ble_eq_true rfl) (hret _ _ ⟨rfl, by first | (rw [hcs]; done) | (rw [hcs, fup_id]; done)⟩)
      · have hlt : i < 24 := by
          rcases Nat.lt_or_ge i 24 with q | q
          · exact q
          · exact absurd ((xle (by omega) (by omega)).mpr q) c14
        refine a_aload_n (i := 0) C dX5_giveCentToGreatestRemainder_17 rfl rfl ?_
        refine a_get C dX5_giveCentToGreatestRemainder_18 fl_X5_18 xC_10 rfl ?_
        refine a_iload (i := 4) C dX5_giveCentToGreatestRemainder_21 rfl ?_
        refine a_laldI C dX5_giveCentToGreatestRemainder_23 xC_13 ⟨by omega, by omega⟩ ?_
        refine a_lload_n (i := 2) C dX5_giveCentToGreatestRemainder_24 rfl rfl ?_
        refine a_lcmp C dX5_giveCentToGreatestRemainder_25 ?_
        refine a_if_le (tgt := 40) C dX5_giveCentToGreatestRemainder_26 (by decide) (fun c26 => ?_) (fun c26 => ?_)
        · first
          | (refine a_loc [(0, .ref 10), (1, .int (cgr jr (i + 1)).1), (2, .long (cgr jr (i + 1)).2), (4, .int (nI i))] (by rw [cgr_s, if_pos (lcmp_gt.mp (Int32.not_le.mp c26))]; exact xsub_cons rfl (xsub_cons rfl (xsub_cons rfl (xsub_cons rfl xsub_nil)))) ?_)
          | (refine a_loc [(0, .ref 10), (1, .int (cgr jr (i + 1)).1), (2, .long (cgr jr (i + 1)).2), (4, .int (nI i))] (by rw [cgr_s, if_neg (lcmp_le.mp c26)]; exact xsub_cons rfl (xsub_cons rfl (xsub_cons rfl (xsub_cons rfl xsub_nil)))) ?_)
          refine a_iinc (i := 4) (v := nI (i + 1)) C dX5_giveCentToGreatestRemainder_40 rfl (nI_1 i) (by decide) ?_
          refine a_goto (tgt := 7) C dX5_giveCentToGreatestRemainder_43 (by decide) ?_
          refine a_loc _ ?_ (ih (i + 1) (by omega) (by omega))
          exact xsub_cons rfl (xsub_cons rfl (xsub_cons rfl (xsub_cons rfl (xsub_nil))))
        · refine a_iload (i := 4) C dX5_giveCentToGreatestRemainder_29 rfl ?_
          refine a_istore_n (i := 1) C dX5_giveCentToGreatestRemainder_31 rfl (by decide) ?_
          refine a_aload_n (i := 0) C dX5_giveCentToGreatestRemainder_32 rfl rfl ?_
          refine a_get C dX5_giveCentToGreatestRemainder_33 fl_X5_18 xC_10 rfl ?_
          refine a_iload (i := 4) C dX5_giveCentToGreatestRemainder_36 rfl ?_
          refine a_laldI C dX5_giveCentToGreatestRemainder_38 xC_13 ⟨by omega, by omega⟩ ?_
          refine a_lstore_n (i := 2) C dX5_giveCentToGreatestRemainder_39 rfl (by decide) ?_
          first
          | (refine a_loc [(0, .ref 10), (1, .int (cgr jr (i + 1)).1), (2, .long (cgr jr (i + 1)).2), (4, .int (nI i))] (by rw [cgr_s, if_pos (lcmp_gt.mp (Int32.not_le.mp c26))]; exact xsub_cons rfl (xsub_cons rfl (xsub_cons rfl (xsub_cons rfl xsub_nil)))) ?_)
          | (refine a_loc [(0, .ref 10), (1, .int (cgr jr (i + 1)).1), (2, .long (cgr jr (i + 1)).2), (4, .int (nI i))] (by rw [cgr_s, if_neg (lcmp_le.mp c26)]; exact xsub_cons rfl (xsub_cons rfl (xsub_cons rfl (xsub_cons rfl xsub_nil)))) ?_)
          refine a_iinc (i := 4) (v := nI (i + 1)) C dX5_giveCentToGreatestRemainder_40 rfl (nI_1 i) (by decide) ?_
          refine a_goto (tgt := 7) C dX5_giveCentToGreatestRemainder_43 (by decide) ?_
          refine a_loc _ ?_ (ih (i + 1) (by omega) (by omega))
          exact xsub_cons rfl (xsub_cons rfl (xsub_cons rfl (xsub_cons rfl (xsub_nil))))
  refine a_iconst (v := (-1)) C dX5_giveCentToGreatestRemainder_0 (by decide) ?_
  refine a_istore_n (i := 1) C dX5_giveCentToGreatestRemainder_1 rfl (by decide) ?_
  refine a_lconst (v := 0) C dX5_giveCentToGreatestRemainder_2 (by decide) ?_
  refine a_lstore_n (i := 2) C dX5_giveCentToGreatestRemainder_3 rfl (by decide) ?_
  refine a_iconst (v := 0) C dX5_giveCentToGreatestRemainder_4 (by decide) ?_
  refine a_istore (i := 4) C dX5_giveCentToGreatestRemainder_5 (by decide) ?_
  refine a_loc _ ?_ (loop (24 + 1) 0 (Nat.zero_le _) (by omega))
  exact xsub_cons rfl (xsub_cons rfl (xsub_cons rfl (xsub_cons rfl (xsub_nil))))
theorem xcl_b (w : Int32) : w.toNatClampNeg < 2 ^ 31 := by
  show w.toInt.toNat < 2 ^ 31
  have := Int32.toInt_lt w
  omega
theorem xclq {w : Int32} {i : Nat} (hi : i < 2 ^ 31) (h : w.toNatClampNeg ≤ i) : w ≤ nI i := by
  rw [Int32.le_iff_toInt_le, nI_toInt hi]
  have h2 : w.toInt.toNat ≤ i := h
  omega
theorem xclr_ge {w : Int32} {i : Nat} (hi : i < 2 ^ 31) (h : w ≤ nI i) : w.toNatClampNeg ≤ i := by
  rw [Int32.le_iff_toInt_le, nI_toInt hi] at h
  show w.toInt.toNat ≤ i
  omega
set_option maxRecDepth 100000 in
set_option maxHeartbeats 4000000 in
theorem m_X5_splitInProportion {l : Launch} {N0 : Nat} {D : va_G} {dT : Nat → ClassId} (hflags : l.stackTraces = false) {h : xH} {nc ni np nl : Nat} {n : Nat → Int32} {f : Nat → Nat → Int32} {g : Nat → Nat → Int64} {jc : Nat → Nat → Int32} {jr : Nat → Int64} (hB : nc ≤ 6 ∧ ni ≤ 24 ∧ np ≤ 24 ∧ nl ≤ 16000) {a : Int32}  : xMet l N0 D dT yX5_splitInProportion cX5_splitInProportion 8 none 2 0 0 [.ref 10, .int a] (xC h nc ni np nl (n 1) f g jc jr) xNo (fun r h' => r = none ∧ h' = xC h nc ni np nl (n 1) f g (fup jc 4 (cspl jc jr a).1) (cspl jc jr a).2) xNX := by
  refine xMet_of hflags (by decide +kernel) (fun _ _ h => h) (Nat.le_of_ble_eq_true rfl) ?_
  intro E C I hret hthr
  refine a_loc [(0, .ref 10), (1, .int a)] (xsub_cons rfl (xsub_cons rfl (xsub_nil))) ?_
  obtain ⟨hc6, hi24, hp24, hl16⟩ := id hB
  refine a_aload_n (i := 0) C dX5_splitInProportion_0 rfl rfl ?_
  refine a_callV C dX5_splitInProportion_1 cv_X5_sumOfWeights tb617 (m_X5_sumOfWeights hflags hB) rfl rfl xC_10 rfl (Nat.le_of_ble_eq_true rfl) ⟨Nat.le_of_ble_eq_true rfl, Nat.le_of_ble_eq_true rfl⟩ ⟨Nat.le_of_ble_eq_true rfl, Nat.le_of_ble_eq_true rfl⟩ (fun _ h => h.elim) xav_no (fun _ _ h => h.elim) (fun r1 hp1 hq1 => ?_)
  obtain ⟨rfl, rfl⟩ := hq1
  refine a_lstore_n (i := 2) C dX5_splitInProportion_4 rfl (by decide) ?_
  refine a_lload_n (i := 2) C dX5_splitInProportion_5 rfl rfl ?_
  refine a_lconst (v := 0) C dX5_splitInProportion_6 (by decide) ?_
  refine a_lcmp C dX5_splitInProportion_7 ?_
  refine a_if_gt (tgt := 12) C dX5_splitInProportion_8 (by decide) (fun c8 => ?_) (fun c8 => ?_)
  · have hA : ¬ (xsumL (xwl jc) 24) ≤ 0 := Int64.not_le.mpr (lcmp_gt.mp c8)
    have hA0 : ¬ (xsumL (xwl jc) 24) = 0 := fun z => hA (by rw [z]; decide)
    have loop : ∀ (k i : Nat), i ≤ 24 → 24 < i + k → aW E 0 0 (xC h nc ni np nl (n 1) f g (fup jc 4 (xpre (cs0 jc a) (jc 4) i)) (xpreL (cr0 jc a) jr i)) 18 [(0, .ref 10), (1, .int a), (2, .long (xsumL (xwl jc) 24)), (4, .int (xsubt a (cs0 jc a) i)), (5, .int (nI i))] [] := by
      intro k
      induction k with
      | zero => intro i h1 h2; exact absurd h2 (by omega)
      | succ k ih =>
        intro i h1 h2
        refine a_iload (i := 5) C dX5_splitInProportion_18 rfl ?_
        refine a_bipush (v := 24) C dX5_splitInProportion_20 (by decide) ?_
        refine a_top (nI 24) (by decide) ?_
        refine a_icmp_ge (tgt := 88) C dX5_splitInProportion_22 (by decide) (fun c22 => ?_) (fun c22 => ?_)
        · have hie : i = 24 := by
            have := (xle (by omega) (by omega)).mp c22
            omega
          rw [hie]
          generalize hleft : xsubt a (cs0 jc a) 24 = left
          obtain ⟨q, hqd⟩ : ∃ q, q = left.toNatClampNeg := ⟨_, rfl⟩
          have hqb : q < 2 ^ 31 := by rw [hqd]; exact xcl_b left
          have loop2 : ∀ (k i : Nat), i ≤ q → q < i + k → aW E 0 0 (xC h nc ni np nl (n 1) f g (fup jc 4 (cgive (xpre (cs0 jc a) (jc 4) 24) (xpreL (cr0 jc a) jr 24) i).1) (cgive (xpre (cs0 jc a) (jc 4) 24) (xpreL (cr0 jc a) jr 24) i).2) 91 [(0, .ref 10), (4, .int left), (5, .int (nI i))] [] := by
            intro k
            induction k with
            | zero => intro i h1 h2; exact absurd h2 (by omega)
            | succ k ih =>
              intro i h1 h2
              refine a_iload (i := 5) C dX5_splitInProportion_91 rfl ?_
              refine a_iload (i := 4) C dX5_splitInProportion_93 rfl ?_
              refine a_icmp_ge (tgt := 108) C dX5_splitInProportion_95 (by decide) (fun c95 => ?_) (fun c95 => ?_)
              · have hie : i = q := by
                  have := xclr_ge (i := i) (by omega) c95
                  omega
                rw [hie]
                exact a_vret C dX5_splitInProportion_108 (Nat.le_of_ble_eq_true rfl) (Nat.le_of_ble_eq_true rfl) (hret _ _ ⟨rfl, by unfold cspl; rw [if_neg hA, hleft, ← hqd]⟩)
              · have hlt : i < q := by
                  rcases Nat.lt_or_ge i q with z | z
                  · exact z
                  · exact absurd (xclq (by omega) (by rw [← hqd]; exact z)) c95
                refine a_aload_n (i := 0) C dX5_splitInProportion_98 rfl rfl ?_
                refine a_callV C dX5_splitInProportion_99 cv_X5_giveCentToGreatestRemainder tb628 (m_X5_giveCentToGreatestRemainder hflags hB) rfl rfl xC_10 rfl (Nat.le_of_ble_eq_true rfl) ⟨Nat.le_of_ble_eq_true rfl, Nat.le_of_ble_eq_true rfl⟩ ⟨Nat.le_of_ble_eq_true rfl, Nat.le_of_ble_eq_true rfl⟩ (fun _ h => h.elim) xav_no (fun _ _ h => h.elim) (fun r99 hp99 hq99 => ?_)
                obtain ⟨rfl, rfl⟩ := hq99
                refine a_iinc (i := 5) (v := nI (i + 1)) C dX5_splitInProportion_102 rfl (nI_1 i) (by decide) ?_
                refine a_goto (tgt := 91) C dX5_splitInProportion_105 (by decide) ?_
                refine a_loc _ ?_ (ih (i + 1) (by omega) (by omega))
                exact xsub_cons rfl (xsub_cons rfl (xsub_cons rfl (xsub_nil)))
          refine a_iconst (v := 0) C dX5_splitInProportion_88 (by decide) ?_
          refine a_istore (i := 5) C dX5_splitInProportion_89 (by decide) ?_
          refine a_hp (show _ = xC h nc ni np nl (n 1) f g (fup jc 4 (cgive (xpre (cs0 jc a) (jc 4) 24) (xpreL (cr0 jc a) jr 24) 0).1) (cgive (xpre (cs0 jc a) (jc 4) 24) (xpreL (cr0 jc a) jr 24) 0).2 by rfl) ?_
          refine a_loc _ ?_ (loop2 (q + 1) 0 (Nat.zero_le _) (by omega))
          exact xsub_cons rfl (xsub_cons rfl (xsub_cons rfl (xsub_nil)))
        · have hlt : i < 24 := by
            rcases Nat.lt_or_ge i 24 with q | q
            · exact q
            · exact absurd ((xle (by omega) (by omega)).mpr q) c22
          refine a_aload_n (i := 0) C dX5_splitInProportion_25 rfl rfl ?_
          refine a_iload (i := 5) C dX5_splitInProportion_26 rfl ?_
          refine a_callV C dX5_splitInProportion_28 cv_X5_has tb592 (m_X5_has hflags hB hlt) rfl rfl xC_10 rfl (Nat.le_of_ble_eq_true rfl) ⟨Nat.le_of_ble_eq_true rfl, Nat.le_of_ble_eq_true rfl⟩ ⟨Nat.le_of_ble_eq_true rfl, Nat.le_of_ble_eq_true rfl⟩ (fun _ h => h.elim) xav_no (fun _ _ h => h.elim) (fun r28 hp28 hq28 => ?_)
          obtain ⟨rfl, rfl⟩ := hq28
          refine a_if_eq (tgt := 88) C dX5_splitInProportion_31 (by decide) (fun z => absurd z (by decide)) (fun _ => ?_)
          refine a_iload_n (i := 1) C dX5_splitInProportion_34 rfl rfl ?_
          refine a_i2l C dX5_splitInProportion_35 ?_
          refine a_aload_n (i := 0) C dX5_splitInProportion_36 rfl rfl ?_
          refine a_get C dX5_splitInProportion_37 fl_X5_9 xC_10 rfl ?_
          refine a_iload (i := 5) C dX5_splitInProportion_40 rfl ?_
          refine a_ialdI C dX5_splitInProportion_42 xC_11 ⟨by omega, by omega⟩ ?_
          refine a_i2l C dX5_splitInProportion_43 ?_
          refine a_lmul C dX5_splitInProportion_44 ?_
          refine a_lstore (i := 6) C dX5_splitInProportion_45 (by decide) ?_
          refine a_aload_n (i := 0) C dX5_splitInProportion_47 rfl rfl ?_
          refine a_get C dX5_splitInProportion_48 fl_X5_15 xC_10 rfl ?_
          refine a_iload (i := 5) C dX5_splitInProportion_51 rfl ?_
          refine a_lload (i := 6) C dX5_splitInProportion_53 rfl ?_
          refine a_lload_n (i := 2) C dX5_splitInProportion_55 rfl rfl ?_
          refine a_ldiv C dX5_splitInProportion_56 hA0 ?_
          refine a_l2i C dX5_splitInProportion_57 ?_
          refine a_iastI C dX5_splitInProportion_58 xC_12 ⟨by omega, by omega⟩ ?_
          refine a_hp xCs_12 ?_
          refine a_hp (show _ = xC h nc ni np nl (n 1) f g (fup jc 4 (xpre (cs0 jc a) (jc 4) (i + 1))) (xpreL (cr0 jc a) jr i) by rw [fup_ff]; exact congrArg (fun z => xC h nc ni np nl (n 1) f g (fup jc 4 z) _) xpre_s) ?_
          refine a_aload_n (i := 0) C dX5_splitInProportion_59 rfl rfl ?_
          refine a_get C dX5_splitInProportion_60 fl_X5_18 xC_10 rfl ?_
          refine a_iload (i := 5) C dX5_splitInProportion_63 rfl ?_
          refine a_lload (i := 6) C dX5_splitInProportion_65 rfl ?_
          refine a_lload_n (i := 2) C dX5_splitInProportion_67 rfl rfl ?_
          refine a_lrem C dX5_splitInProportion_68 hA0 ?_
          refine a_lastI C dX5_splitInProportion_69 xC_13 ⟨by omega, by omega⟩ ?_
          refine a_hp xCs_13 ?_
          refine a_hp (show _ = xC h nc ni np nl (n 1) f g (fup jc 4 (xpre (cs0 jc a) (jc 4) (i + 1))) (xpreL (cr0 jc a) jr (i + 1)) by exact congrArg (fun z => xC h nc ni np nl (n 1) f g _ z) xpreL_s) ?_
          refine a_iload (i := 4) C dX5_splitInProportion_70 rfl ?_
          refine a_aload_n (i := 0) C dX5_splitInProportion_72 rfl rfl ?_
          refine a_get C dX5_splitInProportion_73 fl_X5_15 xC_10 rfl ?_
          refine a_iload (i := 5) C dX5_splitInProportion_76 rfl ?_
          refine a_ialdV C (cs0 jc a i) dX5_splitInProportion_78 xC_12 ⟨by omega, by omega⟩ (xpre_lt (Nat.lt_succ_self i)) ?_
          refine a_isub C dX5_splitInProportion_79 ?_
          refine a_istore (i := 4) C dX5_splitInProportion_80 (by decide) ?_
          refine a_iinc (i := 5) (v := nI (i + 1)) C dX5_splitInProportion_82 rfl (nI_1 i) (by decide) ?_
          refine a_goto (tgt := 18) C dX5_splitInProportion_85 (by decide) ?_
          refine a_loc _ ?_ (ih (i + 1) (by omega) (by omega))
          exact xsub_cons rfl (xsub_cons rfl (xsub_cons rfl (xsub_cons rfl (xsub_cons rfl (xsub_nil)))))
    refine a_iload_n (i := 1) C dX5_splitInProportion_12 rfl rfl ?_
    refine a_istore (i := 4) C dX5_splitInProportion_13 (by decide) ?_
    refine a_iconst (v := 0) C dX5_splitInProportion_15 (by decide) ?_
    refine a_istore (i := 5) C dX5_splitInProportion_16 (by decide) ?_
    refine a_hp (show _ = xC h nc ni np nl (n 1) f g (fup jc 4 (xpre (cs0 jc a) (jc 4) 0)) (xpreL (cr0 jc a) jr 0) by rw [xpre_0, xpreL_0, fup_id]) ?_
    refine a_loc _ ?_ (loop (24 + 1) 0 (Nat.zero_le _) (by omega))
    exact xsub_cons rfl (xsub_cons rfl (xsub_cons rfl (xsub_cons rfl (xsub_cons rfl (xsub_nil)))))
  · exact a_vret C dX5_splitInProportion_11 (Nat.le_of_ble_eq_true rfl) (Nat.le_of_ble_eq_true rfl) (hret _ _ ⟨rfl, by unfold cspl; rw [if_pos (Int64.not_lt.mp (fun z => c8 (lcmp_gt.mpr z))), fup_id]⟩)
set_option maxRecDepth 100000 in
set_option maxHeartbeats 4000000 in
theorem m_X5_splitUpToWeights {l : Launch} {N0 : Nat} {D : va_G} {dT : Nat → ClassId} (hflags : l.stackTraces = false) {h : xH} {nc ni np nl : Nat} {n : Nat → Int32} {f : Nat → Nat → Int32} {g : Nat → Nat → Int64} {jc : Nat → Nat → Int32} {jr : Nat → Int64} (hB : nc ≤ 6 ∧ ni ≤ 24 ∧ np ≤ 24 ∧ nl ≤ 16000) {a : Int32}  : xMet l N0 D dT yX5_splitUpToWeights cX5_splitUpToWeights 2 none 3 0 0 [.ref 10, .int a] (xC h nc ni np nl (n 1) f g jc jr) xNo (fun r h' => r = none ∧ h' = xC h nc ni np nl (n 1) f g (fup jc 4 (cspl jc jr (xgets a (xsumL (xwl jc) 24))).1) (cspl jc jr (xgets a (xsumL (xwl jc) 24))).2) xNX := by
  refine xMet_of hflags (by decide +kernel) (fun _ _ h => h) (Nat.le_of_ble_eq_true rfl) ?_
  intro E C I hret hthr
  refine a_loc [(0, .ref 10), (1, .int a)] (xsub_cons rfl (xsub_cons rfl (xsub_nil))) ?_
  obtain ⟨hc6, hi24, hp24, hl16⟩ := id hB
  refine a_aload_n (i := 0) C dX5_splitUpToWeights_0 rfl rfl ?_
  refine a_iload_n (i := 1) C dX5_splitUpToWeights_1 rfl rfl ?_
  refine a_i2l C dX5_splitUpToWeights_2 ?_
  refine a_aload_n (i := 0) C dX5_splitUpToWeights_3 rfl rfl ?_
  refine a_callV C dX5_splitUpToWeights_4 cv_X5_sumOfWeights tb617 (m_X5_sumOfWeights hflags hB) rfl rfl xC_10 rfl (Nat.le_of_ble_eq_true rfl) ⟨Nat.le_of_ble_eq_true rfl, Nat.le_of_ble_eq_true rfl⟩ ⟨Nat.le_of_ble_eq_true rfl, Nat.le_of_ble_eq_true rfl⟩ (fun _ h => h.elim) xav_no (fun _ _ h => h.elim) (fun r4 hp4 hq4 => ?_)
  obtain ⟨rfl, rfl⟩ := hq4
  refine a_minL C dX5_splitUpToWeights_7 tb621 tb622 tb37 tb623 (Nat.le_of_ble_eq_true rfl) (Nat.le_of_ble_eq_true rfl) (Nat.le_of_ble_eq_true rfl) (Nat.le_of_ble_eq_true rfl) (Nat.le_of_ble_eq_true rfl) ?_
  refine a_topl (if a.toInt64 < xsumL (xwl jc) 24 then a.toInt64 else xsumL (xwl jc) 24) xmnL ?_
  refine a_l2i C dX5_splitUpToWeights_10 ?_
  refine a_top (xgets a (xsumL (xwl jc) 24)) rfl ?_
  refine a_callV C dX5_splitUpToWeights_11 cv_X5_splitInProportion tb624 (m_X5_splitInProportion hflags hB) rfl rfl xC_10 rfl (Nat.le_of_ble_eq_true rfl) ⟨Nat.le_of_ble_eq_true rfl, Nat.le_of_ble_eq_true rfl⟩ ⟨Nat.le_of_ble_eq_true rfl, Nat.le_of_ble_eq_true rfl⟩ (fun _ h => h.elim) xav_no (fun _ _ h => h.elim) (fun r11 hp11 hq11 => ?_)
  obtain ⟨rfl, rfl⟩ := hq11
  exact a_vret C dX5_splitUpToWeights_14 (Nat.le_of_ble_eq_true rfl) (Nat.le_of_ble_eq_true rfl) (hret _ _ ⟨rfl, rfl⟩)
set_option maxRecDepth 100000 in
set_option maxHeartbeats 4000000 in
theorem m_X3_invoiceIn {l : Launch} {N0 : Nat} {D : va_G} {dT : Nat → ClassId} (hflags : l.stackTraces = false) {h : xH} {nc ni np nl : Nat} {n : Nat → Int32} {f : Nat → Nat → Int32} {g : Nat → Nat → Int64} {jc : Nat → Nat → Int32} {jr : Nat → Int64} (hB : nc ≤ 6 ∧ ni ≤ 24 ∧ np ≤ 24 ∧ nl ≤ 16000) {i : Nat} (hi : i < nl)  : xMet l N0 D dT yX3_invoiceIn cX3_invoiceIn 2 (some FieldType.int) 0 0 0 [.ref 7, .int (nI i)] (xC h nc ni np nl (n 1) f g jc jr) xNo (fun r h' => r = some (.int (f 23 i)) ∧ h' = xC h nc ni np nl (n 1) f g jc jr) xNX := by
  refine xMet_of hflags (by decide +kernel) (fun _ _ h => h) (Nat.le_of_ble_eq_true rfl) ?_
  intro E C I hret hthr
  refine a_loc [(0, .ref 7), (1, .int (nI i))] (xsub_cons rfl (xsub_cons rfl (xsub_nil))) ?_
  obtain ⟨hc6, hi24, hp24, hl16⟩ := id hB
  have hlc := lCap_ge hl16
  have hlc2 := lCap_le nl
  refine a_iload_n (i := 1) C dX3_invoiceIn_0 rfl rfl ?_
  refine a_if_lt (tgt := 22) C dX3_invoiceIn_1 (by decide) (fun c1 => ?_) (fun c1 => ?_)
  · exact absurd c1 (Int32.not_lt.mpr ((xle (a := 0) (by omega) (by omega)).mpr (Nat.zero_le i)))
  · refine a_iload_n (i := 1) C dX3_invoiceIn_4 rfl rfl ?_
    refine a_aload_n (i := 0) C dX3_invoiceIn_5 rfl rfl ?_
    refine a_get C dX3_invoiceIn_6 fl_X3_9 xC_7 rfl ?_
    refine a_alen C dX3_invoiceIn_9 (by decide) xC_d1 ?_
    refine a_icmp_ge (tgt := 22) C dX3_invoiceIn_10 (by decide) (fun c10 => ?_) (fun c10 => ?_)
    · exact absurd ((xle (a := lCap nl) (b := i) (by omega) (by omega)).mp c10) (by omega)
    · refine a_aload_n (i := 0) C dX3_invoiceIn_13 rfl rfl ?_
      refine a_get C dX3_invoiceIn_14 fl_X3_9 xC_7 rfl ?_
      refine a_iload_n (i := 1) C dX3_invoiceIn_17 rfl rfl ?_
      refine a_ialdV C (f 23 i) dX3_invoiceIn_18 xC_d1 ⟨by omega, by omega⟩ (xDr_lt hi) ?_
      refine a_goto (tgt := 23) C dX3_invoiceIn_19 (by decide) ?_
      exact a_iret C dX3_invoiceIn_23 (Nat.le_of_ble_eq_true rfl) (Nat.le_of_ble_eq_true rfl) (hret _ _ ⟨rfl, rfl⟩)
set_option maxRecDepth 100000 in
set_option maxHeartbeats 4000000 in
theorem m_X3_amountIn {l : Launch} {N0 : Nat} {D : va_G} {dT : Nat → ClassId} (hflags : l.stackTraces = false) {h : xH} {nc ni np nl : Nat} {n : Nat → Int32} {f : Nat → Nat → Int32} {g : Nat → Nat → Int64} {jc : Nat → Nat → Int32} {jr : Nat → Int64} (hB : nc ≤ 6 ∧ ni ≤ 24 ∧ np ≤ 24 ∧ nl ≤ 16000) {i : Nat} (hi : i < nl)  : xMet l N0 D dT yX3_amountIn cX3_amountIn 2 (some FieldType.int) 0 0 0 [.ref 7, .int (nI i)] (xC h nc ni np nl (n 1) f g jc jr) xNo (fun r h' => r = some (.int (f 24 i)) ∧ h' = xC h nc ni np nl (n 1) f g jc jr) xNX := by
  refine xMet_of hflags (by decide +kernel) (fun _ _ h => h) (Nat.le_of_ble_eq_true rfl) ?_
  intro E C I hret hthr
  refine a_loc [(0, .ref 7), (1, .int (nI i))] (xsub_cons rfl (xsub_cons rfl (xsub_nil))) ?_
  obtain ⟨hc6, hi24, hp24, hl16⟩ := id hB
  have hlc := lCap_ge hl16
  have hlc2 := lCap_le nl
  refine a_iload_n (i := 1) C dX3_amountIn_0 rfl rfl ?_
  refine a_if_lt (tgt := 22) C dX3_amountIn_1 (by decide) (fun c1 => ?_) (fun c1 => ?_)
  · exact absurd c1 (Int32.not_lt.mpr ((xle (a := 0) (by omega) (by omega)).mpr (Nat.zero_le i)))
  · refine a_iload_n (i := 1) C dX3_amountIn_4 rfl rfl ?_
    refine a_aload_n (i := 0) C dX3_amountIn_5 rfl rfl ?_
    refine a_get C dX3_amountIn_6 fl_X3_13 xC_7 rfl ?_
    refine a_alen C dX3_amountIn_9 (by decide) xC_d2 ?_
    refine a_icmp_ge (tgt := 22) C dX3_amountIn_10 (by decide) (fun c10 => ?_) (fun c10 => ?_)
    · exact absurd ((xle (a := lCap nl) (b := i) (by omega) (by omega)).mp c10) (by omega)
    · refine a_aload_n (i := 0) C dX3_amountIn_13 rfl rfl ?_
      refine a_get C dX3_amountIn_14 fl_X3_13 xC_7 rfl ?_
      refine a_iload_n (i := 1) C dX3_amountIn_17 rfl rfl ?_
      refine a_ialdV C (f 24 i) dX3_amountIn_18 xC_d2 ⟨by omega, by omega⟩ (xDr_lt hi) ?_
      refine a_goto (tgt := 23) C dX3_amountIn_19 (by decide) ?_
      exact a_iret C dX3_amountIn_23 (Nat.le_of_ble_eq_true rfl) (Nat.le_of_ble_eq_true rfl) (hret _ _ ⟨rfl, rfl⟩)
set_option maxRecDepth 100000 in
set_option maxHeartbeats 4000000 in
theorem m_X3_sumOf {l : Launch} {N0 : Nat} {D : va_G} {dT : Nat → ClassId} (hflags : l.stackTraces = false) {h : xH} {nc ni np nl : Nat} {n : Nat → Int32} {f : Nat → Nat → Int32} {g : Nat → Nat → Int64} {jc : Nat → Nat → Int32} {jr : Nat → Int64} (hB : nc ≤ 6 ∧ ni ≤ 24 ∧ np ≤ 24 ∧ nl ≤ 16000) {w : Int32}  : xMet l N0 D dT yX3_sumOf cX3_sumOf 4 (some FieldType.int) 1 0 0 [.ref 7, .int w] (xC h nc ni np nl (n 1) f g jc jr) xNo (fun r h' => r = some (.int (xsum (xlin f w) nl)) ∧ h' = xC h nc ni np nl (n 1) f g jc jr) xNX := by
  refine xMet_of hflags (by decide +kernel) (fun _ _ h => h) (Nat.le_of_ble_eq_true rfl) ?_
  intro E C I hret hthr
  refine a_loc [(0, .ref 7), (1, .int w)] (xsub_cons rfl (xsub_cons rfl (xsub_nil))) ?_
  obtain ⟨hc6, hi24, hp24, hl16⟩ := id hB
  have loop : ∀ (k i : Nat), i ≤ nl → nl < i + k → aW E 0 0 (xC h nc ni np nl (n 1) f g jc jr) 4 [(0, .ref 7), (1, .int w), (2, .int (xsum (xlin f w) i)), (3, .int (nI i))] [] := by
    intro k
    induction k with
    | zero => intro i h1 h2; exact absurd h2 (by omega)
    | succ k ih =>
      intro i h1 h2
      refine a_iload_n (i := 3) C dX3_sumOf_4 rfl rfl ?_
      refine a_aload_n (i := 0) C dX3_sumOf_5 rfl rfl ?_
      refine a_get C dX3_sumOf_6 fl_X3_16 xC_7 rfl ?_
      refine a_icmp_ge (tgt := 35) C dX3_sumOf_9 (by decide) (fun c9 => ?_) (fun c9 => ?_)
      · have hie : i = nl := by
          have := (xle (by omega) (by omega)).mp c9
          omega
        rw [hie]
        refine a_iload_n (i := 2) C dX3_sumOf_35 rfl rfl ?_
        exact a_iret C dX3_sumOf_36 (Nat.le_of_ble_eq_true rfl) (Nat.le_of_ble_eq_true rfl) (hret _ _ ⟨rfl, rfl⟩)
      · have hlt : i < nl := by
          rcases Nat.lt_or_ge i nl with q | q
          · exact q
          · exact absurd ((xle (by omega) (by omega)).mpr q) c9
        refine a_aload_n (i := 0) C dX3_sumOf_12 rfl rfl ?_
        refine a_iload_n (i := 3) C dX3_sumOf_13 rfl rfl ?_
        refine a_callV C dX3_sumOf_14 cv_X3_invoiceIn tb897 (m_X3_invoiceIn hflags hB hlt) rfl rfl xC_7 rfl (Nat.le_of_ble_eq_true rfl) ⟨Nat.le_of_ble_eq_true rfl, Nat.le_of_ble_eq_true rfl⟩ ⟨Nat.le_of_ble_eq_true rfl, Nat.le_of_ble_eq_true rfl⟩ (fun _ h => h.elim) xav_no (fun _ _ h => h.elim) (fun r14 hp14 hq14 => ?_)
        obtain ⟨rfl, rfl⟩ := hq14
        refine a_iload_n (i := 1) C dX3_sumOf_17 rfl rfl ?_
        refine a_icmp_ne (tgt := 29) C dX3_sumOf_18 (by decide) (fun c18 => ?_) (fun c18 => ?_)
        · refine a_loc [(0, .ref 7), (1, .int w), (2, .int (xsum (xlin f w) (i + 1))), (3, .int (nI i))] (by first | (rw [show xsum (xlin f w) (i + 1) = xsum (xlin f w) i + f 24 i by show _ + (if f 23 i = w then _ else _) = _; rw [if_pos (Classical.not_not.mp c18)]]; exact xsub_cons rfl (xsub_cons rfl (xsub_cons rfl (xsub_cons rfl xsub_nil)))) | (rw [show xsum (xlin f w) (i + 1) = xsum (xlin f w) i + f 24 i by show _ + (if f 23 i = w then _ else _) = _; rw [if_pos c18]]; exact xsub_cons rfl (xsub_cons rfl (xsub_cons rfl (xsub_cons rfl xsub_nil)))) | (rw [show xsum (xlin f w) (i + 1) = xsum (xlin f w) i by show _ + (if f 23 i = w then _ else _) = _; rw [if_neg c18]; exact Int32.add_zero _]; exact xsub_cons rfl (xsub_cons rfl (xsub_cons rfl (xsub_cons rfl xsub_nil))))) ?_
          refine a_iinc (i := 3) (v := nI (i + 1)) C dX3_sumOf_29 rfl (nI_1 i) (by decide) ?_
          refine a_goto (tgt := 4) C dX3_sumOf_32 (by decide) ?_
          refine a_loc _ ?_ (ih (i + 1) (by omega) (by omega))
          exact xsub_cons rfl (xsub_cons rfl (xsub_cons rfl (xsub_cons rfl (xsub_nil))))
        · refine a_iload_n (i := 2) C dX3_sumOf_21 rfl rfl ?_
          refine a_aload_n (i := 0) C dX3_sumOf_22 rfl rfl ?_
          refine a_iload_n (i := 3) C dX3_sumOf_23 rfl rfl ?_
          refine a_callV C dX3_sumOf_24 cv_X3_amountIn tb898 (m_X3_amountIn hflags hB hlt) rfl rfl xC_7 rfl (Nat.le_of_ble_eq_true rfl) ⟨Nat.le_of_ble_eq_true rfl, Nat.le_of_ble_eq_true rfl⟩ ⟨Nat.le_of_ble_eq_true rfl, Nat.le_of_ble_eq_true rfl⟩ (fun _ h => h.elim) xav_no (fun _ _ h => h.elim) (fun r24 hp24 hq24 => ?_)
          obtain ⟨rfl, rfl⟩ := hq24
          refine a_iadd C dX3_sumOf_27 ?_
          refine a_istore_n (i := 2) C dX3_sumOf_28 rfl (by decide) ?_
          refine a_loc [(0, .ref 7), (1, .int w), (2, .int (xsum (xlin f w) (i + 1))), (3, .int (nI i))] (by first | (rw [show xsum (xlin f w) (i + 1) = xsum (xlin f w) i + f 24 i by show _ + (if f 23 i = w then _ else _) = _; rw [if_pos (Classical.not_not.mp c18)]]; exact xsub_cons rfl (xsub_cons rfl (xsub_cons rfl (xsub_cons rfl xsub_nil)))) | (rw [show xsum (xlin f w) (i + 1) = xsum (xlin f w) i + f 24 i by show _ + (if f 23 i = w then _ else _) = _; rw [if_pos c18]]; exact xsub_cons rfl (xsub_cons rfl (xsub_cons rfl (xsub_cons rfl xsub_nil)))) | (rw [show xsum (xlin f w) (i + 1) = xsum (xlin f w) i by show _ + (if f 23 i = w then _ else _) = _; rw [if_neg c18]; exact Int32.add_zero _]; exact xsub_cons rfl (xsub_cons rfl (xsub_cons rfl (xsub_cons rfl xsub_nil))))) ?_
          refine a_iinc (i := 3) (v := nI (i + 1)) C dX3_sumOf_29 rfl (nI_1 i) (by decide) ?_
          refine a_goto (tgt := 4) C dX3_sumOf_32 (by decide) ?_
          refine a_loc _ ?_ (ih (i + 1) (by omega) (by omega))
          exact xsub_cons rfl (xsub_cons rfl (xsub_cons rfl (xsub_cons rfl (xsub_nil))))
  refine a_iconst (v := 0) C dX3_sumOf_0 (by decide) ?_
  refine a_istore_n (i := 2) C dX3_sumOf_1 rfl (by decide) ?_
  refine a_iconst (v := 0) C dX3_sumOf_2 (by decide) ?_
  refine a_istore_n (i := 3) C dX3_sumOf_3 rfl (by decide) ?_
  refine a_loc _ ?_ (loop (nl + 1) 0 (Nat.zero_le _) (by omega))
  exact xsub_cons rfl (xsub_cons rfl (xsub_cons rfl (xsub_cons rfl (xsub_nil))))
