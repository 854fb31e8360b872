theorem xnwD_no {a b : Nat} (h : a < 340) (e : a = b) : ¬ xnwD b := fun z => absurd z.1 (by omega)
def mvN (nl : Nat) (a : Int32) : Nat := if 0 < a then mWl nl (-a) else nl
def mvF (nl p i : Nat) (a : Int32) (f : Nat → Nat → Int32) : Nat → Nat → Int32 := if 0 < a then mPf nl p i a f else f
theorem mBf_0 {nl p i : Nat} {f : Nat → Nat → Int32} (h : f 22 (24 * p + i) = 0) : mBf nl p i f = f := by
  have e1 : upd (f 22) (24 * p + i) 0 = f 22 := (congrArg (upd (f 22) (24 * p + i)) h.symm).trans xud_self
  have e2 : upd (f 20) p (f 20 p + 0) = f 20 := (congrArg (upd (f 20) p) (Int32.add_zero _)).trans xud_self
  have e3 : upd (f 13) i (f 13 i + 0) = f 13 := (congrArg (upd (f 13) i) (Int32.add_zero _)).trans xud_self
  unfold mBf
  rw [h, e1, e2, e3, fup_id, fup_id, fup_id]
  exact if_pos rfl
theorem xr_8 {a : Int32} : a + -a = 0 := by grind
theorem xr_9 {a b : Int32} : a - -b = a + b := by grind
theorem mBf_c {nl p i : Nat} {f : Nat → Nat → Int32} {a : Int32} (h : f 22 (24 * p + i) = a) : mWf nl i a (fup (fup (fup f 22 (upd (f 22) (24 * p + i) (f 22 (24 * p + i) + -a))) 20 (upd (f 20) p (f 20 p - -a))) 13 (upd (f 13) i (f 13 i + a))) = mBf nl p i f := by
  unfold mBf
  rw [h, xr_8, xr_9]
set_option maxRecDepth 100000 in
set_option maxHeartbeats 4000000 in
theorem m_X6_moveToInvoice {l : Launch} {N0 : Nat} {D : va_G} {dT : Nat → ClassId} (hflags : l.stackTraces = false) {h : xH} {nc ni np nl : Nat} {n : Nat → Int32} {f : Nat → Nat → Int32} {g : Nat → Nat → Int64} {jc : Nat → Nat → Int32} {jr : Nat → Int64} (hB : nc ≤ 6 ∧ ni ≤ 24 ∧ np ≤ 24 ∧ nl ≤ 16000) {p i : Nat} {a : Int32} (hpn : p < np) (hi : i < ni) (h21 : 0 < a → f 21 p = 0) (hl : nl < 16000) (hbs : xBs h) (hO : ∀ i, i < ni → xow f i < nc) (hP : ∀ i, i < np → xpow f i < nc)  : xMet l N0 D dT yX6_moveToInvoice cX6_moveToInvoice 4 none 4 (lCel nl (mvN nl a)) (lSlt nl (mvN nl a)) [.ref 0, .ref (64 + p), .int (nI i), .int a] (xC h nc ni np nl (n 1) f g jc jr) xnwD (fun r h' => r = none ∧ h' = xC h nc ni np (mvN nl a) (n 1) (mvF nl p i a f) g jc jr) xNX := by
  refine xMet_of hflags (by decide +kernel) (fun j h1 h2 => by omega) (Nat.le_of_ble_eq_true rfl) ?_
  intro E C I hret hthr
  refine a_loc [(0, .ref 0), (1, .ref (64 + p)), (2, .int (nI i)), (3, .int a)] (xsub_cons rfl (xsub_cons rfl (xsub_cons rfl (xsub_cons rfl (xsub_nil))))) ?_
  obtain ⟨hc6, hi24, hp24, hl16⟩ := id hB
  refine a_iload_n (i := 3) C dX6_moveToInvoice_0 rfl rfl ?_
  refine a_if_le (tgt := 50) C dX6_moveToInvoice_1 (by decide) (fun c1 => ?_) (fun c1 => ?_)
  · exact a_vret C dX6_moveToInvoice_50 (by first | exact Nat.zero_le _ | (show _ ≤ lCel nl (mvN nl a); rw [hmv]; omega)) (by first | exact Nat.zero_le _ | (show _ ≤ lSlt nl (mvN nl a); rw [hmv]; omega)) (hret _ _ (by first | exact ⟨rfl, by rw [hmv, show mvF nl p i a f = mPf nl p i a f from if_pos ca]; rfl⟩ | exact ⟨rfl, by rw [show mvN nl a = nl from if_neg (Int32.not_lt.mpr c1), show mvF nl p i a f = f from if_neg (Int32.not_lt.mpr c1)]⟩))
  · have ca : 0 < a := Int32.not_le.mp c1
    have hmv : mvN nl a = mWl nl (-a) := if_pos ca
    refine a_iload_n (i := 2) C dX6_moveToInvoice_4 rfl rfl ?_
    refine a_if_lt (tgt := 50) C dX6_moveToInvoice_5 (by decide) (fun c5 => ?_) (fun c5 => ?_)
    · exact absurd c5 (Int32.not_lt.mpr ((xle (a := 0) (by omega) (by omega)).mpr (Nat.zero_le i)))
    · refine a_iload_n (i := 2) C dX6_moveToInvoice_8 rfl rfl ?_
      refine a_aload_n (i := 0) C dX6_moveToInvoice_9 rfl rfl ?_
      refine a_get C dX6_moveToInvoice_10 fl_X6_16 xC_0 rfl ?_
      refine a_callV C dX6_moveToInvoice_13 cv_Jx4a65c_size_8abf5 tb142 (m_Jx4a65c_size_8abf5 hflags xC_2) rfl rfl xC_2 rfl (Nat.le_of_ble_eq_true rfl) ⟨Nat.le_of_ble_eq_true rfl, Nat.le_of_ble_eq_true rfl⟩ ⟨Nat.le_of_ble_eq_true rfl, Nat.le_of_ble_eq_true rfl⟩ (fun _ h => h.elim) xav_no (fun _ _ h => h.elim) (fun r13 hp13 hq13 => ?_)
      obtain ⟨rfl, rfl⟩ := hq13
      refine a_icmp_ge (tgt := 50) C dX6_moveToInvoice_16 (by decide) (fun c16 => ?_) (fun c16 => ?_)
      · exact absurd ((xle (a := ni) (b := i) (by omega) (by omega)).mp c16) (by omega)
      · refine a_aload_n (i := 1) C dX6_moveToInvoice_19 rfl rfl ?_
        refine a_iload_n (i := 2) C dX6_moveToInvoice_20 rfl rfl ?_
        refine a_iload_n (i := 3) C dX6_moveToInvoice_21 rfl rfl ?_
        refine a_callV C dX6_moveToInvoice_22 cv_X4_spend tb552 (m_X4_spend hflags hB hpn (i := i) (by omega) (h21 ca)) rfl rfl (xC_pa (by omega) (by omega)) rfl (Nat.le_of_ble_eq_true rfl) ⟨Nat.le_of_ble_eq_true rfl, Nat.le_of_ble_eq_true rfl⟩ ⟨Nat.le_of_ble_eq_true rfl, Nat.le_of_ble_eq_true rfl⟩ (fun _ h => h.elim) xav_no (fun _ _ h => h.elim) (fun r22 hp22 hq22 => ?_)
        obtain ⟨rfl, rfl⟩ := hq22
        refine a_aload_n (i := 0) C dX6_moveToInvoice_25 rfl rfl ?_
        refine a_get C dX6_moveToInvoice_26 fl_X6_16 xC_0 rfl ?_
        refine a_iload_n (i := 2) C dX6_moveToInvoice_29 rfl rfl ?_
        refine a_callV C dX6_moveToInvoice_30 cv_Jx4a65c_get_915e3 tb372 (m_Jx4a65c_get_915e3 hflags xC_2 (xC_l2 (by omega)) (by omega) (aCap_ge (by omega)) (Nat.lt_of_le_of_lt (aCap_le _) (by decide)) (xLr_lt (by omega))) rfl rfl xC_2 rfl (Nat.le_of_ble_eq_true rfl) ⟨Nat.le_of_ble_eq_true rfl, Nat.le_of_ble_eq_true rfl⟩ ⟨Nat.le_of_ble_eq_true rfl, Nat.le_of_ble_eq_true rfl⟩ (fun _ h => h.elim) xav_no (fun _ _ h => h.elim) (fun r30 hp30 hq30 => ?_)
        obtain ⟨rfl, rfl⟩ := hq30
        refine a_castS C dX6_moveToInvoice_33 tb409 (xC_in (by omega) (by omega)) rfl rfl ?_
        refine a_iload_n (i := 3) C dX6_moveToInvoice_36 rfl rfl ?_
        refine a_callV C dX6_moveToInvoice_37 cv_X2_pay tb556 (m_X2_pay hflags hB hi) rfl rfl (xC_in (by omega) (by omega)) rfl (Nat.le_of_ble_eq_true rfl) ⟨Nat.le_of_ble_eq_true rfl, Nat.le_of_ble_eq_true rfl⟩ ⟨Nat.le_of_ble_eq_true rfl, Nat.le_of_ble_eq_true rfl⟩ (fun _ h => h.elim) xav_no (fun _ _ h => h.elim) (fun r37 hp37 hq37 => ?_)
        obtain ⟨rfl, rfl⟩ := hq37
        refine a_aload_n (i := 0) C dX6_moveToInvoice_40 rfl rfl ?_
        refine a_get C dX6_moveToInvoice_41 fl_X6_25 xC_0 rfl ?_
        refine a_iload_n (i := 2) C dX6_moveToInvoice_44 rfl rfl ?_
        refine a_iload_n (i := 3) C dX6_moveToInvoice_45 rfl rfl ?_
        refine a_ineg C dX6_moveToInvoice_46 ?_
        refine a_callV C dX6_moveToInvoice_47 cv_X3_write tb500 (m_X3_write hflags hB hl hbs hO hP) rfl rfl xC_7 rfl (Nat.le_of_ble_eq_true rfl) ⟨Nat.le_of_ble_eq_true rfl, Nat.le_of_ble_eq_true rfl⟩ ⟨(by show _ ≤ lCel nl (mvN nl a); rw [hmv]; omega), (by show _ ≤ lSlt nl (mvN nl a); rw [hmv]; omega)⟩ (fun _ h => h) ⟨fun q hq j hj => (by simp only [List.mem_cons, List.not_mem_nil, or_false] at hq; rcases hq with rfl | rfl | rfl | rfl <;> first | exact Value.noConfusion hj | exact xnwD_no (by omega) (Value.ref.inj hj)), fun v hv => nomatch hv⟩ (fun _ _ h => h.elim) (fun r47 hp47 hq47 => ?_)
        obtain ⟨rfl, rfl⟩ := hq47
        exact a_vret C dX6_moveToInvoice_50 (by first | exact Nat.zero_le _ | (show _ ≤ lCel nl (mvN nl a); rw [hmv]; omega)) (by first | exact Nat.zero_le _ | (show _ ≤ lSlt nl (mvN nl a); rw [hmv]; omega)) (hret _ _ (by first | exact ⟨rfl, by rw [hmv, show mvF nl p i a f = mPf nl p i a f from if_pos ca]; rfl⟩ | exact ⟨rfl, by rw [show mvN nl a = nl from if_neg (Int32.not_lt.mpr c1), show mvF nl p i a f = f from if_neg (Int32.not_lt.mpr c1)]⟩))
set_option maxRecDepth 100000 in
set_option maxHeartbeats 4000000 in
theorem m_X6_takeBack {l : Launch} {N0 : Nat} {D : va_G} {dT : Nat → ClassId} (hflags : l.stackTraces = false) {h : xH} {nc ni np nl : Nat} {n : Nat → Int32} {f : Nat → Nat → Int32} {g : Nat → Nat → Int64} {jc : Nat → Nat → Int32} {jr : Nat → Int64} (hB : nc ≤ 6 ∧ ni ≤ 24 ∧ np ≤ 24 ∧ nl ≤ 16000) {p i : Nat} (hpn : p < np) (hi : i < ni) (h22 : 0 ≤ f 22 (24 * p + i)) (h21 : 0 < f 22 (24 * p + i) → f 21 p = 0) (hl : nl < 16000) (hbs : xBs h) (hO : ∀ i, i < ni → xow f i < nc) (hP : ∀ i, i < np → xpow f i < nc)  : xMet l N0 D dT yX6_takeBack cX6_takeBack 4 (some FieldType.int) 4 (lCel nl (mWl nl (f 22 (24 * p + i)))) (lSlt nl (mWl nl (f 22 (24 * p + i)))) [.ref 0, .ref (64 + p), .int (nI i)] (xC h nc ni np nl (n 1) f g jc jr) xnwD (fun r h' => r = some (.int (f 22 (24 * p + i))) ∧ h' = xC h nc ni np (mWl nl (f 22 (24 * p + i))) (n 1) (mBf nl p i f) g jc jr) xNX := by
  refine xMet_of hflags (by decide +kernel) (fun j h1 h2 => by omega) (Nat.le_of_ble_eq_true rfl) ?_
  intro E C I hret hthr
  refine a_loc [(0, .ref 0), (1, .ref (64 + p)), (2, .int (nI i))] (xsub_cons rfl (xsub_cons rfl (xsub_cons rfl (xsub_nil)))) ?_
  obtain ⟨hc6, hi24, hp24, hl16⟩ := id hB
  refine a_aload_n (i := 1) C dX6_takeBack_0 rfl rfl ?_
  refine a_iload_n (i := 2) C dX6_takeBack_1 rfl rfl ?_
  refine a_callV C dX6_takeBack_2 cv_X4_spentOn tb647 (m_X4_spentOn hflags hB hpn (i := i) (by omega)) rfl rfl (xC_pa (by omega) (by omega)) rfl (Nat.le_of_ble_eq_true rfl) ⟨Nat.le_of_ble_eq_true rfl, Nat.le_of_ble_eq_true rfl⟩ ⟨Nat.le_of_ble_eq_true rfl, Nat.le_of_ble_eq_true rfl⟩ (fun _ h => h.elim) xav_no (fun _ _ h => h.elim) (fun r2 hp2 hq2 => ?_)
  obtain ⟨rfl, rfl⟩ := hq2
  refine a_istore_n (i := 3) C dX6_takeBack_5 rfl (by decide) ?_
  refine a_iload_n (i := 3) C dX6_takeBack_6 rfl rfl ?_
  refine a_if_le (tgt := 56) C dX6_takeBack_7 (by decide) (fun c7 => ?_) (fun c7 => ?_)
  · refine a_iload_n (i := 3) C dX6_takeBack_56 rfl rfl ?_
    exact a_iret C dX6_takeBack_57 (by first | exact Nat.zero_le _ | (show _ ≤ lCel nl (mWl nl (f 22 (24 * p + i))); omega)) (by first | exact Nat.zero_le _ | (show _ ≤ lSlt nl (mWl nl (f 22 (24 * p + i))); omega)) (hret _ _ (by first | exact ⟨rfl, by rw [← mBf_c (nl := nl) (p := p) (i := i) (f := f) rfl]; rfl⟩ | (have e0 : f 22 (24 * p + i) = 0 := Int32.le_antisymm c7 h22; exact ⟨rfl, by rw [mBf_0 e0, e0, show mWl nl 0 = nl from if_pos rfl]⟩)))
  · have ca : 0 < f 22 (24 * p + i) := Int32.not_le.mp c7
    refine a_iload_n (i := 2) C dX6_takeBack_10 rfl rfl ?_
    refine a_if_lt (tgt := 56) C dX6_takeBack_11 (by decide) (fun c11 => ?_) (fun c11 => ?_)
    · exact absurd c11 (Int32.not_lt.mpr ((xle (a := 0) (by omega) (by omega)).mpr (Nat.zero_le i)))
    · refine a_iload_n (i := 2) C dX6_takeBack_14 rfl rfl ?_
      refine a_aload_n (i := 0) C dX6_takeBack_15 rfl rfl ?_
      refine a_get C dX6_takeBack_16 fl_X6_16 xC_0 rfl ?_
      refine a_callV C dX6_takeBack_19 cv_Jx4a65c_size_8abf5 tb142 (m_Jx4a65c_size_8abf5 hflags xC_2) rfl rfl xC_2 rfl (Nat.le_of_ble_eq_true rfl) ⟨Nat.le_of_ble_eq_true rfl, Nat.le_of_ble_eq_true rfl⟩ ⟨Nat.le_of_ble_eq_true rfl, Nat.le_of_ble_eq_true rfl⟩ (fun _ h => h.elim) xav_no (fun _ _ h => h.elim) (fun r19 hp19 hq19 => ?_)
      obtain ⟨rfl, rfl⟩ := hq19
      refine a_icmp_ge (tgt := 56) C dX6_takeBack_22 (by decide) (fun c22 => ?_) (fun c22 => ?_)
      · exact absurd ((xle (a := ni) (b := i) (by omega) (by omega)).mp c22) (by omega)
      · refine a_aload_n (i := 1) C dX6_takeBack_25 rfl rfl ?_
        refine a_iload_n (i := 2) C dX6_takeBack_26 rfl rfl ?_
        refine a_iload_n (i := 3) C dX6_takeBack_27 rfl rfl ?_
        refine a_ineg C dX6_takeBack_28 ?_
        refine a_callV C dX6_takeBack_29 cv_X4_spend tb552 (m_X4_spend hflags hB hpn (i := i) (by omega) (h21 ca)) rfl rfl (xC_pa (by omega) (by omega)) rfl (Nat.le_of_ble_eq_true rfl) ⟨Nat.le_of_ble_eq_true rfl, Nat.le_of_ble_eq_true rfl⟩ ⟨Nat.le_of_ble_eq_true rfl, Nat.le_of_ble_eq_true rfl⟩ (fun _ h => h.elim) xav_no (fun _ _ h => h.elim) (fun r29 hp29 hq29 => ?_)
        obtain ⟨rfl, rfl⟩ := hq29
        refine a_aload_n (i := 0) C dX6_takeBack_32 rfl rfl ?_
        refine a_get C dX6_takeBack_33 fl_X6_16 xC_0 rfl ?_
        refine a_iload_n (i := 2) C dX6_takeBack_36 rfl rfl ?_
        refine a_callV C dX6_takeBack_37 cv_Jx4a65c_get_915e3 tb372 (m_Jx4a65c_get_915e3 hflags xC_2 (xC_l2 (by omega)) (by omega) (aCap_ge (by omega)) (Nat.lt_of_le_of_lt (aCap_le _) (by decide)) (xLr_lt (by omega))) rfl rfl xC_2 rfl (Nat.le_of_ble_eq_true rfl) ⟨Nat.le_of_ble_eq_true rfl, Nat.le_of_ble_eq_true rfl⟩ ⟨Nat.le_of_ble_eq_true rfl, Nat.le_of_ble_eq_true rfl⟩ (fun _ h => h.elim) xav_no (fun _ _ h => h.elim) (fun r37 hp37 hq37 => ?_)
        obtain ⟨rfl, rfl⟩ := hq37
        refine a_castS C dX6_takeBack_40 tb409 (xC_in (by omega) (by omega)) rfl rfl ?_
        refine a_iload_n (i := 3) C dX6_takeBack_43 rfl rfl ?_
        refine a_callV C dX6_takeBack_44 cv_X2_unpay tb651 (m_X2_unpay hflags hB hi) rfl rfl (xC_in (by omega) (by omega)) rfl (Nat.le_of_ble_eq_true rfl) ⟨Nat.le_of_ble_eq_true rfl, Nat.le_of_ble_eq_true rfl⟩ ⟨Nat.le_of_ble_eq_true rfl, Nat.le_of_ble_eq_true rfl⟩ (fun _ h => h.elim) xav_no (fun _ _ h => h.elim) (fun r44 hp44 hq44 => ?_)
        obtain ⟨rfl, rfl⟩ := hq44
        refine a_loc [(0, .ref 0), (1, .ref (64 + p)), (2, .int (nI i)), (3, .int (f 22 (24 * p + i)))] (xsub_cons rfl (xsub_cons rfl (xsub_cons rfl (xsub_cons rfl (xsub_nil))))) ?_
        refine a_aload_n (i := 0) C dX6_takeBack_47 rfl rfl ?_
        refine a_get C dX6_takeBack_48 fl_X6_25 xC_0 rfl ?_
        refine a_iload_n (i := 2) C dX6_takeBack_51 rfl rfl ?_
        refine a_iload_n (i := 3) C dX6_takeBack_52 rfl rfl ?_
        refine a_callV C dX6_takeBack_53 cv_X3_write tb500 (m_X3_write hflags hB hl hbs hO hP) rfl rfl xC_7 rfl (Nat.le_of_ble_eq_true rfl) ⟨Nat.le_of_ble_eq_true rfl, Nat.le_of_ble_eq_true rfl⟩ ⟨(by show _ ≤ lCel nl (mWl nl (f 22 (24 * p + i))); omega), (by show _ ≤ lSlt nl (mWl nl (f 22 (24 * p + i))); omega)⟩ (fun _ h => h) ⟨fun q hq j hj => (by simp only [List.mem_cons, List.not_mem_nil, or_false] at hq; rcases hq with rfl | rfl | rfl | rfl <;> first | exact Value.noConfusion hj | exact xnwD_no (by omega) (Value.ref.inj hj)), fun v hv => nomatch hv⟩ (fun _ _ h => h.elim) (fun r53 hp53 hq53 => ?_)
        obtain ⟨rfl, rfl⟩ := hq53
        refine a_iload_n (i := 3) C dX6_takeBack_56 rfl rfl ?_
        exact a_iret C dX6_takeBack_57 (by first | exact Nat.zero_le _ | (show _ ≤ lCel nl (mWl nl (f 22 (24 * p + i))); omega)) (by first | exact Nat.zero_le _ | (show _ ≤ lSlt nl (mWl nl (f 22 (24 * p + i))); omega)) (hret _ _ (by first | exact ⟨rfl, by rw [← mBf_c (nl := nl) (p := p) (i := i) (f := f) rfl]; rfl⟩ | (have e0 : f 22 (24 * p + i) = 0 := Int32.le_antisymm c7 h22; exact ⟨rfl, by rw [mBf_0 e0, e0, show mWl nl 0 = nl from if_pos rfl]⟩)))
