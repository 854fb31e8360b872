theorem mWn_1 {nl : Nat} {a : Int32} {n : Nat → Int32} : mWn nl a n 1 = n 1 := by
  unfold mWn
  split <;> rfl
theorem mWn_0 {nl : Nat} {a : Int32} {n : Nat → Int32} : mWn nl a n 0 = n 0 := by
  unfold mWn
  split <;> rfl
theorem mWl_le {nl : Nat} {a : Int32} (h : nl < 16000) : mWl nl a ≤ 16000 := by
  unfold mWl
  split <;> omega
set_option maxRecDepth 100000 in
set_option maxHeartbeats 4000000 in
theorem m_X6_release {l : Launch} {N0 : Nat} {D : va_G} {dT : Nat → ClassId} (hflags : l.stackTraces = false) {h : xH} {nc ni np nl : Nat} {n : Nat → Int32} {f : Nat → Nat → Int32} {g : Nat → Nat → Int64} {jc : Nat → Nat → Int32} {jr : Nat → Int64} (hB : nc ≤ 6 ∧ ni ≤ 24 ∧ np ≤ 24 ∧ nl ≤ 16000) {w u : Int32} (h22 : ∀ p i, p < np → i < ni → 0 ≤ f 22 (24 * p + i)) (h21 : ∀ p i, p < np → i < ni → 0 < f 22 (24 * p + i) → f 21 p = 0) (hl : nl < 16000) (hbs : xBs h) (hO : ∀ i, i < ni → xow f i < nc) (hP : ∀ i, i < np → xpow f i < nc)  : xMet l N0 D dT yX6_release cX6_release 4 (some FieldType.int) 9 (2 + lCel nl (mWl nl (f 22 (24 * w.toNatClampNeg + u.toNatClampNeg)))) (12 + lSlt nl (mWl nl (f 22 (24 * w.toNatClampNeg + u.toNatClampNeg)))) [.ref 0, .int w, .int u] (xC h nc ni np nl (n 1) f g jc jr) xnwD (cP h nc ni np (mWl nl (f 22 (24 * w.toNatClampNeg + u.toNatClampNeg))) (o_release ni np nl w u n f g)) (cX (xC h nc ni np nl (n 1) f g jc jr) [("java/lang/IndexOutOfBoundsException", (1 : Int32))] (o_release ni np nl w u n f g)) := by
  refine xMet_of hflags (by decide +kernel) (fun j h1 h2 => by omega) (Nat.le_of_ble_eq_true rfl) ?_
  intro E C I hret hthr
  refine a_loc [(0, .ref 0), (1, .int w), (2, .int u)] (xsub_cons rfl (xsub_cons rfl (xsub_cons rfl (xsub_nil)))) ?_
  obtain ⟨hc6, hi24, hp24, hl16⟩ := id hB
  refine a_aload_n (i := 0) C dX6_release_0 rfl rfl ?_
  refine a_iload_n (i := 1) C dX6_release_1 rfl rfl ?_
  refine a_callV C dX6_release_2 cv_X6_paymentAt tb530 (m_X6_paymentAt hflags hB) rfl rfl xC_0 rfl (Nat.le_of_ble_eq_true rfl) ⟨Nat.le_of_ble_eq_true rfl, Nat.le_of_ble_eq_true rfl⟩ ⟨(by show _ ≤ 2 + lCel nl _; omega), (by show _ ≤ 12 + lSlt nl _; omega)⟩ (fun _ h => h.elim) xav_no (fun _ _ ⟨e1, e2, e3⟩ => by subst e1; subst e2; exact a_out C (fun _ h => nomatch h) (hthr _ _ ⟨rfl, by unfold o_release; rw [if_pos (fun z => e3 z.1)]; exact (List.Mem.head _)⟩) (by show _ ≤ 2 + lCel nl _; omega) (by show _ ≤ 12 + lSlt nl _; omega)) (fun r2 hp2 hq2 => ?_)
  obtain ⟨j, hj, rfl, rfl, rfl⟩ := hq2
  refine a_astore_n (i := 3) C dX6_release_5 rfl (by decide) ?_
  refine a_aload_n (i := 0) C dX6_release_6 rfl rfl ?_
  refine a_iload_n (i := 2) C dX6_release_7 rfl rfl ?_
  refine a_callV C dX6_release_8 cv_X6_invoiceAt tb535 (m_X6_invoiceAt hflags hB) rfl rfl xC_0 rfl (Nat.le_of_ble_eq_true rfl) ⟨Nat.le_of_ble_eq_true rfl, Nat.le_of_ble_eq_true rfl⟩ ⟨(by show _ ≤ 2 + lCel nl _; omega), (by show _ ≤ 12 + lSlt nl _; omega)⟩ (fun _ h => h.elim) xav_no (fun _ _ ⟨e1, e2, e3⟩ => by subst e1; subst e2; exact a_out C (fun _ h => nomatch h) (hthr _ _ ⟨rfl, by unfold o_release; rw [if_pos (fun z => e3 z.2)]; exact (List.Mem.head _)⟩) (by show _ ≤ 2 + lCel nl _; omega) (by show _ ≤ 12 + lSlt nl _; omega)) (fun r8 hp8 hq8 => ?_)
  obtain ⟨i, hi, rfl, rfl, rfl⟩ := hq8
  refine a_pop C dX6_release_11 rfl ?_
  refine a_loc [(0, .ref 0), (1, .int (nI j)), (2, .int (nI i)), (3, .ref (64 + j))] (xsub_cons rfl (xsub_cons rfl (xsub_cons rfl (xsub_cons rfl (xsub_nil))))) ?_
  refine a_aload_n (i := 0) C dX6_release_12 rfl rfl ?_
  refine a_aload_n (i := 3) C dX6_release_13 rfl rfl ?_
  refine a_iload_n (i := 2) C dX6_release_14 rfl rfl ?_
  refine a_callV C dX6_release_15 cv_X6_takeBack tb643 (m_X6_takeBack hflags hB hj hi (h22 j i hj hi) (h21 j i hj hi) hl hbs hO hP) rfl rfl xC_0 rfl (Nat.le_of_ble_eq_true rfl) ⟨Nat.le_of_ble_eq_true rfl, Nat.le_of_ble_eq_true rfl⟩ ⟨(by show _ ≤ 2 + lCel nl (mWl nl (f 22 (24 * (nI j).toNatClampNeg + (nI i).toNatClampNeg))); rw [nI_clamp (show j < 2 ^ 31 by omega), nI_clamp (show i < 2 ^ 31 by omega)]; omega), (by show _ ≤ 12 + lSlt nl (mWl nl (f 22 (24 * (nI j).toNatClampNeg + (nI i).toNatClampNeg))); rw [nI_clamp (show j < 2 ^ 31 by omega), nI_clamp (show i < 2 ^ 31 by omega)]; omega)⟩ (fun _ h => h) ⟨fun q hq j hj => (by simp only [List.mem_cons, List.not_mem_nil, or_false] at hq; rcases hq with rfl | rfl | rfl | rfl <;> first | exact Value.noConfusion hj | exact xnwD_no (by omega) (Value.ref.inj hj)), fun v hv => nomatch hv⟩ (fun _ _ h => h.elim) (fun r15 hp15 hq15 => ?_)
  obtain ⟨rfl, rfl⟩ := hq15
  exact a_iret C dX6_release_18 (by show _ ≤ 2 + lCel nl (mWl nl (f 22 (24 * (nI j).toNatClampNeg + (nI i).toNatClampNeg))); rw [nI_clamp (show j < 2 ^ 31 by omega), nI_clamp (show i < 2 ^ 31 by omega)]; omega) (by show _ ≤ 12 + lSlt nl (mWl nl (f 22 (24 * (nI j).toNatClampNeg + (nI i).toNatClampNeg))); rw [nI_clamp (show j < 2 ^ 31 by omega), nI_clamp (show i < 2 ^ 31 by omega)]; omega) (hret _ _ (by unfold cP o_release; rw [if_neg (fun z => z ⟨xin_of hj (by omega), xin_of hi (by omega)⟩), nI_clamp (by omega), nI_clamp (by omega)]; exact ⟨mWn_0.trans rfl, rfl, jc, jr, congrArg (fun z => xC h nc ni np (mWl nl (f 22 (24 * j + i))) z (mBf nl j i f) g jc jr) (mWn_1 (n := nup n 0 0)).symm⟩))
theorem xfg_o {f : Nat → Nat → Int32} {i j : Nat} (h1 : j ≠ 17) (h2 : j ≠ 18) : xfg f i j = f j := by
  unfold xfg
  split
  · rw [fup_n h2, fup_n h1]
  · rfl
theorem xfg_13 {f : Nat → Nat → Int32} {i : Nat} : xfg f i 13 = f 13 := by
  unfold xfg
  split <;> rfl
theorem mSf_c {nl i : Nat} {a : Int32} {f : Nat → Nat → Int32} : mWf nl i (-a) (xfg (fup (fup f 13 (upd (f 13) i (f 13 i - a))) 14 (upd (f 14) i 0)) i) = mSf nl i a f := by
  have e : xfg (fup (fup f 13 (upd (f 13) i (f 13 i - a))) 14 (upd (f 14) i 0)) i = (if f 13 i - a = 0 then fup (fup (fup (fup f 13 (upd (f 13) i (f 13 i - a))) 14 (upd (f 14) i 0)) 17 (upd (f 17) i 0)) 18 (upd (f 18) i 0) else fup (fup f 13 (upd (f 13) i (f 13 i - a))) 14 (upd (f 14) i 0)) := by
    unfold xfg
    show (if upd (f 13) i (f 13 i - a) i = 0 then _ else _) = _
    rw [xupd_i]
    rfl
  unfold mSf
  rw [e]
set_option maxRecDepth 100000 in
set_option maxHeartbeats 4000000 in
theorem m_X6_settle {l : Launch} {N0 : Nat} {D : va_G} {dT : Nat → ClassId} (hflags : l.stackTraces = false) {h : xH} {nc ni np nl : Nat} {n : Nat → Int32} {f : Nat → Nat → Int32} {g : Nat → Nat → Int64} {jc : Nat → Nat → Int32} {jr : Nat → Int64} (hB : nc ≤ 6 ∧ ni ≤ 24 ∧ np ≤ 24 ∧ nl ≤ 16000) {w a : Int32} (h14 : ∀ i, i < ni → 0 ≤ f 14 i) (hl : nl < 16000) (hbs : xBs h) (hO : ∀ i, i < ni → xow f i < nc) (hP : ∀ i, i < np → xpow f i < nc)  : xMet l N0 D dT yX6_settle cX6_settle 4 (some FieldType.int) 9 (2 + lCel nl (mWl nl (-a))) (12 + lSlt nl (mWl nl (-a))) [.ref 0, .int w, .int a] (xC h nc ni np nl (n 1) f g jc jr) xnwD (cP h nc ni np (mWl nl (-a)) (o_settle ni nl w a n f g)) (cX (xC h nc ni np nl (n 1) f g jc jr) [("java/lang/IndexOutOfBoundsException", (1 : Int32)), ("java/lang/IllegalStateException", (2 : Int32)), ("java/lang/IllegalArgumentException", (3 : Int32))] (o_settle ni nl w a n f g)) := by
  refine xMet_of hflags (by decide +kernel) (fun j h1 h2 => by omega) (Nat.le_of_ble_eq_true rfl) ?_
  intro E C I hret hthr
  refine a_loc [(0, .ref 0), (1, .int w), (2, .int a)] (xsub_cons rfl (xsub_cons rfl (xsub_cons rfl (xsub_nil)))) ?_
  obtain ⟨hc6, hi24, hp24, hl16⟩ := id hB
  refine a_aload_n (i := 0) C dX6_settle_0 rfl rfl ?_
  refine a_iload_n (i := 1) C dX6_settle_1 rfl rfl ?_
  refine a_callV C dX6_settle_2 cv_X6_invoiceAt tb535 (m_X6_invoiceAt hflags hB) rfl rfl xC_0 rfl (Nat.le_of_ble_eq_true rfl) ⟨Nat.le_of_ble_eq_true rfl, Nat.le_of_ble_eq_true rfl⟩ ⟨(by show _ ≤ 2 + lCel nl _; omega), (by show _ ≤ 12 + lSlt nl _; omega)⟩ (fun _ h => h.elim) xav_no (fun _ _ ⟨e1, e2, e3⟩ => by subst e1; subst e2; exact a_out C (fun _ h => nomatch h) (hthr _ _ ⟨rfl, by unfold o_settle; rw [if_pos e3]; exact (List.Mem.head _)⟩) (by show _ ≤ 2 + lCel nl _; omega) (by show _ ≤ 12 + lSlt nl _; omega)) (fun r2 hp2 hq2 => ?_)
  obtain ⟨j, hj, rfl, rfl, rfl⟩ := hq2
  refine a_astore_n (i := 3) C dX6_settle_5 rfl (by decide) ?_
  refine a_aload_n (i := 3) C dX6_settle_6 rfl rfl ?_
  refine a_get C dX6_settle_7 fl_X6_205 (xC_in (by omega) (by omega)) rfl ?_
  refine a_if_le (tgt := 17) C dX6_settle_10 (by decide) (fun c10 => ?_) (fun c10 => ?_)
  · refine a_iconst (v := 0) C dX6_settle_17 (by decide) ?_
    refine a_callS C dX6_settle_18 cs_X6_requireState tb401 (m_X6_requireState0 hflags) rfl rfl (Nat.le_of_ble_eq_true rfl) ⟨Nat.le_of_ble_eq_true rfl, Nat.le_of_ble_eq_true rfl⟩ ⟨(by show _ ≤ 2 + lCel nl _; omega), (by show _ ≤ 12 + lSlt nl _; omega)⟩ (fun _ h => h.elim) xav_no (fun _ _ ⟨e1, e2⟩ => by subst e1; subst e2; exact a_out C (fun _ h => nomatch h) (hthr _ _ ⟨rfl, by unfold o_settle; rw [if_neg (fun z => z (xin_of hj (by omega))), nI_clamp (show j < 2 ^ 31 by omega), if_pos (Int32.le_antisymm c10 (h14 j hj))]; exact (List.Mem.tail _ (List.Mem.head _))⟩) (by show _ ≤ 2 + lCel nl _; omega) (by show _ ≤ 12 + lSlt nl _; omega)) (fun r18 hp18 hq18 => ?_)
    exact hq18.elim
  · have hd0 : ¬ f 14 j = 0 := fun z => absurd (Int32.not_le.mp c10) (by rw [z]; decide)
    refine a_iconst (v := 1) C dX6_settle_13 (by decide) ?_
    refine a_goto (tgt := 18) C dX6_settle_14 (by decide) ?_
    refine a_callS C dX6_settle_18 cs_X6_requireState tb401 (m_X6_requireState1 hflags) rfl rfl (Nat.le_of_ble_eq_true rfl) ⟨Nat.le_of_ble_eq_true rfl, Nat.le_of_ble_eq_true rfl⟩ ⟨(by show _ ≤ 2 + lCel nl _; omega), (by show _ ≤ 12 + lSlt nl _; omega)⟩ (fun _ h => h.elim) xav_no (fun _ _ h => h.elim) (fun r18 hp18 hq18 => ?_)
    obtain ⟨rfl, rfl⟩ := hq18
    refine a_iload_n (i := 2) C dX6_settle_21 rfl rfl ?_
    refine a_iconst (v := 0) C dX6_settle_22 (by decide) ?_
    refine a_aload_n (i := 3) C dX6_settle_23 rfl rfl ?_
    refine a_get C dX6_settle_24 fl_X6_205 (xC_in (by omega) (by omega)) rfl ?_
    refine a_callS C dX6_settle_27 cs_X6_requireRange tb168 (m_X6_requireRange hflags) rfl rfl (Nat.le_of_ble_eq_true rfl) ⟨Nat.le_of_ble_eq_true rfl, Nat.le_of_ble_eq_true rfl⟩ ⟨(by show _ ≤ 2 + lCel nl _; omega), (by show _ ≤ 12 + lSlt nl _; omega)⟩ (fun _ h => h.elim) xav_no (fun _ _ ⟨e1, e2, e3⟩ => by subst e1; subst e2; exact a_out C (fun _ h => nomatch h) (hthr _ _ ⟨rfl, by unfold o_settle; rw [if_neg (fun z => z (xin_of hj (by omega))), nI_clamp (show j < 2 ^ 31 by omega), if_neg hd0, if_pos e3]; exact (List.Mem.tail _ (List.Mem.tail _ (List.Mem.head _)))⟩) (by show _ ≤ 2 + lCel nl _; omega) (by show _ ≤ 12 + lSlt nl _; omega)) (fun r27 hp27 hq27 => ?_)
    obtain ⟨rfl, rfl, hx⟩ := hq27
    refine a_aload_n (i := 3) C dX6_settle_30 rfl rfl ?_
    refine a_iload_n (i := 2) C dX6_settle_31 rfl rfl ?_
    refine a_callV C dX6_settle_32 cv_X2_settleWith tb678 (m_X2_settleWith hflags hB hj) rfl rfl (xC_in (by omega) (by omega)) rfl (Nat.le_of_ble_eq_true rfl) ⟨Nat.le_of_ble_eq_true rfl, Nat.le_of_ble_eq_true rfl⟩ ⟨(by show _ ≤ 2 + lCel nl _; omega), (by show _ ≤ 12 + lSlt nl _; omega)⟩ (fun _ h => h.elim) xav_no (fun _ _ h => h.elim) (fun r32 hp32 hq32 => ?_)
    obtain ⟨rfl, rfl⟩ := hq32
    refine a_loc [(0, .ref 0), (1, .int (nI j)), (2, .int a), (3, .ref (32 + j))] (xsub_cons rfl (xsub_cons rfl (xsub_cons rfl (xsub_cons rfl (xsub_nil))))) ?_
    refine a_aload_n (i := 0) C dX6_settle_35 rfl rfl ?_
    refine a_get C dX6_settle_36 fl_X6_25 xC_0 rfl ?_
    refine a_iload_n (i := 1) C dX6_settle_39 rfl rfl ?_
    refine a_iload_n (i := 2) C dX6_settle_40 rfl rfl ?_
    refine a_ineg C dX6_settle_41 ?_
    refine a_callV C dX6_settle_42 cv_X3_write tb500 (m_X3_write hflags hB hl hbs (fun i hi => by unfold xow; rw [xfg_o (by decide) (by decide)]; exact hO i hi) (fun i hi => by unfold xpow; rw [xfg_o (by decide) (by decide)]; exact hP i hi)) rfl rfl xC_7 rfl (Nat.le_of_ble_eq_true rfl) ⟨Nat.le_of_ble_eq_true rfl, Nat.le_of_ble_eq_true rfl⟩ ⟨(by show _ ≤ 2 + lCel nl _; omega), (by show _ ≤ 12 + lSlt nl _; omega)⟩ (fun _ h => h) ⟨fun q hq j hj => (by simp only [List.mem_cons, List.not_mem_nil, or_false] at hq; rcases hq with rfl | rfl | rfl | rfl <;> first | exact Value.noConfusion hj | exact xnwD_no (by omega) (Value.ref.inj hj)), fun v hv => nomatch hv⟩ (fun _ _ h => h.elim) (fun r42 hp42 hq42 => ?_)
    obtain ⟨rfl, rfl⟩ := hq42
    refine a_aload_n (i := 3) C dX6_settle_45 rfl rfl ?_
    refine a_callV C dX6_settle_46 cv_X2_openAmount tb547 (m_X2_openAmount hflags (nl := mWl nl (-a)) (by have := mWl_le (a := -a) hl; omega) hj) rfl rfl (xC_in (by omega) (by omega)) rfl (Nat.le_of_ble_eq_true rfl) ⟨Nat.le_of_ble_eq_true rfl, Nat.le_of_ble_eq_true rfl⟩ ⟨(by show _ ≤ 2 + lCel nl _; omega), (by show _ ≤ 12 + lSlt nl _; omega)⟩ (fun _ h => h.elim) xav_no (fun _ _ h => h.elim) (fun r46 hp46 hq46 => ?_)
    obtain ⟨rfl, rfl⟩ := hq46
    refine a_top (f 13 j - a) (by rw [mWf_o (by decide) (by decide), xfg_13]; exact xupd_i) ?_
    exact a_iret C dX6_settle_49 (by show _ ≤ 2 + lCel nl _; omega) (by show _ ≤ 12 + lSlt nl _; omega) (hret _ _ (by unfold cP o_settle; rw [if_neg (fun z => z (xin_of hj (by omega))), nI_clamp (show j < 2 ^ 31 by omega), if_neg hd0, if_neg (fun z => z hx)]; exact ⟨mWn_0.trans rfl, rfl, _, _, by rw [mSf_c]; exact congrArg (fun z => xC h nc ni np (mWl nl (-a)) z (mSf nl j a f) g _ _) (mWn_1 (n := nup n 0 0)).symm⟩))
