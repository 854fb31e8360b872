theorem own2_iff {nc ni np i j : Nat} {f : Nat → Nat → Int32} (hO : ∀ i, i < ni → ∃ k, k < nc ∧ f 10 i = nI k) (hP : ∀ i, i < np → ∃ k, k < nc ∧ f 19 i = nI k) (hc : nc ≤ 6) (hi : i < ni) (hj : j < np) : 16 + xow f i = 16 + xpow f j ↔ f 10 i = f 19 j := by
  obtain ⟨k, h1, h2⟩ := hO i hi
  obtain ⟨q, h3, h4⟩ := hP j hj
  unfold xpow
  rw [xow_eq h2 (by omega), h4, nI_clamp (by omega), h2, nI_eq (by omega) (by omega)]
  omega
theorem i32_pos {a : Int32} (h : ¬ a < 1) : 0 < a := by
  rw [Int32.lt_iff_toInt_lt] at h ⊢
  have h1 : (1 : Int32).toInt = 1 := rfl
  have h0 : (0 : Int32).toInt = 0 := rfl
  omega
theorem mPf_13 {nl p i : Nat} {a : Int32} {f : Nat → Nat → Int32} : mPf nl p i a f 13 i = f 13 i - a := by
  unfold mPf
  rw [mWf_o (by decide) (by decide)]
  exact xupd_i
set_option maxRecDepth 100000 in
set_option maxHeartbeats 4000000 in
theorem m_X6_allocate {l : Launch} {N0 : Nat} {D : va_G} {dT : Nat → ClassId} (hflags : l.stackTraces = false) {h : xH} {nc ni np nl : Nat} {n : Nat → Int32} {f : Nat → Nat → Int32} {g : Nat → Nat → Int64} {jc : Nat → Nat → Int32} {jr : Nat → Int64} (hB : nc ≤ 6 ∧ ni ≤ 24 ∧ np ≤ 24 ∧ nl ≤ 16000) {w u a : Int32} (hO : ∀ i, i < ni → ∃ k, k < nc ∧ f 10 i = nI k) (hP : ∀ i, i < np → ∃ k, k < nc ∧ f 19 i = nI k) (hRV : ∀ p, p < np → ¬ f 21 p = 0 → f 20 p = 0) (hl : nl < 16000) (hbs : xBs h)  : xMet l N0 D dT yX6_allocate cX6_allocate 6 (some FieldType.int) 9 (4 + lCel nl (mWl nl (-a))) (24 + lSlt nl (mWl nl (-a))) [.ref 0, .int w, .int u, .int a] (xC h nc ni np nl (n 1) f g jc jr) xnwD (cP h nc ni np (mWl nl (-a)) (o_allocate ni np nl w u a n f g)) (cX (xC h nc ni np nl (n 1) f g jc jr) [("java/lang/IndexOutOfBoundsException", (1 : Int32)), ("java/lang/IllegalArgumentException", (2 : Int32)), ("java/lang/IllegalStateException", (3 : Int32))] (o_allocate ni np nl w u a n f g)) := by
  refine xMet_of hflags (by decide +kernel) (fun j h1 h2 => by omega) (Nat.le_of_ble_eq_true rfl) ?_
  intro E C I hret hthr
  refine a_loc [(0, .ref 0), (1, .int w), (2, .int u), (3, .int a)] (xsub_cons rfl (xsub_cons rfl (xsub_cons rfl (xsub_cons rfl (xsub_nil))))) ?_
  obtain ⟨hc6, hi24, hp24, hl16⟩ := id hB
  refine a_aload_n (i := 0) C dX6_allocate_0 rfl rfl ?_
  refine a_iload_n (i := 1) C dX6_allocate_1 rfl rfl ?_
  refine a_callV C dX6_allocate_2 cv_X6_paymentAt tb530 (m_X6_paymentAt hflags hB) rfl rfl xC_0 rfl (Nat.le_of_ble_eq_true rfl) ⟨Nat.le_of_ble_eq_true rfl, Nat.le_of_ble_eq_true rfl⟩ ⟨(by show _ ≤ 4 + lCel nl _; omega), (by show _ ≤ 24 + lSlt nl _; omega)⟩ (fun _ h => h.elim) xav_no (fun _ _ ⟨e1, e2, e3⟩ => by subst e1; subst e2; exact a_out C (fun _ h => nomatch h) (hthr _ _ ⟨rfl, by unfold o_allocate; rw [if_pos (fun z => e3 z.1)]; exact (List.Mem.head _)⟩) (by show _ ≤ 4 + lCel nl _; omega) (by show _ ≤ 24 + lSlt nl _; omega)) (fun r2 hp2 hq2 => ?_)
  obtain ⟨j, hj, rfl, rfl, rfl⟩ := hq2
  refine a_astore (i := 4) C dX6_allocate_5 (by decide) ?_
  refine a_aload_n (i := 0) C dX6_allocate_7 rfl rfl ?_
  refine a_iload_n (i := 2) C dX6_allocate_8 rfl rfl ?_
  refine a_callV C dX6_allocate_9 cv_X6_invoiceAt tb535 (m_X6_invoiceAt hflags hB) rfl rfl xC_0 rfl (Nat.le_of_ble_eq_true rfl) ⟨Nat.le_of_ble_eq_true rfl, Nat.le_of_ble_eq_true rfl⟩ ⟨(by show _ ≤ 4 + lCel nl _; omega), (by show _ ≤ 24 + lSlt nl _; omega)⟩ (fun _ h => h.elim) xav_no (fun _ _ ⟨e1, e2, e3⟩ => by subst e1; subst e2; exact a_out C (fun _ h => nomatch h) (hthr _ _ ⟨rfl, by unfold o_allocate; rw [if_pos (fun z => e3 z.2)]; exact (List.Mem.head _)⟩) (by show _ ≤ 4 + lCel nl _; omega) (by show _ ≤ 24 + lSlt nl _; omega)) (fun r9 hp9 hq9 => ?_)
  obtain ⟨i, hi, rfl, rfl, rfl⟩ := hq9
  refine a_astore (i := 5) C dX6_allocate_12 (by decide) ?_
  refine a_iload_n (i := 3) C dX6_allocate_14 rfl rfl ?_
  refine a_callS C dX6_allocate_15 cs_X6_requireCent tb539 (m_X6_requireCent hflags) rfl rfl (Nat.le_of_ble_eq_true rfl) ⟨Nat.le_of_ble_eq_true rfl, Nat.le_of_ble_eq_true rfl⟩ ⟨(by show _ ≤ 4 + lCel nl _; omega), (by show _ ≤ 24 + lSlt nl _; omega)⟩ (fun _ h => h.elim) xav_no (fun _ _ ⟨e1, e2, e3⟩ => by subst e1; subst e2; exact a_out C (fun _ h => nomatch h) (hthr _ _ ⟨rfl, by unfold o_allocate; rw [if_neg (fun z => z ⟨xin_of hj (by omega), xin_of hi (by omega)⟩), if_pos e3]; exact (List.Mem.tail _ (List.Mem.head _))⟩) (by show _ ≤ 4 + lCel nl _; omega) (by show _ ≤ 24 + lSlt nl _; omega)) (fun r15 hp15 hq15 => ?_)
  obtain ⟨rfl, rfl, hx⟩ := hq15
  refine a_aload (i := 5) C dX6_allocate_18 rfl ?_
  refine a_get C dX6_allocate_20 fl_X6_127 (xC_in (by omega) (by omega)) rfl ?_
  refine a_aload (i := 4) C dX6_allocate_23 rfl ?_
  refine a_get C dX6_allocate_25 fl_X6_131 (xC_pa (by omega) (by omega)) rfl ?_
  refine a_acmp_ne (tgt := 35) C dX6_allocate_28 (by decide) (xC_cu (xow_lt hO hc6 i hi) hc6) (xC_cu (pow_lt hP hc6 j hj) hc6) (fun c28 => ?_) (fun c28 => ?_)
  · refine a_iconst (v := 0) C dX6_allocate_35 (by decide) ?_
    refine a_callS C dX6_allocate_36 cs_X6_requireState tb401 (m_X6_requireState0 hflags) rfl rfl (Nat.le_of_ble_eq_true rfl) ⟨Nat.le_of_ble_eq_true rfl, Nat.le_of_ble_eq_true rfl⟩ ⟨(by show _ ≤ 4 + lCel nl _; omega), (by show _ ≤ 24 + lSlt nl _; omega)⟩ (fun _ h => h.elim) xav_no (fun _ _ ⟨e1, e2⟩ => by subst e1; subst e2; exact a_out C (fun _ h => nomatch h) (hthr _ _ ⟨rfl, by unfold o_allocate; rw [if_neg (fun z => z ⟨xin_of hj (by omega), xin_of hi (by omega)⟩), nI_clamp (show j < 2 ^ 31 by omega), nI_clamp (show i < 2 ^ 31 by omega), if_neg hx, if_pos (Or.inl (fun z => c28 ((own2_iff hO hP hc6 hi hj).mpr z)))]; exact (List.Mem.tail _ (List.Mem.tail _ (List.Mem.head _)))⟩) (by show _ ≤ 4 + lCel nl _; omega) (by show _ ≤ 24 + lSlt nl _; omega)) (fun r36 hp36 hq36 => ?_)
    exact hq36.elim
  · refine a_iconst (v := 1) C dX6_allocate_31 (by decide) ?_
    refine a_goto (tgt := 36) C dX6_allocate_32 (by decide) ?_
    refine a_callS C dX6_allocate_36 cs_X6_requireState tb401 (m_X6_requireState1 hflags) rfl rfl (Nat.le_of_ble_eq_true rfl) ⟨Nat.le_of_ble_eq_true rfl, Nat.le_of_ble_eq_true rfl⟩ ⟨(by show _ ≤ 4 + lCel nl _; omega), (by show _ ≤ 24 + lSlt nl _; omega)⟩ (fun _ h => h.elim) xav_no (fun _ _ h => h.elim) (fun r36 hp36 hq36 => ?_)
    obtain ⟨rfl, rfl⟩ := hq36
    refine a_iload_n (i := 3) C dX6_allocate_39 rfl rfl ?_
    refine a_aload (i := 4) C dX6_allocate_40 rfl ?_
    refine a_callV C dX6_allocate_42 cv_X4_unspent tb543 (m_X4_unspent hflags hB hj (hRV j hj)) rfl rfl (xC_pa (by omega) (by omega)) rfl (Nat.le_of_ble_eq_true rfl) ⟨Nat.le_of_ble_eq_true rfl, Nat.le_of_ble_eq_true rfl⟩ ⟨(by show _ ≤ 4 + lCel nl _; omega), (by show _ ≤ 24 + lSlt nl _; omega)⟩ (fun _ h => h.elim) xav_no (fun _ _ h => h.elim) (fun r42 hp42 hq42 => ?_)
    obtain ⟨rfl, rfl⟩ := hq42
    refine a_icmp_gt (tgt := 52) C dX6_allocate_45 (by decide) (fun c45 => ?_) (fun c45 => ?_)
    · refine a_iconst (v := 0) C dX6_allocate_52 (by decide) ?_
      refine a_callS C dX6_allocate_53 cs_X6_requireState tb401 (m_X6_requireState0 hflags) rfl rfl (Nat.le_of_ble_eq_true rfl) ⟨Nat.le_of_ble_eq_true rfl, Nat.le_of_ble_eq_true rfl⟩ ⟨(by show _ ≤ 4 + lCel nl _; omega), (by show _ ≤ 24 + lSlt nl _; omega)⟩ (fun _ h => h.elim) xav_no (fun _ _ ⟨e1, e2⟩ => by subst e1; subst e2; exact a_out C (fun _ h => nomatch h) (hthr _ _ ⟨rfl, by unfold o_allocate; rw [if_neg (fun z => z ⟨xin_of hj (by omega), xin_of hi (by omega)⟩), nI_clamp (show j < 2 ^ 31 by omega), nI_clamp (show i < 2 ^ 31 by omega), if_neg hx, if_pos (Or.inr (Or.inl c45))]; exact (List.Mem.tail _ (List.Mem.tail _ (List.Mem.head _)))⟩) (by show _ ≤ 4 + lCel nl _; omega) (by show _ ≤ 24 + lSlt nl _; omega)) (fun r53 hp53 hq53 => ?_)
      exact hq53.elim
    · refine a_iconst (v := 1) C dX6_allocate_48 (by decide) ?_
      refine a_goto (tgt := 53) C dX6_allocate_49 (by decide) ?_
      refine a_callS C dX6_allocate_53 cs_X6_requireState tb401 (m_X6_requireState1 hflags) rfl rfl (Nat.le_of_ble_eq_true rfl) ⟨Nat.le_of_ble_eq_true rfl, Nat.le_of_ble_eq_true rfl⟩ ⟨(by show _ ≤ 4 + lCel nl _; omega), (by show _ ≤ 24 + lSlt nl _; omega)⟩ (fun _ h => h.elim) xav_no (fun _ _ h => h.elim) (fun r53 hp53 hq53 => ?_)
      obtain ⟨rfl, rfl⟩ := hq53
      refine a_iload_n (i := 3) C dX6_allocate_56 rfl rfl ?_
      refine a_aload (i := 5) C dX6_allocate_57 rfl ?_
      refine a_callV C dX6_allocate_59 cv_X2_openAmount tb547 (m_X2_openAmount hflags hB hi) rfl rfl (xC_in (by omega) (by omega)) rfl (Nat.le_of_ble_eq_true rfl) ⟨Nat.le_of_ble_eq_true rfl, Nat.le_of_ble_eq_true rfl⟩ ⟨(by show _ ≤ 4 + lCel nl _; omega), (by show _ ≤ 24 + lSlt nl _; omega)⟩ (fun _ h => h.elim) xav_no (fun _ _ h => h.elim) (fun r59 hp59 hq59 => ?_)
      obtain ⟨rfl, rfl⟩ := hq59
      refine a_icmp_gt (tgt := 69) C dX6_allocate_62 (by decide) (fun c62 => ?_) (fun c62 => ?_)
      · refine a_iconst (v := 0) C dX6_allocate_69 (by decide) ?_
        refine a_callS C dX6_allocate_70 cs_X6_requireState tb401 (m_X6_requireState0 hflags) rfl rfl (Nat.le_of_ble_eq_true rfl) ⟨Nat.le_of_ble_eq_true rfl, Nat.le_of_ble_eq_true rfl⟩ ⟨(by show _ ≤ 4 + lCel nl _; omega), (by show _ ≤ 24 + lSlt nl _; omega)⟩ (fun _ h => h.elim) xav_no (fun _ _ ⟨e1, e2⟩ => by subst e1; subst e2; exact a_out C (fun _ h => nomatch h) (hthr _ _ ⟨rfl, by unfold o_allocate; rw [if_neg (fun z => z ⟨xin_of hj (by omega), xin_of hi (by omega)⟩), nI_clamp (show j < 2 ^ 31 by omega), nI_clamp (show i < 2 ^ 31 by omega), if_neg hx, if_pos (Or.inr (Or.inr c62))]; exact (List.Mem.tail _ (List.Mem.tail _ (List.Mem.head _)))⟩) (by show _ ≤ 4 + lCel nl _; omega) (by show _ ≤ 24 + lSlt nl _; omega)) (fun r70 hp70 hq70 => ?_)
        exact hq70.elim
      · refine a_iconst (v := 1) C dX6_allocate_65 (by decide) ?_
        refine a_goto (tgt := 70) C dX6_allocate_66 (by decide) ?_
        refine a_callS C dX6_allocate_70 cs_X6_requireState tb401 (m_X6_requireState1 hflags) rfl rfl (Nat.le_of_ble_eq_true rfl) ⟨Nat.le_of_ble_eq_true rfl, Nat.le_of_ble_eq_true rfl⟩ ⟨(by show _ ≤ 4 + lCel nl _; omega), (by show _ ≤ 24 + lSlt nl _; omega)⟩ (fun _ h => h.elim) xav_no (fun _ _ h => h.elim) (fun r70 hp70 hq70 => ?_)
        obtain ⟨rfl, rfl⟩ := hq70
        have ca : 0 < a := i32_pos hx
        have hmv : mvN nl a = mWl nl (-a) := if_pos ca
        have hz21 : f 21 j = 0 := Classical.byContradiction fun z => absurd ca (Int32.not_lt.mpr (by rw [← hRV j hj z]; exact Int32.not_lt.mp c45))
        refine a_loc [(0, .ref 0), (1, .int (nI j)), (2, .int (nI i)), (3, .int a), (4, .ref (64 + j)), (5, .ref (32 + i))] (xsub_cons rfl (xsub_cons rfl (xsub_cons rfl (xsub_cons rfl (xsub_cons rfl (xsub_cons rfl (xsub_nil))))))) ?_
        refine a_aload_n (i := 0) C dX6_allocate_73 rfl rfl ?_
        refine a_aload (i := 4) C dX6_allocate_74 rfl ?_
        refine a_iload_n (i := 2) C dX6_allocate_76 rfl rfl ?_
        refine a_iload_n (i := 3) C dX6_allocate_77 rfl rfl ?_
        refine a_callV C dX6_allocate_78 cv_X6_moveToInvoice tb548 (m_X6_moveToInvoice hflags hB hj hi (fun _ => hz21) hl hbs (xow_lt hO hc6) (pow_lt hP hc6)) rfl rfl xC_0 rfl (Nat.le_of_ble_eq_true rfl) ⟨Nat.le_of_ble_eq_true rfl, Nat.le_of_ble_eq_true rfl⟩ ⟨(by show _ ≤ 4 + lCel nl (mWl nl (-a)); rw [hmv]; omega), (by show _ ≤ 24 + lSlt nl (mWl nl (-a)); rw [hmv]; omega)⟩ (fun _ h => h) ⟨fun q hq j hj => (by simp only [List.mem_cons, List.not_mem_nil, or_false] at hq; rcases hq with rfl | rfl | rfl | rfl | rfl | rfl <;> first | exact Value.noConfusion hj | exact xnwD_no (by omega) (Value.ref.inj hj)), fun v hv => nomatch hv⟩ (fun _ _ h => h.elim) (fun r78 hp78 hq78 => ?_)
        obtain ⟨rfl, rfl⟩ := hq78
        refine a_hp (show _ = xC h nc ni np (mWl nl (-a)) (n 1) (mPf nl j i a f) g jc jr by rw [hmv, show mvF nl j i a f = mPf nl j i a f from if_pos ca]) ?_
        refine a_aload (i := 5) C dX6_allocate_81 rfl ?_
        refine a_callV C dX6_allocate_83 cv_X2_openAmount tb547 (m_X2_openAmount hflags (nl := mWl nl (-a)) (by have := mWl_le (a := -a) hl; omega) hi) rfl rfl (xC_in (by omega) (by omega)) rfl (Nat.le_of_ble_eq_true rfl) ⟨Nat.le_of_ble_eq_true rfl, Nat.le_of_ble_eq_true rfl⟩ ⟨(by show _ ≤ 4 + lCel nl (mWl nl (-a)); rw [hmv]; omega), (by show _ ≤ 24 + lSlt nl (mWl nl (-a)); rw [hmv]; omega)⟩ (fun _ h => h.elim) xav_no (fun _ _ h => h.elim) (fun r83 hp83 hq83 => ?_)
        obtain ⟨rfl, rfl⟩ := hq83
        refine a_top (f 13 i - a) mPf_13 ?_
        exact a_iret C dX6_allocate_86 (by show _ ≤ 4 + lCel nl (mWl nl (-a)); rw [hmv]; omega) (by show _ ≤ 24 + lSlt nl (mWl nl (-a)); rw [hmv]; omega) (hret _ _ (by unfold cP o_allocate; rw [if_neg (fun z => z ⟨xin_of hj (by omega), xin_of hi (by omega)⟩), nI_clamp (show j < 2 ^ 31 by omega), nI_clamp (show i < 2 ^ 31 by omega), if_neg hx, if_neg (fun z => z.elim (fun y => y ((own2_iff hO hP hc6 hi hj).mp c28)) (fun y => y.elim c45 c62))]; exact ⟨mWn_0.trans rfl, rfl, jc, jr, congrArg (fun z => xC h nc ni np (mWl nl (-a)) z (mPf nl j i a f) g jc jr) (mWn_1 (n := nup n 0 0)).symm⟩))
