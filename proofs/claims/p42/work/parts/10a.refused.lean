/-! refused calls: no line is written -/
set_option maxRecDepth 100000 in
set_option maxHeartbeats 4000000 in
theorem n_X6_allocate {l : Launch} {N0 : Nat} {D : va_G} {dT : Nat → ClassId} (hflags : l.stackTraces = false) {h : xH} {nc ni np nl : Nat} {n : Nat → Int32} {f : Nat → Nat → Int32} {g : Nat → Nat → Int64} {jc : Nat → Nat → Int32} {jr : Nat → Int64} (hB : nc ≤ 6 ∧ ni ≤ 24 ∧ np ≤ 24 ∧ nl ≤ 16000) {w u a : Int32} (hO : ∀ i, i < ni → ∃ k, k < nc ∧ f 10 i = nI k) (hP : ∀ i, i < np → ∃ k, k < nc ∧ f 19 i = nI k) (hRV : ∀ p, p < np → ¬ f 21 p = 0 → f 20 p = 0) (hno : ¬ (o_allocate ni np nl w u a n f g).2.1 0 = 0)  : xMet l N0 D dT yX6_allocate cX6_allocate 6 (some FieldType.int) 9 4 24 [.ref 0, .int w, .int u, .int a] (xC h nc ni np nl (n 1) f g jc jr) xNo (fun _ _ => False) (cX (xC h nc ni np nl (n 1) f g jc jr) [("java/lang/IndexOutOfBoundsException", (1 : Int32)), ("java/lang/IllegalArgumentException", (2 : Int32)), ("java/lang/IllegalStateException", (3 : Int32))] (o_allocate ni np nl w u a n f g)) := by
  refine xMet_of hflags (by decide +kernel) (fun _ _ h => h) (Nat.le_of_ble_eq_true rfl) ?_
  intro E C I hret hthr
  refine a_loc [(0, .ref 0), (1, .int w), (2, .int u), (3, .int a)] (xsub_cons rfl (xsub_cons rfl (xsub_cons rfl (xsub_cons rfl (xsub_nil))))) ?_
  obtain ⟨hc6, hi24, hp24, hl16⟩ := id hB
  refine a_aload_n (i := 0) C dX6_allocate_0 rfl rfl ?_
  refine a_iload_n (i := 1) C dX6_allocate_1 rfl rfl ?_
  refine a_callV C dX6_allocate_2 cv_X6_paymentAt tb530 (m_X6_paymentAt hflags hB) rfl rfl xC_0 rfl (Nat.le_of_ble_eq_true rfl) ⟨Nat.le_of_ble_eq_true rfl, Nat.le_of_ble_eq_true rfl⟩ ⟨Nat.le_of_ble_eq_true rfl, Nat.le_of_ble_eq_true rfl⟩ (fun _ h => h.elim) xav_no (fun _ _ ⟨e1, e2, e3⟩ => by subst e1; subst e2; exact a_out C (fun _ h => nomatch h) (hthr _ _ ⟨rfl, by unfold o_allocate; rw [if_pos (fun z => e3 z.1)]; exact (List.Mem.head _)⟩) (Nat.le_of_ble_eq_true rfl) (Nat.le_of_ble_eq_true rfl)) (fun r2 hp2 hq2 => ?_)
  obtain ⟨j, hj, rfl, rfl, rfl⟩ := hq2
  refine a_astore (i := 4) C dX6_allocate_5 (by decide) ?_
  refine a_aload_n (i := 0) C dX6_allocate_7 rfl rfl ?_
  refine a_iload_n (i := 2) C dX6_allocate_8 rfl rfl ?_
  refine a_callV C dX6_allocate_9 cv_X6_invoiceAt tb535 (m_X6_invoiceAt hflags hB) rfl rfl xC_0 rfl (Nat.le_of_ble_eq_true rfl) ⟨Nat.le_of_ble_eq_true rfl, Nat.le_of_ble_eq_true rfl⟩ ⟨Nat.le_of_ble_eq_true rfl, Nat.le_of_ble_eq_true rfl⟩ (fun _ h => h.elim) xav_no (fun _ _ ⟨e1, e2, e3⟩ => by subst e1; subst e2; exact a_out C (fun _ h => nomatch h) (hthr _ _ ⟨rfl, by unfold o_allocate; rw [if_pos (fun z => e3 z.2)]; exact (List.Mem.head _)⟩) (Nat.le_of_ble_eq_true rfl) (Nat.le_of_ble_eq_true rfl)) (fun r9 hp9 hq9 => ?_)
  obtain ⟨i, hi, rfl, rfl, rfl⟩ := hq9
  refine a_astore (i := 5) C dX6_allocate_12 (by decide) ?_
  refine a_iload_n (i := 3) C dX6_allocate_14 rfl rfl ?_
  refine a_callS C dX6_allocate_15 cs_X6_requireCent tb539 (m_X6_requireCent hflags) rfl rfl (Nat.le_of_ble_eq_true rfl) ⟨Nat.le_of_ble_eq_true rfl, Nat.le_of_ble_eq_true rfl⟩ ⟨Nat.le_of_ble_eq_true rfl, Nat.le_of_ble_eq_true rfl⟩ (fun _ h => h.elim) xav_no (fun _ _ ⟨e1, e2, e3⟩ => by subst e1; subst e2; exact a_out C (fun _ h => nomatch h) (hthr _ _ ⟨rfl, by unfold o_allocate; rw [if_neg (fun z => z ⟨xin_of hj (by omega), xin_of hi (by omega)⟩), if_pos e3]; exact (List.Mem.tail _ (List.Mem.head _))⟩) (Nat.le_of_ble_eq_true rfl) (Nat.le_of_ble_eq_true rfl)) (fun r15 hp15 hq15 => ?_)
  obtain ⟨rfl, rfl, hx⟩ := hq15
  refine a_aload (i := 5) C dX6_allocate_18 rfl ?_
  refine a_get C dX6_allocate_20 fl_X6_127 (xC_in (by omega) (by omega)) rfl ?_
  refine a_aload (i := 4) C dX6_allocate_23 rfl ?_
  refine a_get C dX6_allocate_25 fl_X6_131 (xC_pa (by omega) (by omega)) rfl ?_
  refine a_acmp_ne (tgt := 35) C dX6_allocate_28 (by decide) (xC_cu (xow_lt hO hc6 i hi) hc6) (xC_cu (pow_lt hP hc6 j hj) hc6) (fun c28 => ?_) (fun c28 => ?_)
  · refine a_iconst (v := 0) C dX6_allocate_35 (by decide) ?_
    refine a_callS C dX6_allocate_36 cs_X6_requireState tb401 (m_X6_requireState0 hflags) rfl rfl (Nat.le_of_ble_eq_true rfl) ⟨Nat.le_of_ble_eq_true rfl, Nat.le_of_ble_eq_true rfl⟩ ⟨Nat.le_of_ble_eq_true rfl, Nat.le_of_ble_eq_true rfl⟩ (fun _ h => h.elim) xav_no (fun _ _ ⟨e1, e2⟩ => by subst e1; subst e2; exact a_out C (fun _ h => nomatch h) (hthr _ _ ⟨rfl, by unfold o_allocate; rw [if_neg (fun z => z ⟨xin_of hj (by omega), xin_of hi (by omega)⟩), nI_clamp (show j < 2 ^ 31 by omega), nI_clamp (show i < 2 ^ 31 by omega), if_neg hx, if_pos (Or.inl (fun z => c28 ((own2_iff hO hP hc6 hi hj).mpr z)))]; exact (List.Mem.tail _ (List.Mem.tail _ (List.Mem.head _)))⟩) (Nat.le_of_ble_eq_true rfl) (Nat.le_of_ble_eq_true rfl)) (fun r36 hp36 hq36 => ?_)
    exact hq36.elim
  · refine a_iconst (v := 1) C dX6_allocate_31 (by decide) ?_
    refine a_goto (tgt := 36) C dX6_allocate_32 (by decide) ?_
    refine a_callS C dX6_allocate_36 cs_X6_requireState tb401 (m_X6_requireState1 hflags) rfl rfl (Nat.le_of_ble_eq_true rfl) ⟨Nat.le_of_ble_eq_true rfl, Nat.le_of_ble_eq_true rfl⟩ ⟨Nat.le_of_ble_eq_true rfl, Nat.le_of_ble_eq_true rfl⟩ (fun _ h => h.elim) xav_no (fun _ _ h => h.elim) (fun r36 hp36 hq36 => ?_)
    obtain ⟨rfl, rfl⟩ := hq36
    refine a_iload_n (i := 3) C dX6_allocate_39 rfl rfl ?_
    refine a_aload (i := 4) C dX6_allocate_40 rfl ?_
    refine a_callV C dX6_allocate_42 cv_X4_unspent tb543 (m_X4_unspent hflags hB hj (hRV j hj)) rfl rfl (xC_pa (by omega) (by omega)) rfl (Nat.le_of_ble_eq_true rfl) ⟨Nat.le_of_ble_eq_true rfl, Nat.le_of_ble_eq_true rfl⟩ ⟨Nat.le_of_ble_eq_true rfl, Nat.le_of_ble_eq_true rfl⟩ (fun _ h => h.elim) xav_no (fun _ _ h => h.elim) (fun r42 hp42 hq42 => ?_)
    obtain ⟨rfl, rfl⟩ := hq42
    refine a_icmp_gt (tgt := 52) C dX6_allocate_45 (by decide) (fun c45 => ?_) (fun c45 => ?_)
    · refine a_iconst (v := 0) C dX6_allocate_52 (by decide) ?_
      refine a_callS C dX6_allocate_53 cs_X6_requireState tb401 (m_X6_requireState0 hflags) rfl rfl (Nat.le_of_ble_eq_true rfl) ⟨Nat.le_of_ble_eq_true rfl, Nat.le_of_ble_eq_true rfl⟩ ⟨Nat.le_of_ble_eq_true rfl, Nat.le_of_ble_eq_true rfl⟩ (fun _ h => h.elim) xav_no (fun _ _ ⟨e1, e2⟩ => by subst e1; subst e2; exact a_out C (fun _ h => nomatch h) (hthr _ _ ⟨rfl, by unfold o_allocate; rw [if_neg (fun z => z ⟨xin_of hj (by omega), xin_of hi (by omega)⟩), nI_clamp (show j < 2 ^ 31 by omega), nI_clamp (show i < 2 ^ 31 by omega), if_neg hx, if_pos (Or.inr (Or.inl c45))]; exact (List.Mem.tail _ (List.Mem.tail _ (List.Mem.head _)))⟩) (Nat.le_of_ble_eq_true rfl) (Nat.le_of_ble_eq_true rfl)) (fun r53 hp53 hq53 => ?_)
      exact hq53.elim
    · refine a_iconst (v := 1) C dX6_allocate_48 (by decide) ?_
      refine a_goto (tgt := 53) C dX6_allocate_49 (by decide) ?_
      refine a_callS C dX6_allocate_53 cs_X6_requireState tb401 (m_X6_requireState1 hflags) rfl rfl (Nat.le_of_ble_eq_true rfl) ⟨Nat.le_of_ble_eq_true rfl, Nat.le_of_ble_eq_true rfl⟩ ⟨Nat.le_of_ble_eq_true rfl, Nat.le_of_ble_eq_true rfl⟩ (fun _ h => h.elim) xav_no (fun _ _ h => h.elim) (fun r53 hp53 hq53 => ?_)
      obtain ⟨rfl, rfl⟩ := hq53
      refine a_iload_n (i := 3) C dX6_allocate_56 rfl rfl ?_
      refine a_aload (i := 5) C dX6_allocate_57 rfl ?_
      refine a_callV C dX6_allocate_59 cv_X2_openAmount tb547 (m_X2_openAmount hflags hB hi) rfl rfl (xC_in (by omega) (by omega)) rfl (Nat.le_of_ble_eq_true rfl) ⟨Nat.le_of_ble_eq_true rfl, Nat.le_of_ble_eq_true rfl⟩ ⟨Nat.le_of_ble_eq_true rfl, Nat.le_of_ble_eq_true rfl⟩ (fun _ h => h.elim) xav_no (fun _ _ h => h.elim) (fun r59 hp59 hq59 => ?_)
      obtain ⟨rfl, rfl⟩ := hq59
      refine a_icmp_gt (tgt := 69) C dX6_allocate_62 (by decide) (fun c62 => ?_) (fun c62 => ?_)
      · refine a_iconst (v := 0) C dX6_allocate_69 (by decide) ?_
        refine a_callS C dX6_allocate_70 cs_X6_requireState tb401 (m_X6_requireState0 hflags) rfl rfl (Nat.le_of_ble_eq_true rfl) ⟨Nat.le_of_ble_eq_true rfl, Nat.le_of_ble_eq_true rfl⟩ ⟨Nat.le_of_ble_eq_true rfl, Nat.le_of_ble_eq_true rfl⟩ (fun _ h => h.elim) xav_no (fun _ _ ⟨e1, e2⟩ => by subst e1; subst e2; exact a_out C (fun _ h => nomatch h) (hthr _ _ ⟨rfl, by unfold o_allocate; rw [if_neg (fun z => z ⟨xin_of hj (by omega), xin_of hi (by omega)⟩), nI_clamp (show j < 2 ^ 31 by omega), nI_clamp (show i < 2 ^ 31 by omega), if_neg hx, if_pos (Or.inr (Or.inr c62))]; exact (List.Mem.tail _ (List.Mem.tail _ (List.Mem.head _)))⟩) (Nat.le_of_ble_eq_true rfl) (Nat.le_of_ble_eq_true rfl)) (fun r70 hp70 hq70 => ?_)
        exact hq70.elim
      · refine a_iconst (v := 1) C dX6_allocate_65 (by decide) ?_
        refine a_goto (tgt := 70) C dX6_allocate_66 (by decide) ?_
        refine a_callS C dX6_allocate_70 cs_X6_requireState tb401 (m_X6_requireState1 hflags) rfl rfl (Nat.le_of_ble_eq_true rfl) ⟨Nat.le_of_ble_eq_true rfl, Nat.le_of_ble_eq_true rfl⟩ ⟨Nat.le_of_ble_eq_true rfl, Nat.le_of_ble_eq_true rfl⟩ (fun _ h => h.elim) xav_no (fun _ _ h => h.elim) (fun r70 hp70 hq70 => ?_)
        obtain ⟨rfl, rfl⟩ := hq70
        exact absurd (show (o_allocate ni np nl (nI j) (nI i) a n f g).2.1 0 = 0 by unfold o_allocate; rw [if_neg (fun z => z ⟨xin_of hj (by omega), xin_of hi (by omega)⟩), nI_clamp (show j < 2 ^ 31 by omega), nI_clamp (show i < 2 ^ 31 by omega), if_neg hx, if_neg (fun z => z.elim (fun y => y ((own2_iff hO hP hc6 hi hj).mp c28)) (fun y => y.elim c45 c62))]; exact mWn_0) hno
set_option maxRecDepth 100000 in
set_option maxHeartbeats 4000000 in
theorem n_X6_release {l : Launch} {N0 : Nat} {D : va_G} {dT : Nat → ClassId} (hflags : l.stackTraces = false) {h : xH} {nc ni np nl : Nat} {n : Nat → Int32} {f : Nat → Nat → Int32} {g : Nat → Nat → Int64} {jc : Nat → Nat → Int32} {jr : Nat → Int64} (hB : nc ≤ 6 ∧ ni ≤ 24 ∧ np ≤ 24 ∧ nl ≤ 16000) {w u : Int32} (hno : ¬ (o_release ni np nl w u n f g).2.1 0 = 0)  : xMet l N0 D dT yX6_release cX6_release 4 (some FieldType.int) 9 2 12 [.ref 0, .int w, .int u] (xC h nc ni np nl (n 1) f g jc jr) xNo (fun _ _ => False) (cX (xC h nc ni np nl (n 1) f g jc jr) [("java/lang/IndexOutOfBoundsException", (1 : Int32))] (o_release ni np nl w u n f g)) := by
  refine xMet_of hflags (by decide +kernel) (fun _ _ h => h) (Nat.le_of_ble_eq_true rfl) ?_
  intro E C I hret hthr
  refine a_loc [(0, .ref 0), (1, .int w), (2, .int u)] (xsub_cons rfl (xsub_cons rfl (xsub_cons rfl (xsub_nil)))) ?_
  obtain ⟨hc6, hi24, hp24, hl16⟩ := id hB
  refine a_aload_n (i := 0) C dX6_release_0 rfl rfl ?_
  refine a_iload_n (i := 1) C dX6_release_1 rfl rfl ?_
  refine a_callV C dX6_release_2 cv_X6_paymentAt tb530 (m_X6_paymentAt hflags hB) rfl rfl xC_0 rfl (Nat.le_of_ble_eq_true rfl) ⟨Nat.le_of_ble_eq_true rfl, Nat.le_of_ble_eq_true rfl⟩ ⟨Nat.le_of_ble_eq_true rfl, Nat.le_of_ble_eq_true rfl⟩ (fun _ h => h.elim) xav_no (fun _ _ ⟨e1, e2, e3⟩ => by subst e1; subst e2; exact a_out C (fun _ h => nomatch h) (hthr _ _ ⟨rfl, by unfold o_release; rw [if_pos (fun z => e3 z.1)]; exact (List.Mem.head _)⟩) (Nat.le_of_ble_eq_true rfl) (Nat.le_of_ble_eq_true rfl)) (fun r2 hp2 hq2 => ?_)
  obtain ⟨j, hj, rfl, rfl, rfl⟩ := hq2
  refine a_astore_n (i := 3) C dX6_release_5 rfl (by decide) ?_
  refine a_aload_n (i := 0) C dX6_release_6 rfl rfl ?_
  refine a_iload_n (i := 2) C dX6_release_7 rfl rfl ?_
  refine a_callV C dX6_release_8 cv_X6_invoiceAt tb535 (m_X6_invoiceAt hflags hB) rfl rfl xC_0 rfl (Nat.le_of_ble_eq_true rfl) ⟨Nat.le_of_ble_eq_true rfl, Nat.le_of_ble_eq_true rfl⟩ ⟨Nat.le_of_ble_eq_true rfl, Nat.le_of_ble_eq_true rfl⟩ (fun _ h => h.elim) xav_no (fun _ _ ⟨e1, e2, e3⟩ => by subst e1; subst e2; exact a_out C (fun _ h => nomatch h) (hthr _ _ ⟨rfl, by unfold o_release; rw [if_pos (fun z => e3 z.2)]; exact (List.Mem.head _)⟩) (Nat.le_of_ble_eq_true rfl) (Nat.le_of_ble_eq_true rfl)) (fun r8 hp8 hq8 => ?_)
  obtain ⟨i, hi, rfl, rfl, rfl⟩ := hq8
  exact absurd (show (o_release ni np nl (nI j) (nI i) n f g).2.1 0 = 0 by unfold o_release; rw [if_neg (fun z => z ⟨xin_of hj (by omega), xin_of hi (by omega)⟩)]; exact mWn_0) hno
set_option maxRecDepth 100000 in
set_option maxHeartbeats 4000000 in
theorem n_X6_settle {l : Launch} {N0 : Nat} {D : va_G} {dT : Nat → ClassId} (hflags : l.stackTraces = false) {h : xH} {nc ni np nl : Nat} {n : Nat → Int32} {f : Nat → Nat → Int32} {g : Nat → Nat → Int64} {jc : Nat → Nat → Int32} {jr : Nat → Int64} (hB : nc ≤ 6 ∧ ni ≤ 24 ∧ np ≤ 24 ∧ nl ≤ 16000) {w a : Int32} (h14 : ∀ i, i < ni → 0 ≤ f 14 i) (hno : ¬ (o_settle ni nl w a n f g).2.1 0 = 0)  : xMet l N0 D dT yX6_settle cX6_settle 4 (some FieldType.int) 9 3 18 [.ref 0, .int w, .int a] (xC h nc ni np nl (n 1) f g jc jr) xNo (fun _ _ => False) (cX (xC h nc ni np nl (n 1) f g jc jr) [("java/lang/IndexOutOfBoundsException", (1 : Int32)), ("java/lang/IllegalStateException", (2 : Int32)), ("java/lang/IllegalArgumentException", (3 : Int32))] (o_settle ni nl w a n f g)) := by
  refine xMet_of hflags (by decide +kernel) (fun _ _ h => h) (Nat.le_of_ble_eq_true rfl) ?_
  intro E C I hret hthr
  refine a_loc [(0, .ref 0), (1, .int w), (2, .int a)] (xsub_cons rfl (xsub_cons rfl (xsub_cons rfl (xsub_nil)))) ?_
  obtain ⟨hc6, hi24, hp24, hl16⟩ := id hB
  refine a_aload_n (i := 0) C dX6_settle_0 rfl rfl ?_
  refine a_iload_n (i := 1) C dX6_settle_1 rfl rfl ?_
  refine a_callV C dX6_settle_2 cv_X6_invoiceAt tb535 (m_X6_invoiceAt hflags hB) rfl rfl xC_0 rfl (Nat.le_of_ble_eq_true rfl) ⟨Nat.le_of_ble_eq_true rfl, Nat.le_of_ble_eq_true rfl⟩ ⟨Nat.le_of_ble_eq_true rfl, Nat.le_of_ble_eq_true rfl⟩ (fun _ h => h.elim) xav_no (fun _ _ ⟨e1, e2, e3⟩ => by subst e1; subst e2; exact a_out C (fun _ h => nomatch h) (hthr _ _ ⟨rfl, by unfold o_settle; rw [if_pos e3]; exact (List.Mem.head _)⟩) (Nat.le_of_ble_eq_true rfl) (Nat.le_of_ble_eq_true rfl)) (fun r2 hp2 hq2 => ?_)
  obtain ⟨j, hj, rfl, rfl, rfl⟩ := hq2
  refine a_astore_n (i := 3) C dX6_settle_5 rfl (by decide) ?_
  refine a_aload_n (i := 3) C dX6_settle_6 rfl rfl ?_
  refine a_get C dX6_settle_7 fl_X6_205 (xC_in (by omega) (by omega)) rfl ?_
  refine a_if_le (tgt := 17) C dX6_settle_10 (by decide) (fun c10 => ?_) (fun c10 => ?_)
  · refine a_iconst (v := 0) C dX6_settle_17 (by decide) ?_
    refine a_callS C dX6_settle_18 cs_X6_requireState tb401 (m_X6_requireState0 hflags) rfl rfl (Nat.le_of_ble_eq_true rfl) ⟨Nat.le_of_ble_eq_true rfl, Nat.le_of_ble_eq_true rfl⟩ ⟨Nat.le_of_ble_eq_true rfl, Nat.le_of_ble_eq_true rfl⟩ (fun _ h => h.elim) xav_no (fun _ _ ⟨e1, e2⟩ => by subst e1; subst e2; exact a_out C (fun _ h => nomatch h) (hthr _ _ ⟨rfl, by unfold o_settle; rw [if_neg (fun z => z (xin_of hj (by omega))), nI_clamp (show j < 2 ^ 31 by omega), if_pos (Int32.le_antisymm c10 (h14 j hj))]; exact (List.Mem.tail _ (List.Mem.head _))⟩) (Nat.le_of_ble_eq_true rfl) (Nat.le_of_ble_eq_true rfl)) (fun r18 hp18 hq18 => ?_)
    exact hq18.elim
  · have hd0 : ¬ f 14 j = 0 := fun z => absurd (Int32.not_le.mp c10) (by rw [z]; decide)
    refine a_iconst (v := 1) C dX6_settle_13 (by decide) ?_
    refine a_goto (tgt := 18) C dX6_settle_14 (by decide) ?_
    refine a_callS C dX6_settle_18 cs_X6_requireState tb401 (m_X6_requireState1 hflags) rfl rfl (Nat.le_of_ble_eq_true rfl) ⟨Nat.le_of_ble_eq_true rfl, Nat.le_of_ble_eq_true rfl⟩ ⟨Nat.le_of_ble_eq_true rfl, Nat.le_of_ble_eq_true rfl⟩ (fun _ h => h.elim) xav_no (fun _ _ h => h.elim) (fun r18 hp18 hq18 => ?_)
    obtain ⟨rfl, rfl⟩ := hq18
    refine a_iload_n (i := 2) C dX6_settle_21 rfl rfl ?_
    refine a_iconst (v := 0) C dX6_settle_22 (by decide) ?_
    refine a_aload_n (i := 3) C dX6_settle_23 rfl rfl ?_
    refine a_get C dX6_settle_24 fl_X6_205 (xC_in (by omega) (by omega)) rfl ?_
    refine a_callS C dX6_settle_27 cs_X6_requireRange tb168 (m_X6_requireRange hflags) rfl rfl (Nat.le_of_ble_eq_true rfl) ⟨Nat.le_of_ble_eq_true rfl, Nat.le_of_ble_eq_true rfl⟩ ⟨Nat.le_of_ble_eq_true rfl, Nat.le_of_ble_eq_true rfl⟩ (fun _ h => h.elim) xav_no (fun _ _ ⟨e1, e2, e3⟩ => by subst e1; subst e2; exact a_out C (fun _ h => nomatch h) (hthr _ _ ⟨rfl, by unfold o_settle; rw [if_neg (fun z => z (xin_of hj (by omega))), nI_clamp (show j < 2 ^ 31 by omega), if_neg hd0, if_pos e3]; exact (List.Mem.tail _ (List.Mem.tail _ (List.Mem.head _)))⟩) (Nat.le_of_ble_eq_true rfl) (Nat.le_of_ble_eq_true rfl)) (fun r27 hp27 hq27 => ?_)
    obtain ⟨rfl, rfl, hx⟩ := hq27
    exact absurd (show (o_settle ni nl (nI j) a n f g).2.1 0 = 0 by unfold o_settle; rw [if_neg (fun z => z (xin_of hj (by omega))), nI_clamp (show j < 2 ^ 31 by omega), if_neg hd0, if_neg (fun z => z hx)]; exact mWn_0) hno
set_option maxRecDepth 100000 in
set_option maxHeartbeats 4000000 in
theorem n_X6_reverse {l : Launch} {N0 : Nat} {D : va_G} {dT : Nat → ClassId} (hflags : l.stackTraces = false) {h : xH} {nc ni np nl : Nat} {n : Nat → Int32} {f : Nat → Nat → Int32} {g : Nat → Nat → Int64} {jc : Nat → Nat → Int32} {jr : Nat → Int64} (hB : nc ≤ 6 ∧ ni ≤ 24 ∧ np ≤ 24 ∧ nl ≤ 16000) {w : Int32} (hno : ¬ (o_reverse ni np nl w n f g).2.1 0 = 0)  : xMet l N0 D dT yX6_reverse cX6_reverse 5 (some FieldType.int) 9 2 12 [.ref 0, .int w] (xC h nc ni np nl (n 1) f g jc jr) xNo (fun _ _ => False) (cX (xC h nc ni np nl (n 1) f g jc jr) [("java/lang/IndexOutOfBoundsException", (1 : Int32)), ("java/lang/IllegalStateException", (2 : Int32))] (o_reverse ni np nl w n f g)) := by
  refine xMet_of hflags (by decide +kernel) (fun _ _ h => h) (Nat.le_of_ble_eq_true rfl) ?_
  intro E C I hret hthr
  refine a_loc [(0, .ref 0), (1, .int w)] (xsub_cons rfl (xsub_cons rfl (xsub_nil))) ?_
  obtain ⟨hc6, hi24, hp24, hl16⟩ := id hB
  refine a_aload_n (i := 0) C dX6_reverse_0 rfl rfl ?_
  refine a_iload_n (i := 1) C dX6_reverse_1 rfl rfl ?_
  refine a_callV C dX6_reverse_2 cv_X6_paymentAt tb530 (m_X6_paymentAt hflags hB) rfl rfl xC_0 rfl (Nat.le_of_ble_eq_true rfl) ⟨Nat.le_of_ble_eq_true rfl, Nat.le_of_ble_eq_true rfl⟩ ⟨Nat.le_of_ble_eq_true rfl, Nat.le_of_ble_eq_true rfl⟩ (fun _ h => h.elim) xav_no (fun _ _ ⟨e1, e2, e3⟩ => by subst e1; subst e2; exact a_out C (fun _ h => nomatch h) (hthr _ _ ⟨rfl, by unfold o_reverse; rw [if_pos e3]; exact (List.Mem.head _)⟩) (Nat.le_of_ble_eq_true rfl) (Nat.le_of_ble_eq_true rfl)) (fun r2 hp2 hq2 => ?_)
  obtain ⟨j, hj, rfl, rfl, rfl⟩ := hq2
  have ej : (nI j).toNatClampNeg = j := nI_clamp (by omega)
  refine a_astore_n (i := 2) C dX6_reverse_5 rfl (by decide) ?_
  refine a_aload_n (i := 2) C dX6_reverse_6 rfl rfl ?_
  refine a_get C dX6_reverse_7 fl_X6_146 (xC_pa (by omega) (by omega)) rfl ?_
  refine a_if_ne (tgt := 17) C dX6_reverse_10 (by decide) (fun c10 => ?_) (fun c10 => ?_)
  · refine a_iconst (v := 0) C dX6_reverse_17 (by decide) ?_
    refine a_callS C dX6_reverse_18 cs_X6_requireState tb401 (m_X6_requireState0 hflags) rfl rfl (Nat.le_of_ble_eq_true rfl) ⟨Nat.le_of_ble_eq_true rfl, Nat.le_of_ble_eq_true rfl⟩ ⟨Nat.le_of_ble_eq_true rfl, Nat.le_of_ble_eq_true rfl⟩ (fun _ h => h.elim) xav_no (fun _ _ ⟨e1, e2⟩ => by subst e1; subst e2; exact a_out C (fun _ h => nomatch h) (hthr _ _ ⟨rfl, by unfold o_reverse; rw [if_neg (fun z => z (xin_of hj (by omega))), ej, if_pos c10]; exact (List.Mem.tail _ (List.Mem.head _))⟩) (Nat.le_of_ble_eq_true rfl) (Nat.le_of_ble_eq_true rfl)) (fun r18 hp18 hq18 => ?_)
    exact hq18.elim
  · refine a_iconst (v := 1) C dX6_reverse_13 (by decide) ?_
    refine a_goto (tgt := 18) C dX6_reverse_14 (by decide) ?_
    refine a_callS C dX6_reverse_18 cs_X6_requireState tb401 (m_X6_requireState1 hflags) rfl rfl (Nat.le_of_ble_eq_true rfl) ⟨Nat.le_of_ble_eq_true rfl, Nat.le_of_ble_eq_true rfl⟩ ⟨Nat.le_of_ble_eq_true rfl, Nat.le_of_ble_eq_true rfl⟩ (fun _ h => h.elim) xav_no (fun _ _ h => h.elim) (fun r18 hp18 hq18 => ?_)
    obtain ⟨rfl, rfl⟩ := hq18
    have c0 : f 21 j = 0 := by
      first
      | exact c10
      | exact Classical.not_not.mp c10
    exact absurd (show (o_reverse ni np nl (nI j) n f g).2.1 0 = 0 by unfold o_reverse; rw [if_neg (fun z => z (xin_of hj (by omega))), ej, if_neg (fun z => z c0)]; exact mVS_n0 ni) hno
set_option maxRecDepth 100000 in
set_option maxHeartbeats 4000000 in
theorem n_X6_postInvoice {l : Launch} {N0 : Nat} {D : va_G} {dT : Nat → ClassId} (hflags : l.stackTraces = false) {h : xH} {nc ni np nl : Nat} {n : Nat → Int32} {f : Nat → Nat → Int32} {g : Nat → Nat → Int64} {jc : Nat → Nat → Int32} {jr : Nat → Int64} (hB : nc ≤ 6 ∧ ni ≤ 24 ∧ np ≤ 24 ∧ nl ≤ 16000) {w a t : Int32} (hno : ¬ (o_postInvoice nc ni nl w a t n f g).2.1 0 = 0)  : xMet l N0 D dT yX6_postInvoice cX6_postInvoice 5 (some FieldType.int) 9 4 24 [.ref 0, .int w, .int a, .int t] (xC h nc ni np nl (n 1) f g jc jr) xNo (fun _ _ => False) (cX (xC h nc ni np nl (n 1) f g jc jr) [("java/lang/IndexOutOfBoundsException", (1 : Int32)), ("java/lang/IllegalArgumentException", (2 : Int32)), ("java/lang/IllegalStateException", (3 : Int32))] (o_postInvoice nc ni nl w a t n f g)) := by
  refine xMet_of hflags (by decide +kernel) (fun _ _ h => h) (Nat.le_of_ble_eq_true rfl) ?_
  intro E C I hret hthr
  refine a_loc [(0, .ref 0), (1, .int w), (2, .int a), (3, .int t)] (xsub_cons rfl (xsub_cons rfl (xsub_cons rfl (xsub_cons rfl (xsub_nil))))) ?_
  obtain ⟨hc6, hi24, hp24, hl16⟩ := id hB
  refine a_aload_n (i := 0) C dX6_postInvoice_0 rfl rfl ?_
  refine a_iload_n (i := 1) C dX6_postInvoice_1 rfl rfl ?_
  refine a_callV C dX6_postInvoice_2 cv_X6_customerAt tb349 (m_X6_customerAt hflags hB) rfl rfl xC_0 rfl (Nat.le_of_ble_eq_true rfl) ⟨Nat.le_of_ble_eq_true rfl, Nat.le_of_ble_eq_true rfl⟩ ⟨Nat.le_of_ble_eq_true rfl, Nat.le_of_ble_eq_true rfl⟩ (fun _ h => h.elim) xav_no (fun _ _ ⟨e1, e2, e3⟩ => by subst e1; subst e2; exact a_out C (fun _ h => nomatch h) (hthr _ _ ⟨rfl, by unfold o_postInvoice; rw [if_pos e3]; exact (List.Mem.head _)⟩) (Nat.le_of_ble_eq_true rfl) (Nat.le_of_ble_eq_true rfl)) (fun r2 hp2 hq2 => ?_)
  obtain ⟨j, hj, rfl, rfl, rfl⟩ := hq2
  refine a_astore (i := 4) C dX6_postInvoice_5 (by decide) ?_
  refine a_iload_n (i := 2) C dX6_postInvoice_7 rfl rfl ?_
  refine a_iconst (v := 1) C dX6_postInvoice_8 (by decide) ?_
  refine a_ldc C dX6_postInvoice_9 tb454 ?_
  refine a_callS C dX6_postInvoice_11 cs_X6_requireRange tb168 (m_X6_requireRange hflags) rfl rfl (Nat.le_of_ble_eq_true rfl) ⟨Nat.le_of_ble_eq_true rfl, Nat.le_of_ble_eq_true rfl⟩ ⟨Nat.le_of_ble_eq_true rfl, Nat.le_of_ble_eq_true rfl⟩ (fun _ h => h.elim) xav_no (fun _ _ ⟨e1, e2, e3⟩ => by subst e1; subst e2; exact a_out C (fun _ h => nomatch h) (hthr _ _ ⟨rfl, by unfold o_postInvoice; rw [if_neg (fun z => z (xin_of hj (by omega))), if_pos (fun z => e3 z.1)]; exact (List.Mem.tail _ (List.Mem.head _))⟩) (Nat.le_of_ble_eq_true rfl) (Nat.le_of_ble_eq_true rfl)) (fun r11 hp11 hq11 => ?_)
  obtain ⟨rfl, rfl, hx1⟩ := hq11
  refine a_iload_n (i := 3) C dX6_postInvoice_14 rfl rfl ?_
  refine a_iconst (v := 0) C dX6_postInvoice_15 (by decide) ?_
  refine a_bipush (v := 120) C dX6_postInvoice_16 (by decide) ?_
  refine a_callS C dX6_postInvoice_18 cs_X6_requireRange tb168 (m_X6_requireRange hflags) rfl rfl (Nat.le_of_ble_eq_true rfl) ⟨Nat.le_of_ble_eq_true rfl, Nat.le_of_ble_eq_true rfl⟩ ⟨Nat.le_of_ble_eq_true rfl, Nat.le_of_ble_eq_true rfl⟩ (fun _ h => h.elim) xav_no (fun _ _ ⟨e1, e2, e3⟩ => by subst e1; subst e2; exact a_out C (fun _ h => nomatch h) (hthr _ _ ⟨rfl, by unfold o_postInvoice; rw [if_neg (fun z => z (xin_of hj (by omega))), if_pos (fun z => e3 z.2)]; exact (List.Mem.tail _ (List.Mem.head _))⟩) (Nat.le_of_ble_eq_true rfl) (Nat.le_of_ble_eq_true rfl)) (fun r18 hp18 hq18 => ?_)
  obtain ⟨rfl, rfl, hx2⟩ := hq18
  refine a_aload_n (i := 0) C dX6_postInvoice_21 rfl rfl ?_
  refine a_get C dX6_postInvoice_22 fl_X6_16 xC_0 rfl ?_
  refine a_callV C dX6_postInvoice_25 cv_Jx4a65c_size_8abf5 tb142 (m_Jx4a65c_size_8abf5 hflags xC_2) rfl rfl xC_2 rfl (Nat.le_of_ble_eq_true rfl) ⟨Nat.le_of_ble_eq_true rfl, Nat.le_of_ble_eq_true rfl⟩ ⟨Nat.le_of_ble_eq_true rfl, Nat.le_of_ble_eq_true rfl⟩ (fun _ h => h.elim) xav_no (fun _ _ h => h.elim) (fun r25 hp25 hq25 => ?_)
  obtain ⟨rfl, rfl⟩ := hq25
  refine a_bipush (v := 24) C dX6_postInvoice_28 (by decide) ?_
  refine a_callS C dX6_postInvoice_30 cs_X6_requireRoom tb239 (m_X6_requireRoom hflags) rfl rfl (Nat.le_of_ble_eq_true rfl) ⟨Nat.le_of_ble_eq_true rfl, Nat.le_of_ble_eq_true rfl⟩ ⟨Nat.le_of_ble_eq_true rfl, Nat.le_of_ble_eq_true rfl⟩ (fun _ h => h.elim) xav_no (fun _ _ ⟨e1, e2, e3⟩ => by subst e1; subst e2; exact a_out C (fun _ h => nomatch h) (hthr _ _ ⟨rfl, by unfold o_postInvoice; rw [if_neg (fun z => z (xin_of hj (by omega))), if_neg (fun z => z ⟨hx1, hx2⟩), if_pos (show ni = 24 by have := mt (nI_ltI (a := ni) (b := 24) (by omega) (by omega)).mpr e3; omega)]; exact (List.Mem.tail _ (List.Mem.tail _ (List.Mem.head _)))⟩) (Nat.le_of_ble_eq_true rfl) (Nat.le_of_ble_eq_true rfl)) (fun r30 hp30 hq30 => ?_)
  obtain ⟨rfl, rfl, hx4⟩ := hq30
  have hni : ni < 24 := (nI_ltI (a := ni) (b := 24) (by omega) (by omega)).mp hx4
  exact absurd (show (o_postInvoice nc ni nl (nI j) a t n f g).2.1 0 = 0 by unfold o_postInvoice; rw [if_neg (fun z => z (xin_of hj (by omega))), if_neg (fun z => z ⟨hx1, hx2⟩), if_neg (show ¬ ni = 24 by omega)]; exact mEn_0 (ni := ni)) hno
set_option maxRecDepth 100000 in
set_option maxHeartbeats 4000000 in
theorem n_X6_postPayment {l : Launch} {N0 : Nat} {D : va_G} {dT : Nat → ClassId} (hflags : l.stackTraces = false) {h : xH} {nc ni np nl : Nat} {n : Nat → Int32} {f : Nat → Nat → Int32} {g : Nat → Nat → Int64} {jc : Nat → Nat → Int32} {jr : Nat → Int64} (hB : nc ≤ 6 ∧ ni ≤ 24 ∧ np ≤ 24 ∧ nl ≤ 16000) {w a : Int32} (hno : ¬ (o_postPayment nc ni np nl w a n f g).2.1 0 = 0)  : xMet l N0 D dT yX6_postPayment cX6_postPayment 5 (some FieldType.int) 9 3 18 [.ref 0, .int w, .int a] (xC h nc ni np nl (n 1) f g jc jr) xNo (fun _ _ => False) (cX (xC h nc ni np nl (n 1) f g jc jr) [("java/lang/IndexOutOfBoundsException", (1 : Int32)), ("java/lang/IllegalArgumentException", (2 : Int32)), ("java/lang/IllegalStateException", (3 : Int32))] (o_postPayment nc ni np nl w a n f g)) := by
  refine xMet_of hflags (by decide +kernel) (fun _ _ h => h) (Nat.le_of_ble_eq_true rfl) ?_
  intro E C I hret hthr
  refine a_loc [(0, .ref 0), (1, .int w), (2, .int a)] (xsub_cons rfl (xsub_cons rfl (xsub_cons rfl (xsub_nil)))) ?_
  obtain ⟨hc6, hi24, hp24, hl16⟩ := id hB
  refine a_aload_n (i := 0) C dX6_postPayment_0 rfl rfl ?_
  refine a_iload_n (i := 1) C dX6_postPayment_1 rfl rfl ?_
  refine a_callV C dX6_postPayment_2 cv_X6_customerAt tb349 (m_X6_customerAt hflags hB) rfl rfl xC_0 rfl (Nat.le_of_ble_eq_true rfl) ⟨Nat.le_of_ble_eq_true rfl, Nat.le_of_ble_eq_true rfl⟩ ⟨Nat.le_of_ble_eq_true rfl, Nat.le_of_ble_eq_true rfl⟩ (fun _ h => h.elim) xav_no (fun _ _ ⟨e1, e2, e3⟩ => by subst e1; subst e2; exact a_out C (fun _ h => nomatch h) (hthr _ _ ⟨rfl, by unfold o_postPayment; rw [if_pos e3]; exact (List.Mem.head _)⟩) (Nat.le_of_ble_eq_true rfl) (Nat.le_of_ble_eq_true rfl)) (fun r2 hp2 hq2 => ?_)
  obtain ⟨j, hj, rfl, rfl, rfl⟩ := hq2
  refine a_astore_n (i := 3) C dX6_postPayment_5 rfl (by decide) ?_
  refine a_iload_n (i := 2) C dX6_postPayment_6 rfl rfl ?_
  refine a_iconst (v := 1) C dX6_postPayment_7 (by decide) ?_
  refine a_ldc C dX6_postPayment_8 tb454 ?_
  refine a_callS C dX6_postPayment_10 cs_X6_requireRange tb168 (m_X6_requireRange hflags) rfl rfl (Nat.le_of_ble_eq_true rfl) ⟨Nat.le_of_ble_eq_true rfl, Nat.le_of_ble_eq_true rfl⟩ ⟨Nat.le_of_ble_eq_true rfl, Nat.le_of_ble_eq_true rfl⟩ (fun _ h => h.elim) xav_no (fun _ _ ⟨e1, e2, e3⟩ => by subst e1; subst e2; exact a_out C (fun _ h => nomatch h) (hthr _ _ ⟨rfl, by unfold o_postPayment; rw [if_neg (fun z => z (xin_of hj (by omega))), if_pos (fun z => e3 z)]; exact (List.Mem.tail _ (List.Mem.head _))⟩) (Nat.le_of_ble_eq_true rfl) (Nat.le_of_ble_eq_true rfl)) (fun r10 hp10 hq10 => ?_)
  obtain ⟨rfl, rfl, hx1⟩ := hq10
  refine a_aload_n (i := 0) C dX6_postPayment_13 rfl rfl ?_
  refine a_get C dX6_postPayment_14 fl_X6_19 xC_0 rfl ?_
  refine a_callV C dX6_postPayment_17 cv_Jx4a65c_size_8abf5 tb142 (m_Jx4a65c_size_8abf5 hflags xC_3) rfl rfl xC_3 rfl (Nat.le_of_ble_eq_true rfl) ⟨Nat.le_of_ble_eq_true rfl, Nat.le_of_ble_eq_true rfl⟩ ⟨Nat.le_of_ble_eq_true rfl, Nat.le_of_ble_eq_true rfl⟩ (fun _ h => h.elim) xav_no (fun _ _ h => h.elim) (fun r17 hp17 hq17 => ?_)
  obtain ⟨rfl, rfl⟩ := hq17
  refine a_bipush (v := 24) C dX6_postPayment_20 (by decide) ?_
  refine a_callS C dX6_postPayment_22 cs_X6_requireRoom tb239 (m_X6_requireRoom hflags) rfl rfl (Nat.le_of_ble_eq_true rfl) ⟨Nat.le_of_ble_eq_true rfl, Nat.le_of_ble_eq_true rfl⟩ ⟨Nat.le_of_ble_eq_true rfl, Nat.le_of_ble_eq_true rfl⟩ (fun _ h => h.elim) xav_no (fun _ _ ⟨e1, e2, e3⟩ => by subst e1; subst e2; exact a_out C (fun _ h => nomatch h) (hthr _ _ ⟨rfl, by unfold o_postPayment; rw [if_neg (fun z => z (xin_of hj (by omega))), if_neg (fun z => z hx1), if_pos (show np = 24 by have := mt (nI_ltI (a := np) (b := 24) (by omega) (by omega)).mpr e3; omega)]; exact (List.Mem.tail _ (List.Mem.tail _ (List.Mem.head _)))⟩) (Nat.le_of_ble_eq_true rfl) (Nat.le_of_ble_eq_true rfl)) (fun r22 hp22 hq22 => ?_)
  obtain ⟨rfl, rfl, hx4⟩ := hq22
  have hnp : np < 24 := (nI_ltI (a := np) (b := 24) (by omega) (by omega)).mp hx4
  exact absurd (show (o_postPayment nc ni np nl (nI j) a n f g).2.1 0 = 0 by unfold o_postPayment; rw [if_neg (fun z => z (xin_of hj (by omega))), if_neg (fun z => z hx1), if_neg (show ¬ np = 24 by omega)]; exact mAR_nn (Or.inl rfl)) hno
set_option maxRecDepth 100000 in
set_option maxHeartbeats 4000000 in
theorem n_X6_allocateRest {l : Launch} {N0 : Nat} {D : va_G} {dT : Nat → ClassId} (hflags : l.stackTraces = false) {h : xH} {nc ni np nl : Nat} {n : Nat → Int32} {f : Nat → Nat → Int32} {g : Nat → Nat → Int64} {jc : Nat → Nat → Int32} {jr : Nat → Int64} (hB : nc ≤ 6 ∧ ni ≤ 24 ∧ np ≤ 24 ∧ nl ≤ 16000) {w : Int32} (hno : ¬ (o_allocateRest nc ni np nl w n f g).2.1 0 = 0)  : xMet l N0 D dT yX6_allocateRest cX6_allocateRest 6 (some FieldType.int) 9 1 6 [.ref 0, .int w] (xC h nc ni np nl (n 1) f g jc jr) xNo (fun _ _ => False) (cX (xC h nc ni np nl (n 1) f g jc jr) [("java/lang/IndexOutOfBoundsException", (1 : Int32))] (o_allocateRest nc ni np nl w n f g)) := by
  refine xMet_of hflags (by decide +kernel) (fun _ _ h => h) (Nat.le_of_ble_eq_true rfl) ?_
  intro E C I hret hthr
  refine a_loc [(0, .ref 0), (1, .int w)] (xsub_cons rfl (xsub_cons rfl (xsub_nil))) ?_
  obtain ⟨hc6, hi24, hp24, hl16⟩ := id hB
  refine a_aload_n (i := 0) C dX6_allocateRest_0 rfl rfl ?_
  refine a_iload_n (i := 1) C dX6_allocateRest_1 rfl rfl ?_
  refine a_callV C dX6_allocateRest_2 cv_X6_customerAt tb349 (m_X6_customerAt hflags hB) rfl rfl xC_0 rfl (Nat.le_of_ble_eq_true rfl) ⟨Nat.le_of_ble_eq_true rfl, Nat.le_of_ble_eq_true rfl⟩ ⟨Nat.le_of_ble_eq_true rfl, Nat.le_of_ble_eq_true rfl⟩ (fun _ h => h.elim) xav_no (fun _ _ ⟨e1, e2, e3⟩ => by subst e1; subst e2; exact a_out C (fun _ h => nomatch h) (hthr _ _ ⟨rfl, by unfold o_allocateRest; rw [if_pos e3]; exact (List.Mem.head _)⟩) (Nat.le_of_ble_eq_true rfl) (Nat.le_of_ble_eq_true rfl)) (fun r2 hp2 hq2 => ?_)
  obtain ⟨j, hj, rfl, rfl, rfl⟩ := hq2
  refine a_astore_n (i := 2) C dX6_allocateRest_5 rfl (by decide) ?_
  exact absurd (show (o_allocateRest nc ni np nl (nI j) n f g).2.1 0 = 0 by unfold o_allocateRest; rw [if_neg (fun z => z (xin_of hj (by omega)))]; exact mRS_nn (Or.inl rfl) np) hno
set_option maxRecDepth 100000 in
set_option maxHeartbeats 4000000 in
theorem n_X6_chargeInterest {l : Launch} {N0 : Nat} {D : va_G} {dT : Nat → ClassId} (hflags : l.stackTraces = false) {h : xH} {nc ni np nl : Nat} {n : Nat → Int32} {f : Nat → Nat → Int32} {g : Nat → Nat → Int64} {jc : Nat → Nat → Int32} {jr : Nat → Int64} (hB : nc ≤ 6 ∧ ni ≤ 24 ∧ np ≤ 24 ∧ nl ≤ 16000) {w t : Int32} (hs0 : 0 ≤ (xsum (xacs f g w) ni)) (hO : ∀ i, i < ni → ∃ k, k < nc ∧ f 10 i = nI k) (hno : ¬ (o_charge nc ni nl w t n f g).2.1 0 = 0)  : xMet l N0 D dT yX6_chargeInterest cX6_chargeInterest 7 (some FieldType.int) 9 3 18 [.ref 0, .int w, .int t] (xC h nc ni np nl (n 1) f g jc jr) xNo (fun _ _ => False) (cX (xC h nc ni np nl (n 1) f g jc jr) [("java/lang/IndexOutOfBoundsException", (1 : Int32)), ("java/lang/IllegalArgumentException", (2 : Int32)), ("java/lang/IllegalStateException", (3 : Int32))] (o_charge nc ni nl w t n f g)) := by
  refine xMet_of hflags (by decide +kernel) (fun _ _ h => h) (Nat.le_of_ble_eq_true rfl) ?_
  intro E C I hret hthr
  refine a_loc [(0, .ref 0), (1, .int w), (2, .int t)] (xsub_cons rfl (xsub_cons rfl (xsub_cons rfl (xsub_nil)))) ?_
  obtain ⟨hc6, hi24, hp24, hl16⟩ := id hB
  refine a_aload_n (i := 0) C dX6_chargeInterest_0 rfl rfl ?_
  refine a_iload_n (i := 1) C dX6_chargeInterest_1 rfl rfl ?_
  refine a_callV C dX6_chargeInterest_2 cv_X6_customerAt tb349 (m_X6_customerAt hflags hB) rfl rfl xC_0 rfl (Nat.le_of_ble_eq_true rfl) ⟨Nat.le_of_ble_eq_true rfl, Nat.le_of_ble_eq_true rfl⟩ ⟨Nat.le_of_ble_eq_true rfl, Nat.le_of_ble_eq_true rfl⟩ (fun _ h => h.elim) xav_no (fun _ _ ⟨e1, e2, e3⟩ => by subst e1; subst e2; exact a_out C (fun _ h => nomatch h) (hthr _ _ ⟨rfl, by unfold o_charge; rw [if_pos e3]; exact (List.Mem.head _)⟩) (Nat.le_of_ble_eq_true rfl) (Nat.le_of_ble_eq_true rfl)) (fun r2 hp2 hq2 => ?_)
  obtain ⟨j, hj, rfl, rfl, rfl⟩ := hq2
  refine a_astore_n (i := 3) C dX6_chargeInterest_5 rfl (by decide) ?_
  refine a_iload_n (i := 2) C dX6_chargeInterest_6 rfl rfl ?_
  refine a_iconst (v := 0) C dX6_chargeInterest_7 (by decide) ?_
  refine a_bipush (v := 120) C dX6_chargeInterest_8 (by decide) ?_
  refine a_callS C dX6_chargeInterest_10 cs_X6_requireRange tb168 (m_X6_requireRange hflags) rfl rfl (Nat.le_of_ble_eq_true rfl) ⟨Nat.le_of_ble_eq_true rfl, Nat.le_of_ble_eq_true rfl⟩ ⟨Nat.le_of_ble_eq_true rfl, Nat.le_of_ble_eq_true rfl⟩ (fun _ h => h.elim) xav_no (fun _ _ ⟨e1, e2, e3⟩ => by subst e1; subst e2; exact a_out C (fun _ h => nomatch h) (hthr _ _ ⟨rfl, by unfold o_charge; rw [if_neg (fun z => z (xin_of hj (by omega))), if_pos e3]; exact (List.Mem.tail _ (List.Mem.head _))⟩) (Nat.le_of_ble_eq_true rfl) (Nat.le_of_ble_eq_true rfl)) (fun r10 hp10 hq10 => ?_)
  obtain ⟨rfl, rfl, hx1⟩ := hq10
  refine a_aload_n (i := 0) C dX6_chargeInterest_13 rfl rfl ?_
  refine a_aload_n (i := 3) C dX6_chargeInterest_14 rfl rfl ?_
  refine a_callV C dX6_chargeInterest_15 cv_X6_accruedOfAll tb689 (m_X6_accruedOfAll hflags hB hj hO) rfl rfl xC_0 rfl (Nat.le_of_ble_eq_true rfl) ⟨Nat.le_of_ble_eq_true rfl, Nat.le_of_ble_eq_true rfl⟩ ⟨Nat.le_of_ble_eq_true rfl, Nat.le_of_ble_eq_true rfl⟩ (fun _ h => h.elim) xav_no (fun _ _ h => h.elim) (fun r15 hp15 hq15 => ?_)
  obtain ⟨rfl, rfl⟩ := hq15
  refine a_istore (i := 4) C dX6_chargeInterest_18 (by decide) ?_
  refine a_iload (i := 4) C dX6_chargeInterest_20 rfl ?_
  refine a_if_ne (tgt := 27) C dX6_chargeInterest_22 (by decide) (fun c22 => ?_) (fun c22 => ?_)
  · have hpos : 0 < (xsum (xacs f g (nI j)) ni) := Int32.lt_of_le_of_ne hs0 (Ne.symm c22)
    refine a_aload_n (i := 0) C dX6_chargeInterest_27 rfl rfl ?_
    refine a_get C dX6_chargeInterest_28 fl_X6_16 xC_0 rfl ?_
    refine a_callV C dX6_chargeInterest_31 cv_Jx4a65c_size_8abf5 tb142 (m_Jx4a65c_size_8abf5 hflags xC_2) rfl rfl xC_2 rfl (Nat.le_of_ble_eq_true rfl) ⟨Nat.le_of_ble_eq_true rfl, Nat.le_of_ble_eq_true rfl⟩ ⟨Nat.le_of_ble_eq_true rfl, Nat.le_of_ble_eq_true rfl⟩ (fun _ h => h.elim) xav_no (fun _ _ h => h.elim) (fun r31 hp31 hq31 => ?_)
    obtain ⟨rfl, rfl⟩ := hq31
    refine a_bipush (v := 24) C dX6_chargeInterest_34 (by decide) ?_
    refine a_callS C dX6_chargeInterest_36 cs_X6_requireRoom tb239 (m_X6_requireRoom hflags) rfl rfl (Nat.le_of_ble_eq_true rfl) ⟨Nat.le_of_ble_eq_true rfl, Nat.le_of_ble_eq_true rfl⟩ ⟨Nat.le_of_ble_eq_true rfl, Nat.le_of_ble_eq_true rfl⟩ (fun _ h => h.elim) xav_no (fun _ _ ⟨e1, e2, e3⟩ => by subst e1; subst e2; exact a_out C (fun _ h => nomatch h) (hthr _ _ ⟨rfl, by unfold o_charge; rw [if_neg (fun z => z (xin_of hj (by omega))), if_neg (fun z => z hx1), if_pos (show 0 < (xsum (xacs f g (nI j)) ni) ∧ ni = 24 from ⟨hpos, by have := mt (nI_ltI (a := ni) (b := 24) (by omega) (by omega)).mpr e3; omega⟩)]; exact (List.Mem.tail _ (List.Mem.tail _ (List.Mem.head _)))⟩) (Nat.le_of_ble_eq_true rfl) (Nat.le_of_ble_eq_true rfl)) (fun r36 hp36 hq36 => ?_)
    obtain ⟨rfl, rfl, hx4⟩ := hq36
    have hni : ni < 24 := (nI_ltI (a := ni) (b := 24) (by omega) (by omega)).mp hx4
    exact absurd (show (o_charge nc ni nl (nI j) t n f g).2.1 0 = 0 by unfold o_charge; rw [if_neg (fun z => z (xin_of hj (by omega))), if_neg (fun z => z hx1), if_neg (fun z => absurd z.2 (by omega)), if_neg c22]; exact mEn_0 (ni := ni)) hno
  · exact absurd (show (o_charge nc ni nl (nI j) t n f g).2.1 0 = 0 by unfold o_charge; rw [if_neg (fun z => z (xin_of hj (by omega))), if_neg (fun z => z hx1), if_neg (fun z => absurd z.1 (by rw [c22]; decide)), if_pos c22]; exact rfl) hno
