/-- parts by the rule of the customer w -/
def cPJ (ni : Nat) (f : Nat → Nat → Int32) (jc : Nat → Nat → Int32) (jr : Nat → Int64) (w : Nat) (a : Int32) : (Nat → Nat → Int32) × (Nat → Int64) := if f 6 w = 0 then (fup (xWJ f (nI w) jc ni) 4 (cSh ni f (xWJ f (nI w) jc ni) a ni).1, jr) else if f 6 w = 1 then (fup (xWJ f (nI w) jc ni) 4 (cspl (xWJ f (nI w) jc ni) jr (xgets a (xsumL (xwl (xWJ f (nI w) jc ni)) 24))).1, (cspl (xWJ f (nI w) jc ni) jr (xgets a (xsumL (xwl (xWJ f (nI w) jc ni)) 24))).2) else (xWJ f (nI w) jc ni, jr)
set_option maxRecDepth 100000 in
set_option maxHeartbeats 4000000 in
theorem m_X6_allocateByRule {l : Launch} {N0 : Nat} {D : va_G} {dT : Nat → ClassId} (hflags : l.stackTraces = false) {h : xH} {nc ni np nl : Nat} {n : Nat → Int32} {f : Nat → Nat → Int32} {g : Nat → Nat → Int64} {jc : Nat → Nat → Int32} {jr : Nat → Int64} (hB : nc ≤ 6 ∧ ni ≤ 24 ∧ np ≤ 24 ∧ nl ≤ 16000) {p w : Nat} (hpn : p < np) (hk19 : f 19 p = nI w) (hw : w < nc) (hO : ∀ i, i < ni → ∃ k, k < nc ∧ f 10 i = nI k) (hP : ∀ i, i < np → ∃ k, k < nc ∧ f 19 i = nI k) (hrv : ¬ f 21 p = 0 → f 20 p = 0) (h21 : ∀ k, k < ni → 0 < ((cPJ ni f jc jr w (f 20 p)).1 4) k → f 21 p = 0) (hln : ∀ k, k ≤ ni → (cMv p ((cPJ ni f jc jr w (f 20 p)).1 4) nl f k).1 < 16000) (hbs : xBs h)  : xMet l N0 D dT yX6_allocateByRule cX6_allocateByRule 6 (some FieldType.int) 6 (lCel nl (cMv p ((cPJ ni f jc jr w (f 20 p)).1 4) nl f ni).1) (lSlt nl (cMv p ((cPJ ni f jc jr w (f 20 p)).1 4) nl f ni).1) [.ref 0, .ref (64 + p)] (xC h nc ni np nl (n 1) f g jc jr) xnwD (fun r h' => r = some (.int (xsum ((cPJ ni f jc jr w (f 20 p)).1 4) ni)) ∧ h' = xC h nc ni np (cMv p ((cPJ ni f jc jr w (f 20 p)).1 4) nl f ni).1 (n 1) (cMv p ((cPJ ni f jc jr w (f 20 p)).1 4) nl f ni).2 g (cPJ ni f jc jr w (f 20 p)).1 (cPJ ni f jc jr w (f 20 p)).2) xNX := by
  refine xMet_of hflags (by decide +kernel) (fun j h1 h2 => by omega) (Nat.le_of_ble_eq_true rfl) ?_
  intro E C I hret hthr
  refine a_loc [(0, .ref 0), (1, .ref (64 + p))] (xsub_cons rfl (xsub_cons rfl (xsub_nil))) ?_
  obtain ⟨hc6, hi24, hp24, hl16⟩ := id hB
  have hxw : xpow f p = w := by
    unfold xpow
    rw [hk19, nI_clamp (by omega)]
  have loop : ∀ (k i : Nat), i ≤ ni → ni < i + k → aW E (lCel nl (cMv p ((cPJ ni f jc jr w (f 20 p)).1 4) nl f i).1) (lSlt nl (cMv p ((cPJ ni f jc jr w (f 20 p)).1 4) nl f i).1) (xC h nc ni np (cMv p ((cPJ ni f jc jr w (f 20 p)).1 4) nl f i).1 (n 1) (cMv p ((cPJ ni f jc jr w (f 20 p)).1 4) nl f i).2 g (cPJ ni f jc jr w (f 20 p)).1 (cPJ ni f jc jr w (f 20 p)).2) 55 [(0, .ref 0), (1, .ref (64 + p)), (3, .int (xsum ((cPJ ni f jc jr w (f 20 p)).1 4) i)), (4, .int (nI i))] [] := by
    intro k
    induction k with
    | zero => intro i h1 h2; exact absurd h2 (by omega)
    | succ k ih =>
      intro i h1 h2
      have s5 : lCel nl (cMv p ((cPJ ni f jc jr w (f 20 p)).1 4) nl f i).1 ≤ lCel nl (cMv p ((cPJ ni f jc jr w (f 20 p)).1 4) nl f ni).1 := lCel_le (cMv_mono ni h1) (by have := hln ni (Nat.le_refl _); omega)
      have s6 : lSlt nl (cMv p ((cPJ ni f jc jr w (f 20 p)).1 4) nl f i).1 ≤ lSlt nl (cMv p ((cPJ ni f jc jr w (f 20 p)).1 4) nl f ni).1 := lSlt_le (cMv_mono ni h1) (by have := hln ni (Nat.le_refl _); omega)
      refine a_iload (i := 4) C dX6_allocateByRule_55 rfl ?_
      refine a_aload_n (i := 0) C dX6_allocateByRule_57 rfl rfl ?_
      refine a_get C dX6_allocateByRule_58 fl_X6_16 xC_0 rfl ?_
      refine a_callV C dX6_allocateByRule_61 cv_Jx4a65c_size_8abf5 tb142 (m_Jx4a65c_size_8abf5 hflags xC_2) rfl rfl xC_2 rfl (Nat.le_of_ble_eq_true rfl) ⟨Nat.le_of_ble_eq_true rfl, Nat.le_of_ble_eq_true rfl⟩ ⟨(by show _ ≤ lCel nl (cMv p ((cPJ ni f jc jr w (f 20 p)).1 4) nl f ni).1; omega), (by show _ ≤ lSlt nl (cMv p ((cPJ ni f jc jr w (f 20 p)).1 4) nl f ni).1; omega)⟩ (fun _ h => h.elim) xav_no (fun _ _ h => h.elim) (fun r61 hp61 hq61 => ?_)
      obtain ⟨rfl, rfl⟩ := hq61
      refine a_icmp_ge (tgt := 98) C dX6_allocateByRule_64 (by decide) (fun c64 => ?_) (fun c64 => ?_)
      · have hie : i = ni := by
          have := (xle (by omega) (by omega)).mp c64
          omega
        rw [hie]
        refine a_iload_n (i := 3) C dX6_allocateByRule_98 rfl rfl ?_
        exact a_iret C dX6_allocateByRule_99 (by show _ ≤ lCel nl (cMv p ((cPJ ni f jc jr w (f 20 p)).1 4) nl f ni).1; omega) (by show _ ≤ lSlt nl (cMv p ((cPJ ni f jc jr w (f 20 p)).1 4) nl f ni).1; omega) (hret _ _ ⟨rfl, rfl⟩)
      · have hlt : i < ni := by
          rcases Nat.lt_or_ge i ni with q | q
          · exact q
          · exact absurd ((xle (by omega) (by omega)).mpr q) c64
        have hni := hln i h1
        have hn2 : mvN (cMv p ((cPJ ni f jc jr w (f 20 p)).1 4) nl f i).1 (((cPJ ni f jc jr w (f 20 p)).1 4) i) < 16000 := hln (i + 1) hlt
        have hge := cMv_ge (p := p) (sh := ((cPJ ni f jc jr w (f 20 p)).1 4)) (nl := nl) (f := f) i
        have hmo : mvN (cMv p ((cPJ ni f jc jr w (f 20 p)).1 4) nl f i).1 (((cPJ ni f jc jr w (f 20 p)).1 4) i) ≤ (cMv p ((cPJ ni f jc jr w (f 20 p)).1 4) nl f ni).1 := cMv_mono (i := i + 1) ni hlt
        have hne := hln ni (Nat.le_refl _)
        have s1 : lCel nl (cMv p ((cPJ ni f jc jr w (f 20 p)).1 4) nl f i).1 + lCel (cMv p ((cPJ ni f jc jr w (f 20 p)).1 4) nl f i).1 (mvN (cMv p ((cPJ ni f jc jr w (f 20 p)).1 4) nl f i).1 (((cPJ ni f jc jr w (f 20 p)).1 4) i)) = lCel nl (mvN (cMv p ((cPJ ni f jc jr w (f 20 p)).1 4) nl f i).1 (((cPJ ni f jc jr w (f 20 p)).1 4) i)) := lCel_add hge mvN_le (by omega)
        have s2 : lCel nl (mvN (cMv p ((cPJ ni f jc jr w (f 20 p)).1 4) nl f i).1 (((cPJ ni f jc jr w (f 20 p)).1 4) i)) ≤ lCel nl (cMv p ((cPJ ni f jc jr w (f 20 p)).1 4) nl f ni).1 := lCel_le hmo (by omega)
        have s3 : lSlt nl (cMv p ((cPJ ni f jc jr w (f 20 p)).1 4) nl f i).1 + lSlt (cMv p ((cPJ ni f jc jr w (f 20 p)).1 4) nl f i).1 (mvN (cMv p ((cPJ ni f jc jr w (f 20 p)).1 4) nl f i).1 (((cPJ ni f jc jr w (f 20 p)).1 4) i)) = lSlt nl (mvN (cMv p ((cPJ ni f jc jr w (f 20 p)).1 4) nl f i).1 (((cPJ ni f jc jr w (f 20 p)).1 4) i)) := lSlt_add hge mvN_le (by omega)
        have s4 : lSlt nl (mvN (cMv p ((cPJ ni f jc jr w (f 20 p)).1 4) nl f i).1 (((cPJ ni f jc jr w (f 20 p)).1 4) i)) ≤ lSlt nl (cMv p ((cPJ ni f jc jr w (f 20 p)).1 4) nl f ni).1 := lSlt_le hmo (by omega)
        refine a_aload_n (i := 0) C dX6_allocateByRule_67 rfl rfl ?_
        refine a_get C dX6_allocateByRule_68 fl_X6_32 xC_0 rfl ?_
        refine a_iload (i := 4) C dX6_allocateByRule_71 rfl ?_
        refine a_callV C dX6_allocateByRule_73 cv_X5_partOf tb632 (m_X5_partOf hflags (show nc ≤ 6 ∧ ni ≤ 24 ∧ np ≤ 24 ∧ (cMv p ((cPJ ni f jc jr w (f 20 p)).1 4) nl f i).1 ≤ 16000 from ⟨hc6, hi24, hp24, by omega⟩) (i := i) (by omega)) rfl rfl xC_10 rfl (Nat.le_of_ble_eq_true rfl) ⟨Nat.le_of_ble_eq_true rfl, Nat.le_of_ble_eq_true rfl⟩ ⟨(by show _ ≤ lCel nl (cMv p ((cPJ ni f jc jr w (f 20 p)).1 4) nl f ni).1; omega), (by show _ ≤ lSlt nl (cMv p ((cPJ ni f jc jr w (f 20 p)).1 4) nl f ni).1; omega)⟩ (fun _ h => h.elim) xav_no (fun _ _ h => h.elim) (fun r73 hp73 hq73 => ?_)
        obtain ⟨rfl, rfl⟩ := hq73
        refine a_istore (i := 5) C dX6_allocateByRule_76 (by decide) ?_
        refine a_loc [(0, .ref 0), (1, .ref (64 + p)), (4, .int (nI i)), (5, .int (((cPJ ni f jc jr w (f 20 p)).1 4) i)), (3, .int (xsum ((cPJ ni f jc jr w (f 20 p)).1 4) i))] (xsub_cons rfl (xsub_cons rfl (xsub_cons rfl (xsub_cons rfl (xsub_cons rfl (xsub_nil)))))) ?_
        refine a_aload_n (i := 0) C dX6_allocateByRule_78 rfl rfl ?_
        refine a_aload_n (i := 1) C dX6_allocateByRule_79 rfl rfl ?_
        refine a_iload (i := 4) C dX6_allocateByRule_80 rfl ?_
        refine a_iload (i := 5) C dX6_allocateByRule_82 rfl ?_
        refine a_callV C dX6_allocateByRule_84 cv_X6_moveToInvoice tb548 (m_X6_moveToInvoice hflags (show nc ≤ 6 ∧ ni ≤ 24 ∧ np ≤ 24 ∧ (cMv p ((cPJ ni f jc jr w (f 20 p)).1 4) nl f i).1 ≤ 16000 from ⟨hc6, hi24, hp24, by omega⟩) hpn hlt (fun hz => (congrFun (cMv_o (by decide) i) p).trans (h21 i hlt hz)) hni hbs (fun q hq => by unfold xow; rw [cMv_o (by decide)]; exact xow_lt hO hc6 q hq) (fun q hq => by unfold xpow; rw [cMv_o (by decide)]; exact pow_lt hP hc6 q hq)) rfl rfl xC_0 rfl (Nat.le_of_ble_eq_true rfl) ⟨Nat.le_of_ble_eq_true rfl, Nat.le_of_ble_eq_true rfl⟩ ⟨(by show _ ≤ lCel nl (cMv p ((cPJ ni f jc jr w (f 20 p)).1 4) nl f ni).1; omega), (by show _ ≤ lSlt nl (cMv p ((cPJ ni f jc jr w (f 20 p)).1 4) nl f ni).1; omega)⟩ (fun _ h => h) ⟨fun q hq j hj => (by simp only [List.mem_cons, List.not_mem_nil, or_false] at hq; rcases hq with rfl | rfl | rfl | rfl | rfl <;> first | exact Value.noConfusion hj | exact xnwD_no (by omega) (Value.ref.inj hj)), fun v hv => nomatch hv⟩ (fun _ _ h => h.elim) (fun r84 hp84 hq84 => ?_)
        obtain ⟨rfl, rfl⟩ := hq84
        refine a_iload_n (i := 3) C dX6_allocateByRule_87 rfl rfl ?_
        refine a_iload (i := 5) C dX6_allocateByRule_88 rfl ?_
        refine a_iadd C dX6_allocateByRule_90 ?_
        refine a_istore_n (i := 3) C dX6_allocateByRule_91 rfl (by decide) ?_
        refine a_iinc (i := 4) (v := nI (i + 1)) C dX6_allocateByRule_92 rfl (nI_1 i) (by decide) ?_
        refine a_goto (tgt := 55) C dX6_allocateByRule_95 (by decide) ?_
        refine aW_bud (k' := lCel nl (cMv p ((cPJ ni f jc jr w (f 20 p)).1 4) nl f (i + 1)).1) (n' := lSlt nl (cMv p ((cPJ ni f jc jr w (f 20 p)).1 4) nl f (i + 1)).1) (by show _ = lCel nl (mvN (cMv p ((cPJ ni f jc jr w (f 20 p)).1 4) nl f i).1 (((cPJ ni f jc jr w (f 20 p)).1 4) i)); omega) (by show _ = lSlt nl (mvN (cMv p ((cPJ ni f jc jr w (f 20 p)).1 4) nl f i).1 (((cPJ ni f jc jr w (f 20 p)).1 4) i)); omega) ?_
        refine a_loc _ ?_ (ih (i + 1) (by omega) (by omega))
        exact xsub_cons rfl (xsub_cons rfl (xsub_cons rfl (xsub_cons rfl (xsub_nil))))
  refine a_aload_n (i := 1) C dX6_allocateByRule_0 rfl rfl ?_
  refine a_callV C dX6_allocateByRule_1 cv_X4_unspent tb543 (m_X4_unspent hflags hB hpn hrv) rfl rfl (xC_pa (by omega) (by omega)) rfl (Nat.le_of_ble_eq_true rfl) ⟨Nat.le_of_ble_eq_true rfl, Nat.le_of_ble_eq_true rfl⟩ ⟨Nat.zero_le _, Nat.zero_le _⟩ (fun _ h => h.elim) xav_no (fun _ _ h => h.elim) (fun r1 hp1 hq1 => ?_)
  obtain ⟨rfl, rfl⟩ := hq1
  refine a_istore_n (i := 2) C dX6_allocateByRule_4 rfl (by decide) ?_
  refine a_aload_n (i := 0) C dX6_allocateByRule_5 rfl rfl ?_
  refine a_aload_n (i := 1) C dX6_allocateByRule_6 rfl rfl ?_
  refine a_get C dX6_allocateByRule_7 fl_X6_131 (xC_pa (by omega) (by omega)) (congrArg (fun z => some (Value.ref (16 + z))) hxw) ?_
  refine a_callV C dX6_allocateByRule_10 cv_X6_weighClearAmounts tb576 (m_X6_weighClearAmounts hflags hB hw hO) rfl rfl xC_0 rfl (Nat.le_of_ble_eq_true rfl) ⟨Nat.le_of_ble_eq_true rfl, Nat.le_of_ble_eq_true rfl⟩ ⟨Nat.zero_le _, Nat.zero_le _⟩ (fun _ h => h.elim) xav_no (fun _ _ h => h.elim) (fun r10 hp10 hq10 => ?_)
  obtain ⟨rfl, rfl⟩ := hq10
  refine a_aload_n (i := 1) C dX6_allocateByRule_13 rfl rfl ?_
  refine a_get C dX6_allocateByRule_14 fl_X6_131 (xC_pa (by omega) (by omega)) (congrArg (fun z => some (Value.ref (16 + z))) hxw) ?_
  refine a_get C dX6_allocateByRule_17 fl_X6_64 (xC_cu hw hc6) rfl ?_
  refine a_if_ne (tgt := 31) C dX6_allocateByRule_20 (by decide) (fun c20 => ?_) (fun c20 => ?_)
  · refine a_aload_n (i := 1) C dX6_allocateByRule_31 rfl rfl ?_
    refine a_get C dX6_allocateByRule_32 fl_X6_131 (xC_pa (by omega) (by omega)) (congrArg (fun z => some (Value.ref (16 + z))) hxw) ?_
    refine a_get C dX6_allocateByRule_35 fl_X6_64 (xC_cu hw hc6) rfl ?_
    refine a_iconst (v := 1) C dX6_allocateByRule_38 (by decide) ?_
    refine a_icmp_ne (tgt := 50) C dX6_allocateByRule_39 (by decide) (fun c39 => ?_) (fun c39 => ?_)
    · refine a_hp (show _ = xC h nc ni np nl (n 1) f g (cPJ ni f jc jr w (f 20 p)).1 (cPJ ni f jc jr w (f 20 p)).2 by unfold cPJ; first | (rw [if_pos c20]; done) | (rw [if_neg c20, if_pos c39]; done) | (rw [if_neg c20, if_neg c39]; done)) ?_
      refine a_iconst (v := 0) C dX6_allocateByRule_50 (by decide) ?_
      refine a_istore_n (i := 3) C dX6_allocateByRule_51 rfl (by decide) ?_
      refine a_iconst (v := 0) C dX6_allocateByRule_52 (by decide) ?_
      refine a_istore (i := 4) C dX6_allocateByRule_53 (by decide) ?_
      refine aW_bud (lCel_0 (a := nl)).symm (lSlt_0 (a := nl)).symm ?_
      refine a_loc _ ?_ (loop (ni + 1) 0 (Nat.zero_le _) (by omega))
      exact xsub_cons rfl (xsub_cons rfl (xsub_cons rfl (xsub_cons rfl (xsub_nil))))
    · refine a_aload_n (i := 0) C dX6_allocateByRule_42 rfl rfl ?_
      refine a_get C dX6_allocateByRule_43 fl_X6_32 xC_0 rfl ?_
      refine a_iload_n (i := 2) C dX6_allocateByRule_46 rfl rfl ?_
      refine a_callV C dX6_allocateByRule_47 cv_X5_splitUpToWeights tb613 (m_X5_splitUpToWeights hflags hB) rfl rfl xC_10 rfl (Nat.le_of_ble_eq_true rfl) ⟨Nat.le_of_ble_eq_true rfl, Nat.le_of_ble_eq_true rfl⟩ ⟨Nat.zero_le _, Nat.zero_le _⟩ (fun _ h => h.elim) xav_no (fun _ _ h => h.elim) (fun r47 hp47 hq47 => ?_)
      obtain ⟨rfl, rfl⟩ := hq47
      refine a_hp (show _ = xC h nc ni np nl (n 1) f g (cPJ ni f jc jr w (f 20 p)).1 (cPJ ni f jc jr w (f 20 p)).2 by unfold cPJ; first | (rw [if_pos c20]; done) | (rw [if_neg c20, if_pos c39]; done) | (rw [if_neg c20, if_neg c39]; done)) ?_
      refine a_iconst (v := 0) C dX6_allocateByRule_50 (by decide) ?_
      refine a_istore_n (i := 3) C dX6_allocateByRule_51 rfl (by decide) ?_
      refine a_iconst (v := 0) C dX6_allocateByRule_52 (by decide) ?_
      refine a_istore (i := 4) C dX6_allocateByRule_53 (by decide) ?_
      refine aW_bud (lCel_0 (a := nl)).symm (lSlt_0 (a := nl)).symm ?_
      refine a_loc _ ?_ (loop (ni + 1) 0 (Nat.zero_le _) (by omega))
      exact xsub_cons rfl (xsub_cons rfl (xsub_cons rfl (xsub_cons rfl (xsub_nil))))
  · refine a_aload_n (i := 0) C dX6_allocateByRule_23 rfl rfl ?_
    refine a_iload_n (i := 2) C dX6_allocateByRule_24 rfl rfl ?_
    refine a_callV C dX6_allocateByRule_25 cv_X6_shareOldestFirst tb596 (m_X6_shareOldestFirst hflags hB) rfl rfl xC_0 rfl (Nat.le_of_ble_eq_true rfl) ⟨Nat.le_of_ble_eq_true rfl, Nat.le_of_ble_eq_true rfl⟩ ⟨Nat.zero_le _, Nat.zero_le _⟩ (fun _ h => h.elim) xav_no (fun _ _ h => h.elim) (fun r25 hp25 hq25 => ?_)
    obtain ⟨rfl, rfl⟩ := hq25
    refine a_goto (tgt := 50) C dX6_allocateByRule_28 (by decide) ?_
    refine a_hp (show _ = xC h nc ni np nl (n 1) f g (cPJ ni f jc jr w (f 20 p)).1 (cPJ ni f jc jr w (f 20 p)).2 by unfold cPJ; first | (rw [if_pos c20]; done) | (rw [if_neg c20, if_pos c39]; done) | (rw [if_neg c20, if_neg c39]; done)) ?_
    refine a_iconst (v := 0) C dX6_allocateByRule_50 (by decide) ?_
    refine a_istore_n (i := 3) C dX6_allocateByRule_51 rfl (by decide) ?_
    refine a_iconst (v := 0) C dX6_allocateByRule_52 (by decide) ?_
    refine a_istore (i := 4) C dX6_allocateByRule_53 (by decide) ?_
    refine aW_bud (lCel_0 (a := nl)).symm (lSlt_0 (a := nl)).symm ?_
    refine a_loc _ ?_ (loop (ni + 1) 0 (Nat.zero_le _) (by omega))
    exact xsub_cons rfl (xsub_cons rfl (xsub_cons rfl (xsub_cons rfl (xsub_nil))))
