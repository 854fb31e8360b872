theorem mShf_o {ni w : Nat} {a : Int32} {f : Nat → Nat → Int32} {g : Nat → Nat → Int64} {j : Nat} (h : j ≠ 25) : mShf ni w a f g j = f j := by
  unfold mShf
  split
  · exact fup_n h
  · split <;> exact fup_n h
theorem mAR_o {ni nl p w : Nat} {n : Nat → Int32} {f : Nat → Nat → Int32} {g : Nat → Nat → Int64} {j : Nat} (h : j ≠ 23 ∧ j ≠ 24 ∧ j ≠ 22 ∧ j ≠ 20 ∧ j ≠ 13 ∧ j ≠ 14 ∧ j ≠ 18 ∧ j ≠ 17) (h2 : j ≠ 25) : (mAR ni nl p w n f g).2.2.2.1 j = f j := by
  unfold mAR
  split
  · show (mAS _ _ _ _ _ _).2.2 j = f j
    rw [mAS_o h]
    exact mShf_o h2
  · rfl
/-- the rests of the first k payments, allocated -/
def mRS (ni nl w : Nat) (n : Nat → Int32) (f : Nat → Nat → Int32) (g : Nat → Nat → Int64) : Nat → Int32 × Nat × mS
  | 0 => (0, nl, n, f, g)
  | k + 1 => if f 19 k = nI w then ((mRS ni nl w n f g k).1 + (mAR ni (mRS ni nl w n f g k).2.1 k w (mRS ni nl w n f g k).2.2.1 (mRS ni nl w n f g k).2.2.2.1 (mRS ni nl w n f g k).2.2.2.2).1, (mAR ni (mRS ni nl w n f g k).2.1 k w (mRS ni nl w n f g k).2.2.1 (mRS ni nl w n f g k).2.2.2.1 (mRS ni nl w n f g k).2.2.2.2).2) else ((mRS ni nl w n f g k).1 + 0, (mRS ni nl w n f g k).2)
theorem mRS_t {ni nl w : Nat} {n : Nat → Int32} {f : Nat → Nat → Int32} {g : Nat → Nat → Int64} {k : Nat} (h : f 19 k = nI w) : mRS ni nl w n f g (k + 1) = ((mRS ni nl w n f g k).1 + (mAR ni (mRS ni nl w n f g k).2.1 k w (mRS ni nl w n f g k).2.2.1 (mRS ni nl w n f g k).2.2.2.1 (mRS ni nl w n f g k).2.2.2.2).1, (mAR ni (mRS ni nl w n f g k).2.1 k w (mRS ni nl w n f g k).2.2.1 (mRS ni nl w n f g k).2.2.2.1 (mRS ni nl w n f g k).2.2.2.2).2) := if_pos h
theorem mRS_f {ni nl w : Nat} {n : Nat → Int32} {f : Nat → Nat → Int32} {g : Nat → Nat → Int64} {k : Nat} (h : ¬ f 19 k = nI w) : mRS ni nl w n f g (k + 1) = ((mRS ni nl w n f g k).1 + 0, (mRS ni nl w n f g k).2) := if_neg h
theorem mRS_o {ni nl w : Nat} {n : Nat → Int32} {f : Nat → Nat → Int32} {g : Nat → Nat → Int64} {j : Nat} (h : j ≠ 23 ∧ j ≠ 24 ∧ j ≠ 22 ∧ j ≠ 20 ∧ j ≠ 13 ∧ j ≠ 14 ∧ j ≠ 18 ∧ j ≠ 17) (h2 : j ≠ 25) : ∀ k, (mRS ni nl w n f g k).2.2.2.1 j = f j := by
  intro k
  induction k with
  | zero => rfl
  | succ k ih =>
    by_cases hs : f 19 k = nI w
    · rw [mRS_t hs]
      show (mAR _ _ _ _ _ _ _).2.2.2.1 j = f j
      rw [mAR_o h h2, ih]
    · rw [mRS_f hs]
      exact ih
def mRok (ni np nl w : Nat) (n : Nat → Int32) (f : Nat → Nat → Int32) (g : Nat → Nat → Int64) : Prop := ∀ k, k < np → f 19 k = nI w → mAok ni (mRS ni nl w n f g k).2.1 k w (mRS ni nl w n f g k).2.2.1 (mRS ni nl w n f g k).2.2.2.1 (mRS ni nl w n f g k).2.2.2.2
theorem mRS_I {nc ni np nl w : Nat} {n : Nat → Int32} {f : Nat → Nat → Int32} {g : Nat → Nat → Int64} (hI : xI n nc ni np nl) (hok : mRok ni np nl w n f g) : ∀ k, k ≤ np → xI (mRS ni nl w n f g k).2.2.1 nc ni np (mRS ni nl w n f g k).2.1 := by
  intro k
  induction k with
  | zero => intro _; exact hI
  | succ k ih =>
    intro hk
    by_cases hs : f 19 k = nI w
    · rw [mRS_t hs]
      exact mAR_I (ih (by omega)) (hok k (by omega) hs)
    · rw [mRS_f hs]
      exact ih (by omega)
def o_allocateRest (nc ni np nl : Nat) (c : Int32) (n : Nat → Int32) (f : Nat → Nat → Int32) (g : Nat → Nat → Int64) : Int32 × mS := if ¬ xin c nc then oNo 1 n f g else ((mRS ni nl c.toNatClampNeg (nup n 0 0) f g np).1, (mRS ni nl c.toNatClampNeg (nup n 0 0) f g np).2.2)
/-- what the first k invoices give back of a payment -/
def mVS (p nl : Nat) (n : Nat → Int32) (f : Nat → Nat → Int32) : Nat → Int32 × Nat × (Nat → Int32) × (Nat → Nat → Int32)
  | 0 => (0, nl, n, f)
  | k + 1 => ((mVS p nl n f k).1 + (mVS p nl n f k).2.2.2 22 (24 * p + k), mWl (mVS p nl n f k).2.1 ((mVS p nl n f k).2.2.2 22 (24 * p + k)), mWn (mVS p nl n f k).2.1 ((mVS p nl n f k).2.2.2 22 (24 * p + k)) (mVS p nl n f k).2.2.1, mBf (mVS p nl n f k).2.1 p k (mVS p nl n f k).2.2.2)
theorem mVS_I {p nc ni np nl : Nat} {n : Nat → Int32} {f : Nat → Nat → Int32} (hI : xI n nc ni np nl) {m : Nat} (hl : ∀ k, k < m → (mVS p nl n f k).2.1 < 16000) : ∀ k, k ≤ m → xI (mVS p nl n f k).2.2.1 nc ni np (mVS p nl n f k).2.1 := by
  intro k
  induction k with
  | zero => intro _; exact hI
  | succ k ih => intro hk; exact xI_W (ih (by omega)) (hl k (by omega))
def o_reverse (ni np nl : Nat) (p : Int32) (n : Nat → Int32) (f : Nat → Nat → Int32) (g : Nat → Nat → Int64) : Int32 × mS := if ¬ xin p np then oNo 1 n f g else if ¬ f 21 p.toNatClampNeg = 0 then oNo 2 n f g else ((mVS p.toNatClampNeg nl (nup n 0 0) f ni).1, (mVS p.toNatClampNeg nl (nup n 0 0) f ni).2.2.1, fup (fup (mVS p.toNatClampNeg nl (nup n 0 0) f ni).2.2.2 20 (upd ((mVS p.toNatClampNeg nl (nup n 0 0) f ni).2.2.2 20) p.toNatClampNeg 0)) 21 (upd ((mVS p.toNatClampNeg nl (nup n 0 0) f ni).2.2.2 21) p.toNatClampNeg 1), g)
set_option maxRecDepth 100000 in
set_option maxHeartbeats 4000000 in
theorem m_X7_allocateRest {l : Launch} {N0 : Nat} {D : va_G} {dT : Nat → ClassId} (hflags : l.stackTraces = false) {h : xH} {n : Nat → Int32} {f : Nat → Nat → Int32} {g : Nat → Nat → Int64} {nc ni np nl : Nat} (hI : xI n nc ni np nl) {c : Int32} (hok : xin c nc → mRok ni np nl c.toNatClampNeg (nup n 0 0) f g)  : xMet l N0 D dT yX7_allocateRest cX7_allocateRest 4 (some FieldType.int) 5 0 0 [.ref 200, .int c] (xM h n f g) xNo (mP h (o_allocateRest nc ni np nl c n f g)) xNX := by
  refine xMet_of hflags (by decide +kernel) (fun _ _ h => h) (Nat.le_of_ble_eq_true rfl) ?_
  intro E C I hret hthr
  refine a_loc [(0, .ref 200), (1, .int c)] (xsub_cons rfl (xsub_cons rfl (xsub_nil))) ?_
  obtain ⟨hc, hi, hpy, hln, hc6, hi24, hp24, hlm⟩ := id hI
  refine a_aload_n (i := 0) C dX7_allocateRest_0 rfl rfl ?_
  refine a_iload_n (i := 1) C dX7_allocateRest_1 rfl rfl ?_
  refine a_callV C dX7_allocateRest_2 cv_X7_noCustomer tb1149 (m_X7_noCustomer hflags hI) rfl rfl xM_0 rfl (Nat.le_of_ble_eq_true rfl) ⟨Nat.le_of_ble_eq_true rfl, Nat.le_of_ble_eq_true rfl⟩ ⟨Nat.le_of_ble_eq_true rfl, Nat.le_of_ble_eq_true rfl⟩ (fun _ h => h.elim) xav_no (fun _ _ h => h.elim) (fun r2 hp2 hq2 => ?_)
  obtain ⟨rfl, rfl⟩ := hq2
  refine a_if_eq (tgt := 10) C dX7_allocateRest_5 (by decide) (fun c5 => ?_) (fun c5 => ?_)
  · have e5 := bN0 c5
    obtain ⟨w, hww, rfl⟩ := xin_nI e5 (by omega)
    have hok2 := hok e5
    rw [nI_clamp (by omega)] at hok2
    rw [bI_f (p := ¬ xin (nI w) nc) (fun z => z e5)]
    have loop : ∀ (k i : Nat), i ≤ np → np < i + k → aW E 0 0 (xM h (mRS ni nl w (nup n 0 0) f g i).2.2.1 (mRS ni nl w (nup n 0 0) f g i).2.2.2.1 (mRS ni nl w (nup n 0 0) f g i).2.2.2.2) 14 [(0, .ref 200), (1, .int (nI w)), (2, .int (mRS ni nl w (nup n 0 0) f g i).1), (3, .int (nI i))] [] := by
      intro k
      induction k with
      | zero => intro i h1 h2; exact absurd h2 (by omega)
      | succ k ih =>
        intro i h1 h2
        refine a_iload_n (i := 3) C dX7_allocateRest_14 rfl rfl ?_
        refine a_aload_n (i := 0) C dX7_allocateRest_15 rfl rfl ?_
        refine a_get C dX7_allocateRest_16 fl_X7_89 xM_0 (congrArg (fun z => some (Value.int z)) (mRS_I (xI_0 (w := 0) hI) hok2 i h1).2.2.1) ?_
        refine a_icmp_ge (tgt := 50) C dX7_allocateRest_19 (by decide) (fun c19 => ?_) (fun c19 => ?_)
        · have hie : i = np := by
            have := (xle (by omega) (by omega)).mp c19
            omega
          rw [hie]
          refine a_iload_n (i := 2) C dX7_allocateRest_50 rfl rfl ?_
          exact a_iret C dX7_allocateRest_51 (Nat.le_of_ble_eq_true rfl) (Nat.le_of_ble_eq_true rfl) (hret _ _ (by unfold mP o_allocateRest; first | (rw [bI_t (bNn c5), if_pos (bNn c5)]; exact ⟨rfl, rfl⟩) | (rw [if_neg (fun z => z e5), nI_clamp (by omega)]; exact ⟨rfl, rfl⟩)))
        · have hlt : i < np := by
            rcases Nat.lt_or_ge i np with q | q
            · exact q
            · exact absurd ((xle (by omega) (by omega)).mpr q) c19
          have hIi := mRS_I (xI_0 (w := 0) hI) hok2 i h1
          refine a_iload_n (i := 2) C dX7_allocateRest_22 rfl rfl ?_
          refine a_aload_n (i := 0) C dX7_allocateRest_23 rfl rfl ?_
          refine a_get C dX7_allocateRest_24 fl_X7_51 xM_0 rfl ?_
          refine a_iload_n (i := 3) C dX7_allocateRest_27 rfl rfl ?_
          refine a_ialdI C dX7_allocateRest_28 xM_19 ⟨by omega, by omega⟩ ?_
          refine a_iload_n (i := 1) C dX7_allocateRest_29 rfl rfl ?_
          refine a_icmp_ne (tgt := 41) C dX7_allocateRest_30 (by decide) (fun c30 => ?_) (fun c30 => ?_)
          · have cg := ((fun z => c30 ((congrFun (mRS_o (ni := ni) (nl := nl) (w := w) (n := nup n 0 0) (f := f) (g := g) (j := 19) (by decide) (by decide) i) i).trans z)) : ¬ f 19 i = nI w)
            refine a_iconst (v := 0) C dX7_allocateRest_41 (by decide) ?_
            refine a_iadd C dX7_allocateRest_42 ?_
            first
            | (refine a_top (mRS ni nl w (nup n 0 0) f g (i + 1)).1 (by rw [mRS_t cf]) ?_; refine a_hp (show _ = xM h (mRS ni nl w (nup n 0 0) f g (i + 1)).2.2.1 (mRS ni nl w (nup n 0 0) f g (i + 1)).2.2.2.1 (mRS ni nl w (nup n 0 0) f g (i + 1)).2.2.2.2 by rw [mRS_t cf]) ?_)
            | (refine a_top (mRS ni nl w (nup n 0 0) f g (i + 1)).1 (by rw [mRS_f cg]) ?_; refine a_hp (show _ = xM h (mRS ni nl w (nup n 0 0) f g (i + 1)).2.2.1 (mRS ni nl w (nup n 0 0) f g (i + 1)).2.2.2.1 (mRS ni nl w (nup n 0 0) f g (i + 1)).2.2.2.2 by rw [mRS_f cg]) ?_)
            refine a_istore_n (i := 2) C dX7_allocateRest_43 rfl (by decide) ?_
            refine a_iinc (i := 3) (v := nI (i + 1)) C dX7_allocateRest_44 rfl (nI_1 i) (by decide) ?_
            refine a_goto (tgt := 14) C dX7_allocateRest_47 (by decide) ?_
            refine a_loc _ ?_ (ih (i + 1) (by omega) (by omega))
            exact xsub_cons rfl (xsub_cons rfl (xsub_cons rfl (xsub_cons rfl (xsub_nil))))
          · have cf := ((congrFun (mRS_o (ni := ni) (nl := nl) (w := w) (n := nup n 0 0) (f := f) (g := g) (j := 19) (by decide) (by decide) i) i).symm.trans c30 : f 19 i = nI w)
            refine a_aload_n (i := 0) C dX7_allocateRest_33 rfl rfl ?_
            refine a_iload_n (i := 3) C dX7_allocateRest_34 rfl rfl ?_
            refine a_callV C dX7_allocateRest_35 cv_X7_allocateByRule tb1109 (m_X7_allocateByRule hflags hIi (p := i) (w := w) (by omega) (by omega) c30 (hok2 i hlt cf)) rfl rfl xM_0 rfl (Nat.le_of_ble_eq_true rfl) ⟨Nat.le_of_ble_eq_true rfl, Nat.le_of_ble_eq_true rfl⟩ ⟨Nat.le_of_ble_eq_true rfl, Nat.le_of_ble_eq_true rfl⟩ (fun _ h => h.elim) xav_no (fun _ _ h => h.elim) (fun r35 hp35 hq35 => ?_)
            obtain ⟨rfl, rfl⟩ := hq35
            refine a_goto (tgt := 42) C dX7_allocateRest_38 (by decide) ?_
            refine a_iadd C dX7_allocateRest_42 ?_
            first
            | (refine a_top (mRS ni nl w (nup n 0 0) f g (i + 1)).1 (by rw [mRS_t cf]) ?_; refine a_hp (show _ = xM h (mRS ni nl w (nup n 0 0) f g (i + 1)).2.2.1 (mRS ni nl w (nup n 0 0) f g (i + 1)).2.2.2.1 (mRS ni nl w (nup n 0 0) f g (i + 1)).2.2.2.2 by rw [mRS_t cf]) ?_)
            | (refine a_top (mRS ni nl w (nup n 0 0) f g (i + 1)).1 (by rw [mRS_f cg]) ?_; refine a_hp (show _ = xM h (mRS ni nl w (nup n 0 0) f g (i + 1)).2.2.1 (mRS ni nl w (nup n 0 0) f g (i + 1)).2.2.2.1 (mRS ni nl w (nup n 0 0) f g (i + 1)).2.2.2.2 by rw [mRS_f cg]) ?_)
            refine a_istore_n (i := 2) C dX7_allocateRest_43 rfl (by decide) ?_
            refine a_iinc (i := 3) (v := nI (i + 1)) C dX7_allocateRest_44 rfl (nI_1 i) (by decide) ?_
            refine a_goto (tgt := 14) C dX7_allocateRest_47 (by decide) ?_
            refine a_loc _ ?_ (ih (i + 1) (by omega) (by omega))
            exact xsub_cons rfl (xsub_cons rfl (xsub_cons rfl (xsub_cons rfl (xsub_nil))))
    refine a_iconst (v := 0) C dX7_allocateRest_10 (by decide) ?_
    refine a_istore_n (i := 2) C dX7_allocateRest_11 rfl (by decide) ?_
    refine a_iconst (v := 0) C dX7_allocateRest_12 (by decide) ?_
    refine a_istore_n (i := 3) C dX7_allocateRest_13 rfl (by decide) ?_
    refine a_loc _ ?_ (loop (np + 1) 0 (Nat.zero_le _) (by omega))
    exact xsub_cons rfl (xsub_cons rfl (xsub_cons rfl (xsub_cons rfl (xsub_nil))))
  · refine a_iconst (v := 0) C dX7_allocateRest_8 (by decide) ?_
    exact a_iret C dX7_allocateRest_9 (Nat.le_of_ble_eq_true rfl) (Nat.le_of_ble_eq_true rfl) (hret _ _ (by unfold mP o_allocateRest; first | (rw [bI_t (bNn c5), if_pos (bNn c5)]; exact ⟨rfl, rfl⟩) | (rw [if_neg (fun z => z e5), nI_clamp (by omega)]; exact ⟨rfl, rfl⟩)))
set_option maxRecDepth 100000 in
set_option maxHeartbeats 4000000 in
theorem m_X7_reverse {l : Launch} {N0 : Nat} {D : va_G} {dT : Nat → ClassId} (hflags : l.stackTraces = false) {h : xH} {n : Nat → Int32} {f : Nat → Nat → Int32} {g : Nat → Nat → Int64} {nc ni np nl : Nat} (hI : xI n nc ni np nl) {p0 : Int32} (hl : xin p0 np → ∀ k, k < ni → (mVS p0.toNatClampNeg nl (nup n 0 0) f k).2.1 < 16000)  : xMet l N0 D dT yX7_reverse cX7_reverse 4 (some FieldType.int) 2 0 0 [.ref 200, .int p0] (xM h n f g) xNo (mP h (o_reverse ni np nl p0 n f g)) xNX := by
  refine xMet_of hflags (by decide +kernel) (fun _ _ h => h) (Nat.le_of_ble_eq_true rfl) ?_
  intro E C I hret hthr
  refine a_loc [(0, .ref 200), (1, .int p0)] (xsub_cons rfl (xsub_cons rfl (xsub_nil))) ?_
  obtain ⟨hc, hi, hpy, hln, hc6, hi24, hp24, hlm⟩ := id hI
  refine a_aload_n (i := 0) C dX7_reverse_0 rfl rfl ?_
  refine a_aload_n (i := 0) C dX7_reverse_1 rfl rfl ?_
  refine a_iload_n (i := 1) C dX7_reverse_2 rfl rfl ?_
  refine a_callV C dX7_reverse_3 cv_X7_isPayment tb1137 (m_X7_isPayment hflags hI) rfl rfl xM_0 rfl (Nat.le_of_ble_eq_true rfl) ⟨Nat.le_of_ble_eq_true rfl, Nat.le_of_ble_eq_true rfl⟩ ⟨Nat.le_of_ble_eq_true rfl, Nat.le_of_ble_eq_true rfl⟩ (fun _ h => h.elim) xav_no (fun _ _ h => h.elim) (fun r3 hp3 hq3 => ?_)
  obtain ⟨rfl, rfl⟩ := hq3
  refine a_if_ne (tgt := 13) C dX7_reverse_6 (by decide) (fun c6 => ?_) (fun c6 => ?_)
  · have e6 := bn c6
    obtain ⟨p, hpp, rfl⟩ := xin_nI e6 (by omega)
    have hl2 := hl e6
    rw [nI_clamp (by omega)] at hl2
    refine a_aload_n (i := 0) C dX7_reverse_13 rfl rfl ?_
    refine a_get C dX7_reverse_14 fl_X7_57 xM_0 rfl ?_
    refine a_iload_n (i := 1) C dX7_reverse_17 rfl rfl ?_
    refine a_zaldI C dX7_reverse_18 xM_21 ⟨by omega, by omega⟩ ?_
    refine a_if_eq (tgt := 26) C dX7_reverse_19 (by decide) (fun c19 => ?_) (fun c19 => ?_)
    · refine a_iconst (v := 0) C dX7_reverse_26 (by decide) ?_
      refine a_callV C dX7_reverse_27 cv_X7_refused tb1032 (m_X7_refused0 hflags) rfl rfl xM_0 rfl (Nat.le_of_ble_eq_true rfl) ⟨Nat.le_of_ble_eq_true rfl, Nat.le_of_ble_eq_true rfl⟩ ⟨Nat.le_of_ble_eq_true rfl, Nat.le_of_ble_eq_true rfl⟩ (fun _ h => h.elim) xav_no (fun _ _ h => h.elim) (fun r27 hp27 hq27 => ?_)
      obtain ⟨rfl, rfl⟩ := hq27
      refine a_if_eq (tgt := 35) C dX7_reverse_30 (by decide) (fun _ => ?_) (fun z => absurd (by decide) z)
      have loop : ∀ (k i : Nat), i ≤ ni → ni < i + k → aW E 0 0 (xM h (mVS p nl (nup n 0 0) f i).2.2.1 (mVS p nl (nup n 0 0) f i).2.2.2 g) 39 [(0, .ref 200), (1, .int (nI p)), (2, .int (mVS p nl (nup n 0 0) f i).1), (3, .int (nI i))] [] := by
        intro k
        induction k with
        | zero => intro i h1 h2; exact absurd h2 (by omega)
        | succ k ih =>
          intro i h1 h2
          refine a_iload_n (i := 3) C dX7_reverse_39 rfl rfl ?_
          refine a_aload_n (i := 0) C dX7_reverse_40 rfl rfl ?_
          refine a_get C dX7_reverse_41 fl_X7_86 xM_0 (congrArg (fun z => some (Value.int z)) (mVS_I (p := p) (f := f) (xI_0 (w := 0) hI) hl2 i h1).2.1) ?_
          refine a_icmp_ge (tgt := 62) C dX7_reverse_44 (by decide) (fun c44 => ?_) (fun c44 => ?_)
          · have hie : i = ni := by
              have := (xle (by omega) (by omega)).mp c44
              omega
            rw [hie]
            refine a_aload_n (i := 0) C dX7_reverse_62 rfl rfl ?_
            refine a_get C dX7_reverse_63 fl_X7_54 xM_0 rfl ?_
            refine a_iload_n (i := 1) C dX7_reverse_66 rfl rfl ?_
            refine a_iconst (v := 0) C dX7_reverse_67 (by decide) ?_
            refine a_iastI C dX7_reverse_68 xM_20 ⟨by omega, by omega⟩ ?_
            refine a_hp xMw_20 ?_
            refine a_aload_n (i := 0) C dX7_reverse_69 rfl rfl ?_
            refine a_get C dX7_reverse_70 fl_X7_57 xM_0 rfl ?_
            refine a_iload_n (i := 1) C dX7_reverse_73 rfl rfl ?_
            refine a_iconst (v := 1) C dX7_reverse_74 (by decide) ?_
            refine a_zastI C dX7_reverse_75 xM_21 ⟨by omega, by omega⟩ (by first | rfl | exact bI_nar) ?_
            refine a_hp xMw_21 ?_
            refine a_iload_n (i := 2) C dX7_reverse_76 rfl rfl ?_
            exact a_iret C dX7_reverse_77 (Nat.le_of_ble_eq_true rfl) (Nat.le_of_ble_eq_true rfl) (hret _ _ (by unfold mP o_reverse; first | (rw [if_pos e6]; exact ⟨rfl, rfl⟩) | (rw [if_neg (fun z => z e6), nI_clamp (by omega), if_pos c19]; exact ⟨rfl, rfl⟩) | (rw [if_neg (fun z => z e6), nI_clamp (by omega), if_neg (fun z => z c19)]; exact ⟨rfl, rfl⟩)))
          · have hlt : i < ni := by
              rcases Nat.lt_or_ge i ni with q | q
              · exact q
              · exact absurd ((xle (by omega) (by omega)).mpr q) c44
            have hIi := mVS_I (p := p) (f := f) (xI_0 (w := 0) hI) hl2 i h1
            refine a_iload_n (i := 2) C dX7_reverse_47 rfl rfl ?_
            refine a_aload_n (i := 0) C dX7_reverse_48 rfl rfl ?_
            refine a_iload_n (i := 1) C dX7_reverse_49 rfl rfl ?_
            refine a_iload_n (i := 3) C dX7_reverse_50 rfl rfl ?_
            refine a_callV C dX7_reverse_51 cv_X7_takeBack tb1157 (m_X7_takeBack hflags hIi (p := p) (i := i) (by omega) (by omega) (hl2 i hlt)) rfl rfl xM_0 rfl (Nat.le_of_ble_eq_true rfl) ⟨Nat.le_of_ble_eq_true rfl, Nat.le_of_ble_eq_true rfl⟩ ⟨Nat.le_of_ble_eq_true rfl, Nat.le_of_ble_eq_true rfl⟩ (fun _ h => h.elim) xav_no (fun _ _ h => h.elim) (fun r51 hp51 hq51 => ?_)
            obtain ⟨rfl, rfl⟩ := hq51
            refine a_iadd C dX7_reverse_54 ?_
            refine a_istore_n (i := 2) C dX7_reverse_55 rfl (by decide) ?_
            refine a_iinc (i := 3) (v := nI (i + 1)) C dX7_reverse_56 rfl (nI_1 i) (by decide) ?_
            refine a_goto (tgt := 39) C dX7_reverse_59 (by decide) ?_
            refine a_loc _ ?_ (ih (i + 1) (by omega) (by omega))
            exact xsub_cons rfl (xsub_cons rfl (xsub_cons rfl (xsub_cons rfl (xsub_nil))))
      refine a_iconst (v := 0) C dX7_reverse_35 (by decide) ?_
      refine a_istore_n (i := 2) C dX7_reverse_36 rfl (by decide) ?_
      refine a_iconst (v := 0) C dX7_reverse_37 (by decide) ?_
      refine a_istore_n (i := 3) C dX7_reverse_38 rfl (by decide) ?_
      refine a_loc _ ?_ (loop (ni + 1) 0 (Nat.zero_le _) (by omega))
      exact xsub_cons rfl (xsub_cons rfl (xsub_cons rfl (xsub_cons rfl (xsub_nil))))
    · refine a_iconst (v := 2) C dX7_reverse_22 (by decide) ?_
      refine a_goto (tgt := 27) C dX7_reverse_23 (by decide) ?_
      refine a_callV C dX7_reverse_27 cv_X7_refused tb1032 (m_X7_refused1 hflags (by decide)) rfl rfl xM_0 rfl (Nat.le_of_ble_eq_true rfl) ⟨Nat.le_of_ble_eq_true rfl, Nat.le_of_ble_eq_true rfl⟩ ⟨Nat.le_of_ble_eq_true rfl, Nat.le_of_ble_eq_true rfl⟩ (fun _ h => h.elim) xav_no (fun _ _ h => h.elim) (fun r27 hp27 hq27 => ?_)
      obtain ⟨rfl, rfl⟩ := hq27
      refine a_if_eq (tgt := 35) C dX7_reverse_30 (by decide) (fun z => absurd z (by decide)) (fun _ => ?_)
      refine a_iconst (v := 0) C dX7_reverse_33 (by decide) ?_
      exact a_iret C dX7_reverse_34 (Nat.le_of_ble_eq_true rfl) (Nat.le_of_ble_eq_true rfl) (hret _ _ (by unfold mP o_reverse; first | (rw [if_pos e6]; exact ⟨rfl, rfl⟩) | (rw [if_neg (fun z => z e6), nI_clamp (by omega), if_pos c19]; exact ⟨rfl, rfl⟩) | (rw [if_neg (fun z => z e6), nI_clamp (by omega), if_neg (fun z => z c19)]; exact ⟨rfl, rfl⟩)))
  · have e6 := b0 c6
    refine a_iconst (v := 1) C dX7_reverse_9 (by decide) ?_
    refine a_goto (tgt := 27) C dX7_reverse_10 (by decide) ?_
    refine a_callV C dX7_reverse_27 cv_X7_refused tb1032 (m_X7_refused1 hflags (by decide)) rfl rfl xM_0 rfl (Nat.le_of_ble_eq_true rfl) ⟨Nat.le_of_ble_eq_true rfl, Nat.le_of_ble_eq_true rfl⟩ ⟨Nat.le_of_ble_eq_true rfl, Nat.le_of_ble_eq_true rfl⟩ (fun _ h => h.elim) xav_no (fun _ _ h => h.elim) (fun r27 hp27 hq27 => ?_)
    obtain ⟨rfl, rfl⟩ := hq27
    refine a_if_eq (tgt := 35) C dX7_reverse_30 (by decide) (fun z => absurd z (by decide)) (fun _ => ?_)
    refine a_iconst (v := 0) C dX7_reverse_33 (by decide) ?_
    exact a_iret C dX7_reverse_34 (Nat.le_of_ble_eq_true rfl) (Nat.le_of_ble_eq_true rfl) (hret _ _ (by unfold mP o_reverse; first | (rw [if_pos e6]; exact ⟨rfl, rfl⟩) | (rw [if_neg (fun z => z e6), nI_clamp (by omega), if_pos c19]; exact ⟨rfl, rfl⟩) | (rw [if_neg (fun z => z e6), nI_clamp (by omega), if_neg (fun z => z c19)]; exact ⟨rfl, rfl⟩)))
