/-- the lines, the numbers, the rows behind the parts of the first k invoices -/
def mAS (p : Nat) (sh : Nat → Int32) (nl : Nat) (n : Nat → Int32) (f : Nat → Nat → Int32) : Nat → Nat × (Nat → Int32) × (Nat → Nat → Int32)
  | 0 => (nl, n, f)
  | k + 1 => if 0 < sh k then (mWl (mAS p sh nl n f k).1 (-(sh k)), mWn (mAS p sh nl n f k).1 (-(sh k)) (mAS p sh nl n f k).2.1, mPf (mAS p sh nl n f k).1 p k (sh k) (mAS p sh nl n f k).2.2) else mAS p sh nl n f k
theorem mAS_t {p : Nat} {sh : Nat → Int32} {nl : Nat} {n : Nat → Int32} {f : Nat → Nat → Int32} {k : Nat} (h : 0 < sh k) : mAS p sh nl n f (k + 1) = (mWl (mAS p sh nl n f k).1 (-(sh k)), mWn (mAS p sh nl n f k).1 (-(sh k)) (mAS p sh nl n f k).2.1, mPf (mAS p sh nl n f k).1 p k (sh k) (mAS p sh nl n f k).2.2) := if_pos h
theorem mAS_f {p : Nat} {sh : Nat → Int32} {nl : Nat} {n : Nat → Int32} {f : Nat → Nat → Int32} {k : Nat} (h : ¬ 0 < sh k) : mAS p sh nl n f (k + 1) = mAS p sh nl n f k := if_neg h
theorem mWf_o {nl i : Nat} {a : Int32} {f : Nat → Nat → Int32} {j : Nat} (h1 : j ≠ 23) (h2 : j ≠ 24) : mWf nl i a f j = f j := by
  unfold mWf
  split
  · rfl
  · rw [fup_n h2, fup_n h1]
theorem mPf_o {nl p i : Nat} {a : Int32} {f : Nat → Nat → Int32} {j : Nat} (h : j ≠ 23 ∧ j ≠ 24 ∧ j ≠ 22 ∧ j ≠ 20 ∧ j ≠ 13 ∧ j ≠ 14 ∧ j ≠ 18 ∧ j ≠ 17) : mPf nl p i a f j = f j := by
  obtain ⟨h1, h2, h3, h4, h5, h6, h7, h8⟩ := h
  unfold mPf
  rw [mWf_o h1 h2, fup_n h8, fup_n h7, fup_n h6, fup_n h5, fup_n h4, fup_n h3]
theorem mAS_o {p : Nat} {sh : Nat → Int32} {nl : Nat} {n : Nat → Int32} {f : Nat → Nat → Int32} {j : Nat} (h : j ≠ 23 ∧ j ≠ 24 ∧ j ≠ 22 ∧ j ≠ 20 ∧ j ≠ 13 ∧ j ≠ 14 ∧ j ≠ 18 ∧ j ≠ 17) : ∀ k, (mAS p sh nl n f k).2.2 j = f j := by
  intro k
  induction k with
  | zero => rfl
  | succ k ih =>
    by_cases hs : 0 < sh k
    · rw [mAS_t hs]
      show mPf _ _ _ _ _ j = f j
      rw [mPf_o h, ih]
    · rw [mAS_f hs, ih]
theorem mAS_I {p nc ni np nl : Nat} {sh : Nat → Int32} {n : Nat → Int32} {f : Nat → Nat → Int32} (hI : xI n nc ni np nl) {m : Nat} (hl : ∀ k, k < m → 0 < sh k → (mAS p sh nl n f k).1 < 16000) : ∀ k, k ≤ m → xI (mAS p sh nl n f k).2.1 nc ni np (mAS p sh nl n f k).1 := by
  intro k
  induction k with
  | zero => intro _; exact hI
  | succ k ih =>
    intro hk
    by_cases hs : 0 < sh k
    · rw [mAS_t hs]
      exact xI_W (ih (by omega)) (hl k (by omega) hs)
    · rw [mAS_f hs]
      exact ih (by omega)
/-- a payment's rest is allocated by the rule of the customer w: the answer, lines, numbers, rows -/
def mAsh (ni p w : Nat) (f : Nat → Nat → Int32) (g : Nat → Nat → Int64) : Nat → Nat → Int32 := mShf ni w (f 20 p) f g
def mAst (ni nl p w : Nat) (n : Nat → Int32) (f : Nat → Nat → Int32) (g : Nat → Nat → Int64) : Nat → Nat × (Nat → Int32) × (Nat → Nat → Int32) := mAS p (mAsh ni p w f g 25) nl n (mAsh ni p w f g)
def mAR (ni nl p w : Nat) (n : Nat → Int32) (f : Nat → Nat → Int32) (g : Nat → Nat → Int64) : Int32 × Nat × mS := if 0 < f 20 p then (f 20 p - (mAst ni nl p w n f g ni).2.2 20 p, (mAst ni nl p w n f g ni).1, (mAst ni nl p w n f g ni).2.1, (mAst ni nl p w n f g ni).2.2, mShg ni w (f 20 p) f g) else (f 20 p - f 20 p, nl, n, f, g)
/-- what the machine needs for that: a sum to divide by, room for the lines -/
def mAok (ni nl p w : Nat) (n : Nat → Int32) (f : Nat → Nat → Int32) (g : Nat → Nat → Int64) : Prop := 0 < f 20 p → (∀ i, i < ni → ¬ xclr f (nI w) i = 0 → ¬ xall f (nI w) ni = 0) ∧ ∀ k, k < ni → 0 < mAsh ni p w f g 25 k → (mAst ni nl p w n f g k).1 < 16000
set_option maxRecDepth 100000 in
set_option maxHeartbeats 4000000 in
theorem m_X7_allocateByRule {l : Launch} {N0 : Nat} {D : va_G} {dT : Nat → ClassId} (hflags : l.stackTraces = false) {h : xH} {n : Nat → Int32} {f : Nat → Nat → Int32} {g : Nat → Nat → Int64} {nc ni np nl : Nat} (hI : xI n nc ni np nl) {p w : Nat} (hpp : p < 24) (hw : w < 6) (hk : f 19 p = nI w) (hok : mAok ni nl p w n f g)  : xMet l N0 D dT yX7_allocateByRule cX7_allocateByRule 4 (some FieldType.int) 4 0 0 [.ref 200, .int (nI p)] (xM h n f g) xNo (fun r h' => r = some (.int (mAR ni nl p w n f g).1) ∧ h' = xM h (mAR ni nl p w n f g).2.2.1 (mAR ni nl p w n f g).2.2.2.1 (mAR ni nl p w n f g).2.2.2.2) xNX := by
  refine xMet_of hflags (by decide +kernel) (fun _ _ h => h) (Nat.le_of_ble_eq_true rfl) ?_
  intro E C I hret hthr
  refine a_loc [(0, .ref 200), (1, .int (nI p))] (xsub_cons rfl (xsub_cons rfl (xsub_nil))) ?_
  obtain ⟨hc, hi, hpy, hln, hc6, hi24, hp24, hlm⟩ := id hI
  have loop : ∀ (k i : Nat) (cb : 0 < f 20 p), i ≤ ni → ni < i + k → aW E 0 0 (xM h (mAst ni nl p w n f g i).2.1 (mAst ni nl p w n f g i).2.2 (mShg ni w (f 20 p) f g)) 24 [(0, .ref 200), (1, .int (nI p)), (2, .int (f 20 p)), (3, .int (nI i))] [] := by
    intro k
    induction k with
    | zero => intro i cb h1 h2; exact absurd h2 (by omega)
    | succ k ih =>
      intro i cb h1 h2
      refine a_iload_n (i := 3) C dX7_allocateByRule_24 rfl rfl ?_
      refine a_aload_n (i := 0) C dX7_allocateByRule_25 rfl rfl ?_
      refine a_get C dX7_allocateByRule_26 fl_X7_86 xM_0 (congrArg (fun z => some (Value.int z)) (mAS_I (p := p) (sh := mAsh ni p w f g 25) (f := mAsh ni p w f g) hI (hok cb).2 i h1).2.1) ?_
      refine a_icmp_ge (tgt := 50) C dX7_allocateByRule_29 (by decide) (fun c29 => ?_) (fun c29 => ?_)
      · refine a_iload_n (i := 2) C dX7_allocateByRule_50 rfl rfl ?_
        refine a_aload_n (i := 0) C dX7_allocateByRule_51 rfl rfl ?_
        refine a_get C dX7_allocateByRule_52 fl_X7_54 xM_0 rfl ?_
        refine a_iload_n (i := 1) C dX7_allocateByRule_55 rfl rfl ?_
        refine a_ialdI C dX7_allocateByRule_56 xM_20 ⟨by omega, by omega⟩ ?_
        refine a_isub C dX7_allocateByRule_57 ?_
        exact a_iret C dX7_allocateByRule_58 (Nat.le_of_ble_eq_true rfl) (Nat.le_of_ble_eq_true rfl) (hret _ _ (by unfold mAR; first | (rw [if_pos cb, show i = ni by (have := (xle (by omega) (by omega)).mp c29; omega)]; exact ⟨rfl, rfl⟩) | (rw [if_neg (Int32.not_lt.mpr c8)]; exact ⟨rfl, rfl⟩)))
      · have hlt : i < ni := by
          rcases Nat.lt_or_ge i ni with q | q
          · exact q
          · exact absurd ((xle (by omega) (by omega)).mpr q) c29
        have hIi := mAS_I (p := p) (sh := mAsh ni p w f g 25) (f := mAsh ni p w f g) hI (hok cb).2 i h1
        refine a_aload_n (i := 0) C dX7_allocateByRule_32 rfl rfl ?_
        refine a_iload_n (i := 1) C dX7_allocateByRule_33 rfl rfl ?_
        refine a_iload_n (i := 3) C dX7_allocateByRule_34 rfl rfl ?_
        refine a_aload_n (i := 0) C dX7_allocateByRule_35 rfl rfl ?_
        refine a_get C dX7_allocateByRule_36 fl_X7_69 xM_0 rfl ?_
        refine a_iload_n (i := 3) C dX7_allocateByRule_39 rfl rfl ?_
        refine a_ialdV C (mAsh ni p w f g 25 i) dX7_allocateByRule_40 xM_25 ⟨by omega, by omega⟩ (congrFun (mAS_o (by decide) i) i) ?_
        refine a_callV C dX7_allocateByRule_41 cv_X7_put tb1129 (m_X7_put hflags hIi (p := p) (i := i) (a := mAsh ni p w f g 25 i) hpp (by omega) (fun hs => (hok cb).2 i hlt hs)) rfl rfl xM_0 rfl (Nat.le_of_ble_eq_true rfl) ⟨Nat.le_of_ble_eq_true rfl, Nat.le_of_ble_eq_true rfl⟩ ⟨Nat.le_of_ble_eq_true rfl, Nat.le_of_ble_eq_true rfl⟩ (fun _ h => h.elim) xav_no (fun _ _ h => h.elim) (fun r41 hp41 hq41 => ?_)
        obtain ⟨rfl, rfl⟩ := hq41
        refine a_hp (show _ = xM h (mAst ni nl p w n f g (i + 1)).2.1 (mAst ni nl p w n f g (i + 1)).2.2 (mShg ni w (f 20 p) f g) by by_cases hs : 0 < mAsh ni p w f g 25 i <;> first | (rw [if_pos hs]; unfold mAst; rw [mAS_t hs]; done) | (rw [if_neg hs]; unfold mAst; rw [mAS_f hs]; done)) ?_
        refine a_iinc (i := 3) (v := nI (i + 1)) C dX7_allocateByRule_44 rfl (nI_1 i) (by decide) ?_
        refine a_goto (tgt := 24) C dX7_allocateByRule_47 (by decide) ?_
        refine a_loc _ ?_ (ih (i + 1) cb (by omega) (by omega))
        exact xsub_cons rfl (xsub_cons rfl (xsub_cons rfl (xsub_cons rfl (xsub_nil))))
  refine a_aload_n (i := 0) C dX7_allocateByRule_0 rfl rfl ?_
  refine a_get C dX7_allocateByRule_1 fl_X7_54 xM_0 rfl ?_
  refine a_iload_n (i := 1) C dX7_allocateByRule_4 rfl rfl ?_
  refine a_ialdI C dX7_allocateByRule_5 xM_20 ⟨by omega, by omega⟩ ?_
  refine a_istore_n (i := 2) C dX7_allocateByRule_6 rfl (by decide) ?_
  refine a_iload_n (i := 2) C dX7_allocateByRule_7 rfl rfl ?_
  refine a_if_le (tgt := 50) C dX7_allocateByRule_8 (by decide) (fun c8 => ?_) (fun c8 => ?_)
  · refine a_iload_n (i := 2) C dX7_allocateByRule_50 rfl rfl ?_
    refine a_aload_n (i := 0) C dX7_allocateByRule_51 rfl rfl ?_
    refine a_get C dX7_allocateByRule_52 fl_X7_54 xM_0 rfl ?_
    refine a_iload_n (i := 1) C dX7_allocateByRule_55 rfl rfl ?_
    refine a_ialdI C dX7_allocateByRule_56 xM_20 ⟨by omega, by omega⟩ ?_
    refine a_isub C dX7_allocateByRule_57 ?_
    exact a_iret C dX7_allocateByRule_58 (Nat.le_of_ble_eq_true rfl) (Nat.le_of_ble_eq_true rfl) (hret _ _ (by unfold mAR; first | (rw [if_pos cb, show i = ni by (have := (xle (by omega) (by omega)).mp c29; omega)]; exact ⟨rfl, rfl⟩) | (rw [if_neg (Int32.not_lt.mpr c8)]; exact ⟨rfl, rfl⟩)))
  · have cb : 0 < f 20 p := Int32.not_le.mp c8
    refine a_aload_n (i := 0) C dX7_allocateByRule_11 rfl rfl ?_
    refine a_aload_n (i := 0) C dX7_allocateByRule_12 rfl rfl ?_
    refine a_get C dX7_allocateByRule_13 fl_X7_51 xM_0 rfl ?_
    refine a_iload_n (i := 1) C dX7_allocateByRule_16 rfl rfl ?_
    refine a_ialdV C (nI w) dX7_allocateByRule_17 xM_19 ⟨by omega, by omega⟩ hk ?_
    refine a_iload_n (i := 2) C dX7_allocateByRule_18 rfl rfl ?_
    refine a_callV C dX7_allocateByRule_19 cv_X7_share tb1113 (m_X7_share hflags hI hw (hok cb).1) rfl rfl xM_0 rfl (Nat.le_of_ble_eq_true rfl) ⟨Nat.le_of_ble_eq_true rfl, Nat.le_of_ble_eq_true rfl⟩ ⟨Nat.le_of_ble_eq_true rfl, Nat.le_of_ble_eq_true rfl⟩ (fun _ h => h.elim) xav_no (fun _ _ h => h.elim) (fun r19 hp19 hq19 => ?_)
    obtain ⟨rfl, rfl⟩ := hq19
    refine a_iconst (v := 0) C dX7_allocateByRule_22 (by decide) ?_
    refine a_istore_n (i := 3) C dX7_allocateByRule_23 rfl (by decide) ?_
    refine a_loc _ ?_ (loop (ni + 1) 0 cb (Nat.zero_le _) (by omega))
    exact xsub_cons rfl (xsub_cons rfl (xsub_cons rfl (xsub_cons rfl (xsub_nil))))
def o_postPayment (nc ni np nl : Nat) (c a : Int32) (n : Nat → Int32) (f : Nat → Nat → Int32) (g : Nat → Nat → Int64) : Int32 × mS := if ¬ xin c nc then oNo 1 n f g else if ¬ xokA a then oNo 2 n f g else if np = 24 then oNo 3 n f g else (nI np, (mAR ni nl np c.toNatClampNeg (nup (nup n 0 0) 4 (nI (np + 1))) (fup (fup f 19 (upd (f 19) np c)) 20 (upd (f 20) np a)) g).2.2)
theorem xI_4 {n : Nat → Int32} {nc ni np nl : Nat} (h : xI n nc ni np nl) (hp : np < 24) : xI (nup n 4 (nI (np + 1))) nc ni (np + 1) nl := by
  obtain ⟨h1, h2, h3, h4, h5, h6, h7, h8⟩ := h
  exact ⟨h1, h2, rfl, h4, h5, h6, hp, h8⟩
theorem mAR_I {nc ni np nl p w : Nat} {n : Nat → Int32} {f : Nat → Nat → Int32} {g : Nat → Nat → Int64} (hI : xI n nc ni np nl) (hok : mAok ni nl p w n f g) : xI (mAR ni nl p w n f g).2.2.1 nc ni np (mAR ni nl p w n f g).2.1 := by
  unfold mAR
  by_cases h : 0 < f 20 p
  · rw [if_pos h]
    exact mAS_I hI (hok h).2 ni (Nat.le_refl _)
  · rw [if_neg h]
    exact hI
set_option maxRecDepth 100000 in
set_option maxHeartbeats 4000000 in
theorem m_X7_postPayment {l : Launch} {N0 : Nat} {D : va_G} {dT : Nat → ClassId} (hflags : l.stackTraces = false) {h : xH} {n : Nat → Int32} {f : Nat → Nat → Int32} {g : Nat → Nat → Int64} {nc ni np nl : Nat} (hI : xI n nc ni np nl) {c a : Int32} (hok : xin c nc → xokA a → np < 24 → mAok ni nl np c.toNatClampNeg (nup (nup n 0 0) 4 (nI (np + 1))) (fup (fup f 19 (upd (f 19) np c)) 20 (upd (f 20) np a)) g)  : xMet l N0 D dT yX7_postPayment cX7_postPayment 4 (some FieldType.int) 5 0 0 [.ref 200, .int c, .int a] (xM h n f g) xNo (mP h (o_postPayment nc ni np nl c a n f g)) xNX := by
  refine xMet_of hflags (by decide +kernel) (fun _ _ h => h) (Nat.le_of_ble_eq_true rfl) ?_
  intro E C I hret hthr
  refine a_loc [(0, .ref 200), (1, .int c), (2, .int a)] (xsub_cons rfl (xsub_cons rfl (xsub_cons rfl (xsub_nil)))) ?_
  obtain ⟨hc, hi, hpy, hln, hc6, hi24, hp24, hlm⟩ := id hI
  refine a_aload_n (i := 0) C dX7_postPayment_0 rfl rfl ?_
  refine a_aload_n (i := 0) C dX7_postPayment_1 rfl rfl ?_
  refine a_iload_n (i := 1) C dX7_postPayment_2 rfl rfl ?_
  refine a_callV C dX7_postPayment_3 cv_X7_isCustomer tb1040 (m_X7_isCustomer hflags hI) rfl rfl xM_0 rfl (Nat.le_of_ble_eq_true rfl) ⟨Nat.le_of_ble_eq_true rfl, Nat.le_of_ble_eq_true rfl⟩ ⟨Nat.le_of_ble_eq_true rfl, Nat.le_of_ble_eq_true rfl⟩ (fun _ h => h.elim) xav_no (fun _ _ h => h.elim) (fun r3 hp3 hq3 => ?_)
  obtain ⟨rfl, rfl⟩ := hq3
  refine a_if_ne (tgt := 13) C dX7_postPayment_6 (by decide) (fun c6 => ?_) (fun c6 => ?_)
  · have e6 := bn c6
    obtain ⟨w, hww, rfl⟩ := xin_nI e6 (by omega)
    refine a_iload_n (i := 2) C dX7_postPayment_13 rfl rfl ?_
    refine a_iconst (v := 1) C dX7_postPayment_14 (by decide) ?_
    refine a_ldc C dX7_postPayment_15 tb1096 ?_
    refine a_callS C dX7_postPayment_17 cs_X7_within tb1029 (m_X7_within hflags) rfl rfl (Nat.le_of_ble_eq_true rfl) ⟨Nat.le_of_ble_eq_true rfl, Nat.le_of_ble_eq_true rfl⟩ ⟨Nat.le_of_ble_eq_true rfl, Nat.le_of_ble_eq_true rfl⟩ (fun _ h => h.elim) xav_no (fun _ _ h => h.elim) (fun r17 hp17 hq17 => ?_)
    obtain ⟨rfl, rfl⟩ := hq17
    refine a_if_ne (tgt := 27) C dX7_postPayment_20 (by decide) (fun c20 => ?_) (fun c20 => ?_)
    · have e7 := bn c20
      refine a_aload_n (i := 0) C dX7_postPayment_27 rfl rfl ?_
      refine a_get C dX7_postPayment_28 fl_X7_89 xM_0 (by first | exact congrArg (fun z => some (Value.int z)) hpy | rfl) ?_
      refine a_bipush (v := 24) C dX7_postPayment_31 (by decide) ?_
      refine a_icmp_ne (tgt := 40) C dX7_postPayment_33 (by decide) (fun c33 => ?_) (fun c33 => ?_)
      · have e8 : ¬ np = 24 := fun z => c33 (by rw [z]; rfl)
        have hok2 := hok e6 e7 (by omega)
        rw [nI_clamp (by omega)] at hok2
        have hI2 := xI_4 (xI_0 (w := 0) hI) (show np < 24 by omega)
        refine a_iconst (v := 0) C dX7_postPayment_40 (by decide) ?_
        refine a_callV C dX7_postPayment_41 cv_X7_refused tb1032 (m_X7_refused0 hflags) rfl rfl xM_0 rfl (Nat.le_of_ble_eq_true rfl) ⟨Nat.le_of_ble_eq_true rfl, Nat.le_of_ble_eq_true rfl⟩ ⟨Nat.le_of_ble_eq_true rfl, Nat.le_of_ble_eq_true rfl⟩ (fun _ h => h.elim) xav_no (fun _ _ h => h.elim) (fun r41 hp41 hq41 => ?_)
        obtain ⟨rfl, rfl⟩ := hq41
        refine a_if_eq (tgt := 49) C dX7_postPayment_44 (by decide) (fun _ => ?_) (fun z => absurd (by decide) z)
        refine a_aload_n (i := 0) C dX7_postPayment_49 rfl rfl ?_
        refine a_get C dX7_postPayment_50 fl_X7_51 xM_0 rfl ?_
        refine a_aload_n (i := 0) C dX7_postPayment_53 rfl rfl ?_
        refine a_get C dX7_postPayment_54 fl_X7_89 xM_0 (by first | exact congrArg (fun z => some (Value.int z)) hpy | rfl) ?_
        refine a_iload_n (i := 1) C dX7_postPayment_57 rfl rfl ?_
        refine a_iastI C dX7_postPayment_58 xM_19 ⟨by omega, by omega⟩ ?_
        refine a_hp xMw_19 ?_
        refine a_aload_n (i := 0) C dX7_postPayment_59 rfl rfl ?_
        refine a_get C dX7_postPayment_60 fl_X7_54 xM_0 rfl ?_
        refine a_aload_n (i := 0) C dX7_postPayment_63 rfl rfl ?_
        refine a_get C dX7_postPayment_64 fl_X7_89 xM_0 (by first | exact congrArg (fun z => some (Value.int z)) hpy | rfl) ?_
        refine a_iload_n (i := 2) C dX7_postPayment_67 rfl rfl ?_
        refine a_iastI C dX7_postPayment_68 xM_20 ⟨by omega, by omega⟩ ?_
        refine a_hp xMw_20 ?_
        refine a_aload_n (i := 0) C dX7_postPayment_69 rfl rfl ?_
        refine a_dup C dX7_postPayment_70 rfl ?_
        refine a_get C dX7_postPayment_71 fl_X7_89 xM_0 (by first | exact congrArg (fun z => some (Value.int z)) hpy | rfl) ?_
        refine a_iconst (v := 1) C dX7_postPayment_74 (by decide) ?_
        refine a_iadd C dX7_postPayment_75 ?_
        refine a_top (nI (np + 1)) (nI_1 np) ?_
        refine a_put C dX7_postPayment_76 fl_X7_89 xM_0 (Nat.le_of_ble_eq_true rfl) rfl rfl ?_
        refine a_hp xMp_4 ?_
        refine a_aload_n (i := 0) C dX7_postPayment_79 rfl rfl ?_
        refine a_aload_n (i := 0) C dX7_postPayment_80 rfl rfl ?_
        refine a_get C dX7_postPayment_81 fl_X7_89 xM_0 rfl ?_
        refine a_iconst (v := 1) C dX7_postPayment_84 (by decide) ?_
        refine a_isub C dX7_postPayment_85 ?_
        refine a_top (nI np) (nI_pred np) ?_
        refine a_callV C dX7_postPayment_86 cv_X7_allocateByRule tb1109 (m_X7_allocateByRule hflags hI2 (p := np) (w := w) (by omega) (by omega) pk_us hok2) rfl rfl xM_0 rfl (Nat.le_of_ble_eq_true rfl) ⟨Nat.le_of_ble_eq_true rfl, Nat.le_of_ble_eq_true rfl⟩ ⟨Nat.le_of_ble_eq_true rfl, Nat.le_of_ble_eq_true rfl⟩ (fun _ h => h.elim) xav_no (fun _ _ h => h.elim) (fun r86 hp86 hq86 => ?_)
        obtain ⟨rfl, rfl⟩ := hq86
        refine a_istore_n (i := 3) C dX7_postPayment_89 rfl (by decide) ?_
        refine a_aload_n (i := 0) C dX7_postPayment_90 rfl rfl ?_
        refine a_get C dX7_postPayment_91 fl_X7_89 xM_0 (congrArg (fun z => some (Value.int z)) (mAR_I hI2 hok2).2.2.1) ?_
        refine a_iconst (v := 1) C dX7_postPayment_94 (by decide) ?_
        refine a_isub C dX7_postPayment_95 ?_
        refine a_top (nI np) (nI_pred np) ?_
        exact a_iret C dX7_postPayment_96 (Nat.le_of_ble_eq_true rfl) (Nat.le_of_ble_eq_true rfl) (hret _ _ (by unfold mP o_postPayment; first | (rw [if_pos e6]; exact ⟨rfl, rfl⟩) | (rw [if_neg (fun z => z e6), if_pos e7]; exact ⟨rfl, rfl⟩) | (rw [if_neg (fun z => z e6), if_neg (fun z => z e7), if_pos e8]; exact ⟨rfl, rfl⟩) | (rw [if_neg (fun z => z e6), if_neg (fun z => z e7), if_neg e8, nI_clamp (by omega)]; exact ⟨rfl, rfl⟩)))
      · have e8 : np = 24 := (nI_eq (by omega) (by omega)).mp c33
        refine a_iconst (v := 3) C dX7_postPayment_36 (by decide) ?_
        refine a_goto (tgt := 41) C dX7_postPayment_37 (by decide) ?_
        refine a_callV C dX7_postPayment_41 cv_X7_refused tb1032 (m_X7_refused1 hflags (by decide)) rfl rfl xM_0 rfl (Nat.le_of_ble_eq_true rfl) ⟨Nat.le_of_ble_eq_true rfl, Nat.le_of_ble_eq_true rfl⟩ ⟨Nat.le_of_ble_eq_true rfl, Nat.le_of_ble_eq_true rfl⟩ (fun _ h => h.elim) xav_no (fun _ _ h => h.elim) (fun r41 hp41 hq41 => ?_)
        obtain ⟨rfl, rfl⟩ := hq41
        refine a_if_eq (tgt := 49) C dX7_postPayment_44 (by decide) (fun z => absurd z (by decide)) (fun _ => ?_)
        refine a_iconst (v := 0) C dX7_postPayment_47 (by decide) ?_
        exact a_iret C dX7_postPayment_48 (Nat.le_of_ble_eq_true rfl) (Nat.le_of_ble_eq_true rfl) (hret _ _ (by unfold mP o_postPayment; first | (rw [if_pos e6]; exact ⟨rfl, rfl⟩) | (rw [if_neg (fun z => z e6), if_pos e7]; exact ⟨rfl, rfl⟩) | (rw [if_neg (fun z => z e6), if_neg (fun z => z e7), if_pos e8]; exact ⟨rfl, rfl⟩) | (rw [if_neg (fun z => z e6), if_neg (fun z => z e7), if_neg e8, nI_clamp (by omega)]; exact ⟨rfl, rfl⟩)))
    · have e7 := b0 c20
      refine a_iconst (v := 2) C dX7_postPayment_23 (by decide) ?_
      refine a_goto (tgt := 41) C dX7_postPayment_24 (by decide) ?_
      refine a_callV C dX7_postPayment_41 cv_X7_refused tb1032 (m_X7_refused1 hflags (by decide)) rfl rfl xM_0 rfl (Nat.le_of_ble_eq_true rfl) ⟨Nat.le_of_ble_eq_true rfl, Nat.le_of_ble_eq_true rfl⟩ ⟨Nat.le_of_ble_eq_true rfl, Nat.le_of_ble_eq_true rfl⟩ (fun _ h => h.elim) xav_no (fun _ _ h => h.elim) (fun r41 hp41 hq41 => ?_)
      obtain ⟨rfl, rfl⟩ := hq41
      refine a_if_eq (tgt := 49) C dX7_postPayment_44 (by decide) (fun z => absurd z (by decide)) (fun _ => ?_)
      refine a_iconst (v := 0) C dX7_postPayment_47 (by decide) ?_
      exact a_iret C dX7_postPayment_48 (Nat.le_of_ble_eq_true rfl) (Nat.le_of_ble_eq_true rfl) (hret _ _ (by unfold mP o_postPayment; first | (rw [if_pos e6]; exact ⟨rfl, rfl⟩) | (rw [if_neg (fun z => z e6), if_pos e7]; exact ⟨rfl, rfl⟩) | (rw [if_neg (fun z => z e6), if_neg (fun z => z e7), if_pos e8]; exact ⟨rfl, rfl⟩) | (rw [if_neg (fun z => z e6), if_neg (fun z => z e7), if_neg e8, nI_clamp (by omega)]; exact ⟨rfl, rfl⟩)))
  · have e6 := b0 c6
    refine a_iconst (v := 1) C dX7_postPayment_9 (by decide) ?_
    refine a_goto (tgt := 41) C dX7_postPayment_10 (by decide) ?_
    refine a_callV C dX7_postPayment_41 cv_X7_refused tb1032 (m_X7_refused1 hflags (by decide)) rfl rfl xM_0 rfl (Nat.le_of_ble_eq_true rfl) ⟨Nat.le_of_ble_eq_true rfl, Nat.le_of_ble_eq_true rfl⟩ ⟨Nat.le_of_ble_eq_true rfl, Nat.le_of_ble_eq_true rfl⟩ (fun _ h => h.elim) xav_no (fun _ _ h => h.elim) (fun r41 hp41 hq41 => ?_)
    obtain ⟨rfl, rfl⟩ := hq41
    refine a_if_eq (tgt := 49) C dX7_postPayment_44 (by decide) (fun z => absurd z (by decide)) (fun _ => ?_)
    refine a_iconst (v := 0) C dX7_postPayment_47 (by decide) ?_
    exact a_iret C dX7_postPayment_48 (Nat.le_of_ble_eq_true rfl) (Nat.le_of_ble_eq_true rfl) (hret _ _ (by unfold mP o_postPayment; first | (rw [if_pos e6]; exact ⟨rfl, rfl⟩) | (rw [if_neg (fun z => z e6), if_pos e7]; exact ⟨rfl, rfl⟩) | (rw [if_neg (fun z => z e6), if_neg (fun z => z e7), if_pos e8]; exact ⟨rfl, rfl⟩) | (rw [if_neg (fun z => z e6), if_neg (fun z => z e7), if_neg e8, nI_clamp (by omega)]; exact ⟨rfl, rfl⟩)))
def o_allocate (ni np nl : Nat) (p i a : Int32) (n : Nat → Int32) (f : Nat → Nat → Int32) (g : Nat → Nat → Int64) : Int32 × mS := if ¬ (xin p np ∧ xin i ni) then oNo 1 n f g else if a < 1 then oNo 2 n f g else if ¬ f 10 i.toNatClampNeg = f 19 p.toNatClampNeg ∨ f 20 p.toNatClampNeg < a ∨ f 13 i.toNatClampNeg < a then oNo 3 n f g else (f 13 i.toNatClampNeg - a, mWn nl (-a) (nup n 0 0), mPf nl p.toNatClampNeg i.toNatClampNeg a f, g)
set_option maxRecDepth 100000 in
set_option maxHeartbeats 4000000 in
theorem m_X7_allocate {l : Launch} {N0 : Nat} {D : va_G} {dT : Nat → ClassId} (hflags : l.stackTraces = false) {h : xH} {n : Nat → Int32} {f : Nat → Nat → Int32} {g : Nat → Nat → Int64} {nc ni np nl : Nat} (hI : xI n nc ni np nl) {p0 i0 a : Int32} (hl : nl < 16000)  : xMet l N0 D dT yX7_allocate cX7_allocate 5 (some FieldType.int) 2 0 0 [.ref 200, .int p0, .int i0, .int a] (xM h n f g) xNo (mP h (o_allocate ni np nl p0 i0 a n f g)) xNX := by
  refine xMet_of hflags (by decide +kernel) (fun _ _ h => h) (Nat.le_of_ble_eq_true rfl) ?_
  intro E C I hret hthr
  refine a_loc [(0, .ref 200), (1, .int p0), (2, .int i0), (3, .int a)] (xsub_cons rfl (xsub_cons rfl (xsub_cons rfl (xsub_cons rfl (xsub_nil))))) ?_
  obtain ⟨hc, hi, hpy, hln, hc6, hi24, hp24, hlm⟩ := id hI
  refine a_aload_n (i := 0) C dX7_allocate_0 rfl rfl ?_
  refine a_iload_n (i := 1) C dX7_allocate_1 rfl rfl ?_
  refine a_callV C dX7_allocate_2 cv_X7_isPayment tb1137 (m_X7_isPayment hflags hI) rfl rfl xM_0 rfl (Nat.le_of_ble_eq_true rfl) ⟨Nat.le_of_ble_eq_true rfl, Nat.le_of_ble_eq_true rfl⟩ ⟨Nat.le_of_ble_eq_true rfl, Nat.le_of_ble_eq_true rfl⟩ (fun _ h => h.elim) xav_no (fun _ _ h => h.elim) (fun r2 hp2 hq2 => ?_)
  obtain ⟨rfl, rfl⟩ := hq2
  refine a_if_eq (tgt := 20) C dX7_allocate_5 (by decide) (fun c5 => ?_) (fun c5 => ?_)
  · have e6 : ¬ (xin p0 np ∧ xin i0 ni) := by clear hret hthr I C; grind [bI_0, bI_n0]
    refine a_iconst (v := 0) C dX7_allocate_20 (by decide) ?_
    refine a_istore (i := 4) C dX7_allocate_21 (by decide) ?_
    refine a_aload_n (i := 0) C dX7_allocate_23 rfl rfl ?_
    refine a_iload (i := 4) C dX7_allocate_24 rfl ?_
    refine a_if_ne (tgt := 33) C dX7_allocate_26 (by decide) (fun z => absurd rfl z) (fun _ => ?_)
    refine a_iconst (v := 1) C dX7_allocate_29 (by decide) ?_
    refine a_goto (tgt := 82) C dX7_allocate_30 (by decide) ?_
    refine a_callV C dX7_allocate_82 cv_X7_refused tb1032 (m_X7_refused1 hflags (by decide)) rfl rfl xM_0 rfl (Nat.le_of_ble_eq_true rfl) ⟨Nat.le_of_ble_eq_true rfl, Nat.le_of_ble_eq_true rfl⟩ ⟨Nat.le_of_ble_eq_true rfl, Nat.le_of_ble_eq_true rfl⟩ (fun _ h => h.elim) xav_no (fun _ _ h => h.elim) (fun r82 hp82 hq82 => ?_)
    obtain ⟨rfl, rfl⟩ := hq82
    refine a_if_eq (tgt := 90) C dX7_allocate_85 (by decide) (fun z => absurd z (by decide)) (fun _ => ?_)
    refine a_iconst (v := 0) C dX7_allocate_88 (by decide) ?_
    exact a_iret C dX7_allocate_89 (Nat.le_of_ble_eq_true rfl) (Nat.le_of_ble_eq_true rfl) (hret _ _ (by unfold mP o_allocate; first | (rw [if_pos e6]; exact ⟨rfl, rfl⟩) | (rw [if_neg (fun z => z e6), if_pos (Int32.not_le.mp c35)]; exact ⟨rfl, rfl⟩) | (rw [if_neg (fun z => z e6), if_neg (Int32.not_lt.mpr c35), nI_clamp (by omega), nI_clamp (by omega), if_pos e9]; exact ⟨rfl, rfl⟩) | (rw [if_neg (fun z => z e6), if_neg ha1, nI_clamp (by omega), nI_clamp (by omega), if_neg e9]; exact ⟨rfl, rfl⟩)))
  · refine a_aload_n (i := 0) C dX7_allocate_8 rfl rfl ?_
    refine a_iload_n (i := 2) C dX7_allocate_9 rfl rfl ?_
    refine a_callV C dX7_allocate_10 cv_X7_isInvoice tb1141 (m_X7_isInvoice hflags hI) rfl rfl xM_0 rfl (Nat.le_of_ble_eq_true rfl) ⟨Nat.le_of_ble_eq_true rfl, Nat.le_of_ble_eq_true rfl⟩ ⟨Nat.le_of_ble_eq_true rfl, Nat.le_of_ble_eq_true rfl⟩ (fun _ h => h.elim) xav_no (fun _ _ h => h.elim) (fun r10 hp10 hq10 => ?_)
    obtain ⟨rfl, rfl⟩ := hq10
    refine a_if_eq (tgt := 20) C dX7_allocate_13 (by decide) (fun c13 => ?_) (fun c13 => ?_)
    · have e6 : ¬ (xin p0 np ∧ xin i0 ni) := by clear hret hthr I C; grind [bI_0, bI_n0]
      refine a_iconst (v := 0) C dX7_allocate_20 (by decide) ?_
      refine a_istore (i := 4) C dX7_allocate_21 (by decide) ?_
      refine a_aload_n (i := 0) C dX7_allocate_23 rfl rfl ?_
      refine a_iload (i := 4) C dX7_allocate_24 rfl ?_
      refine a_if_ne (tgt := 33) C dX7_allocate_26 (by decide) (fun z => absurd rfl z) (fun _ => ?_)
      refine a_iconst (v := 1) C dX7_allocate_29 (by decide) ?_
      refine a_goto (tgt := 82) C dX7_allocate_30 (by decide) ?_
      refine a_callV C dX7_allocate_82 cv_X7_refused tb1032 (m_X7_refused1 hflags (by decide)) rfl rfl xM_0 rfl (Nat.le_of_ble_eq_true rfl) ⟨Nat.le_of_ble_eq_true rfl, Nat.le_of_ble_eq_true rfl⟩ ⟨Nat.le_of_ble_eq_true rfl, Nat.le_of_ble_eq_true rfl⟩ (fun _ h => h.elim) xav_no (fun _ _ h => h.elim) (fun r82 hp82 hq82 => ?_)
      obtain ⟨rfl, rfl⟩ := hq82
      refine a_if_eq (tgt := 90) C dX7_allocate_85 (by decide) (fun z => absurd z (by decide)) (fun _ => ?_)
      refine a_iconst (v := 0) C dX7_allocate_88 (by decide) ?_
      exact a_iret C dX7_allocate_89 (Nat.le_of_ble_eq_true rfl) (Nat.le_of_ble_eq_true rfl) (hret _ _ (by unfold mP o_allocate; first | (rw [if_pos e6]; exact ⟨rfl, rfl⟩) | (rw [if_neg (fun z => z e6), if_pos (Int32.not_le.mp c35)]; exact ⟨rfl, rfl⟩) | (rw [if_neg (fun z => z e6), if_neg (Int32.not_lt.mpr c35), nI_clamp (by omega), nI_clamp (by omega), if_pos e9]; exact ⟨rfl, rfl⟩) | (rw [if_neg (fun z => z e6), if_neg ha1, nI_clamp (by omega), nI_clamp (by omega), if_neg e9]; exact ⟨rfl, rfl⟩)))
    · have e6 : xin p0 np ∧ xin i0 ni := ⟨bn c5, bn c13⟩
      obtain ⟨p, hpp, rfl⟩ := xin_nI e6.1 (by omega)
      obtain ⟨i, hii, rfl⟩ := xin_nI e6.2 (by omega)
      refine a_iconst (v := 1) C dX7_allocate_16 (by decide) ?_
      refine a_goto (tgt := 21) C dX7_allocate_17 (by decide) ?_
      refine a_istore (i := 4) C dX7_allocate_21 (by decide) ?_
      refine a_aload_n (i := 0) C dX7_allocate_23 rfl rfl ?_
      refine a_iload (i := 4) C dX7_allocate_24 rfl ?_
      refine a_if_ne (tgt := 33) C dX7_allocate_26 (by decide) (fun _ => ?_) (fun z => absurd z (by decide))
      refine a_iload_n (i := 3) C dX7_allocate_33 rfl rfl ?_
      refine a_iconst (v := 1) C dX7_allocate_34 (by decide) ?_
      refine a_icmp_ge (tgt := 42) C dX7_allocate_35 (by decide) (fun c35 => ?_) (fun c35 => ?_)
      · refine a_aload_n (i := 0) C dX7_allocate_42 rfl rfl ?_
        refine a_get C dX7_allocate_43 fl_X7_22 xM_0 rfl ?_
        refine a_iload_n (i := 2) C dX7_allocate_46 rfl rfl ?_
        refine a_ialdI C dX7_allocate_47 xM_10 ⟨by omega, by omega⟩ ?_
        refine a_aload_n (i := 0) C dX7_allocate_48 rfl rfl ?_
        refine a_get C dX7_allocate_49 fl_X7_51 xM_0 rfl ?_
        refine a_iload_n (i := 1) C dX7_allocate_52 rfl rfl ?_
        refine a_ialdI C dX7_allocate_53 xM_19 ⟨by omega, by omega⟩ ?_
        refine a_icmp_ne (tgt := 77) C dX7_allocate_54 (by decide) (fun c54 => ?_) (fun c54 => ?_)
        · have e9 : ¬ f 10 i = f 19 p ∨ f 20 p < a ∨ f 13 i < a := by
            first
            | exact Or.inl c54
            | exact Or.inr (Or.inl c64)
            | exact Or.inr (Or.inr (Int32.not_le.mp c74))
          refine a_iconst (v := 3) C dX7_allocate_77 (by decide) ?_
          refine a_goto (tgt := 82) C dX7_allocate_78 (by decide) ?_
          refine a_callV C dX7_allocate_82 cv_X7_refused tb1032 (m_X7_refused1 hflags (by decide)) rfl rfl xM_0 rfl (Nat.le_of_ble_eq_true rfl) ⟨Nat.le_of_ble_eq_true rfl, Nat.le_of_ble_eq_true rfl⟩ ⟨Nat.le_of_ble_eq_true rfl, Nat.le_of_ble_eq_true rfl⟩ (fun _ h => h.elim) xav_no (fun _ _ h => h.elim) (fun r82 hp82 hq82 => ?_)
          obtain ⟨rfl, rfl⟩ := hq82
          refine a_if_eq (tgt := 90) C dX7_allocate_85 (by decide) (fun z => absurd z (by decide)) (fun _ => ?_)
          refine a_iconst (v := 0) C dX7_allocate_88 (by decide) ?_
          exact a_iret C dX7_allocate_89 (Nat.le_of_ble_eq_true rfl) (Nat.le_of_ble_eq_true rfl) (hret _ _ (by unfold mP o_allocate; first | (rw [if_pos e6]; exact ⟨rfl, rfl⟩) | (rw [if_neg (fun z => z e6), if_pos (Int32.not_le.mp c35)]; exact ⟨rfl, rfl⟩) | (rw [if_neg (fun z => z e6), if_neg (Int32.not_lt.mpr c35), nI_clamp (by omega), nI_clamp (by omega), if_pos e9]; exact ⟨rfl, rfl⟩) | (rw [if_neg (fun z => z e6), if_neg ha1, nI_clamp (by omega), nI_clamp (by omega), if_neg e9]; exact ⟨rfl, rfl⟩)))
        · refine a_iload_n (i := 3) C dX7_allocate_57 rfl rfl ?_
          refine a_aload_n (i := 0) C dX7_allocate_58 rfl rfl ?_
          refine a_get C dX7_allocate_59 fl_X7_54 xM_0 rfl ?_
          refine a_iload_n (i := 1) C dX7_allocate_62 rfl rfl ?_
          refine a_ialdI C dX7_allocate_63 xM_20 ⟨by omega, by omega⟩ ?_
          refine a_icmp_gt (tgt := 77) C dX7_allocate_64 (by decide) (fun c64 => ?_) (fun c64 => ?_)
          · have e9 : ¬ f 10 i = f 19 p ∨ f 20 p < a ∨ f 13 i < a := by
              first
              | exact Or.inl c54
              | exact Or.inr (Or.inl c64)
              | exact Or.inr (Or.inr (Int32.not_le.mp c74))
            refine a_iconst (v := 3) C dX7_allocate_77 (by decide) ?_
            refine a_goto (tgt := 82) C dX7_allocate_78 (by decide) ?_
            refine a_callV C dX7_allocate_82 cv_X7_refused tb1032 (m_X7_refused1 hflags (by decide)) rfl rfl xM_0 rfl (Nat.le_of_ble_eq_true rfl) ⟨Nat.le_of_ble_eq_true rfl, Nat.le_of_ble_eq_true rfl⟩ ⟨Nat.le_of_ble_eq_true rfl, Nat.le_of_ble_eq_true rfl⟩ (fun _ h => h.elim) xav_no (fun _ _ h => h.elim) (fun r82 hp82 hq82 => ?_)
            obtain ⟨rfl, rfl⟩ := hq82
            refine a_if_eq (tgt := 90) C dX7_allocate_85 (by decide) (fun z => absurd z (by decide)) (fun _ => ?_)
            refine a_iconst (v := 0) C dX7_allocate_88 (by decide) ?_
            exact a_iret C dX7_allocate_89 (Nat.le_of_ble_eq_true rfl) (Nat.le_of_ble_eq_true rfl) (hret _ _ (by unfold mP o_allocate; first | (rw [if_pos e6]; exact ⟨rfl, rfl⟩) | (rw [if_neg (fun z => z e6), if_pos (Int32.not_le.mp c35)]; exact ⟨rfl, rfl⟩) | (rw [if_neg (fun z => z e6), if_neg (Int32.not_lt.mpr c35), nI_clamp (by omega), nI_clamp (by omega), if_pos e9]; exact ⟨rfl, rfl⟩) | (rw [if_neg (fun z => z e6), if_neg ha1, nI_clamp (by omega), nI_clamp (by omega), if_neg e9]; exact ⟨rfl, rfl⟩)))
          · refine a_iload_n (i := 3) C dX7_allocate_67 rfl rfl ?_
            refine a_aload_n (i := 0) C dX7_allocate_68 rfl rfl ?_
            refine a_get C dX7_allocate_69 fl_X7_31 xM_0 rfl ?_
            refine a_iload_n (i := 2) C dX7_allocate_72 rfl rfl ?_
            refine a_ialdI C dX7_allocate_73 xM_13 ⟨by omega, by omega⟩ ?_
            refine a_icmp_le (tgt := 81) C dX7_allocate_74 (by decide) (fun c74 => ?_) (fun c74 => ?_)
            · have e9 : ¬ (¬ f 10 i = f 19 p ∨ f 20 p < a ∨ f 13 i < a) := fun z => z.elim (fun q => q c54) (fun q => q.elim c64 (fun q2 => absurd q2 (Int32.not_lt.mpr c74)))
              have ha1 : ¬ a < 1 := Int32.not_lt.mpr c35
              have ha0 : 0 < a := Int32.lt_of_lt_of_le (by decide) c35
              refine a_iconst (v := 0) C dX7_allocate_81 (by decide) ?_
              refine a_callV C dX7_allocate_82 cv_X7_refused tb1032 (m_X7_refused0 hflags) rfl rfl xM_0 rfl (Nat.le_of_ble_eq_true rfl) ⟨Nat.le_of_ble_eq_true rfl, Nat.le_of_ble_eq_true rfl⟩ ⟨Nat.le_of_ble_eq_true rfl, Nat.le_of_ble_eq_true rfl⟩ (fun _ h => h.elim) xav_no (fun _ _ h => h.elim) (fun r82 hp82 hq82 => ?_)
              obtain ⟨rfl, rfl⟩ := hq82
              refine a_if_eq (tgt := 90) C dX7_allocate_85 (by decide) (fun _ => ?_) (fun z => absurd (by decide) z)
              refine a_aload_n (i := 0) C dX7_allocate_90 rfl rfl ?_
              refine a_iload_n (i := 1) C dX7_allocate_91 rfl rfl ?_
              refine a_iload_n (i := 2) C dX7_allocate_92 rfl rfl ?_
              refine a_iload_n (i := 3) C dX7_allocate_93 rfl rfl ?_
              refine a_callV C dX7_allocate_94 cv_X7_put tb1129 (m_X7_put hflags (xI_0 hI) (p := p) (i := i) (a := a) (by omega) (by omega) (fun _ => hl)) rfl rfl xM_0 rfl (Nat.le_of_ble_eq_true rfl) ⟨Nat.le_of_ble_eq_true rfl, Nat.le_of_ble_eq_true rfl⟩ ⟨Nat.le_of_ble_eq_true rfl, Nat.le_of_ble_eq_true rfl⟩ (fun _ h => h.elim) xav_no (fun _ _ h => h.elim) (fun r94 hp94 hq94 => ?_)
              obtain ⟨rfl, rfl⟩ := hq94
              rw [if_pos ha0]
              refine a_aload_n (i := 0) C dX7_allocate_97 rfl rfl ?_
              refine a_get C dX7_allocate_98 fl_X7_31 xM_0 rfl ?_
              refine a_iload_n (i := 2) C dX7_allocate_101 rfl rfl ?_
              refine a_ialdV C (f 13 i - a) dX7_allocate_102 xM_13 ⟨by omega, by omega⟩ (by unfold mPf; rw [mWf_o (by decide) (by decide)]; exact pk_us) ?_
              exact a_iret C dX7_allocate_103 (Nat.le_of_ble_eq_true rfl) (Nat.le_of_ble_eq_true rfl) (hret _ _ (by unfold mP o_allocate; first | (rw [if_pos e6]; exact ⟨rfl, rfl⟩) | (rw [if_neg (fun z => z e6), if_pos (Int32.not_le.mp c35)]; exact ⟨rfl, rfl⟩) | (rw [if_neg (fun z => z e6), if_neg (Int32.not_lt.mpr c35), nI_clamp (by omega), nI_clamp (by omega), if_pos e9]; exact ⟨rfl, rfl⟩) | (rw [if_neg (fun z => z e6), if_neg ha1, nI_clamp (by omega), nI_clamp (by omega), if_neg e9]; exact ⟨rfl, rfl⟩)))
            · have e9 : ¬ f 10 i = f 19 p ∨ f 20 p < a ∨ f 13 i < a := by
                first
                | exact Or.inl c54
                | exact Or.inr (Or.inl c64)
                | exact Or.inr (Or.inr (Int32.not_le.mp c74))
              refine a_iconst (v := 3) C dX7_allocate_77 (by decide) ?_
              refine a_goto (tgt := 82) C dX7_allocate_78 (by decide) ?_
              refine a_callV C dX7_allocate_82 cv_X7_refused tb1032 (m_X7_refused1 hflags (by decide)) rfl rfl xM_0 rfl (Nat.le_of_ble_eq_true rfl) ⟨Nat.le_of_ble_eq_true rfl, Nat.le_of_ble_eq_true rfl⟩ ⟨Nat.le_of_ble_eq_true rfl, Nat.le_of_ble_eq_true rfl⟩ (fun _ h => h.elim) xav_no (fun _ _ h => h.elim) (fun r82 hp82 hq82 => ?_)
              obtain ⟨rfl, rfl⟩ := hq82
              refine a_if_eq (tgt := 90) C dX7_allocate_85 (by decide) (fun z => absurd z (by decide)) (fun _ => ?_)
              refine a_iconst (v := 0) C dX7_allocate_88 (by decide) ?_
              exact a_iret C dX7_allocate_89 (Nat.le_of_ble_eq_true rfl) (Nat.le_of_ble_eq_true rfl) (hret _ _ (by unfold mP o_allocate; first | (rw [if_pos e6]; exact ⟨rfl, rfl⟩) | (rw [if_neg (fun z => z e6), if_pos (Int32.not_le.mp c35)]; exact ⟨rfl, rfl⟩) | (rw [if_neg (fun z => z e6), if_neg (Int32.not_lt.mpr c35), nI_clamp (by omega), nI_clamp (by omega), if_pos e9]; exact ⟨rfl, rfl⟩) | (rw [if_neg (fun z => z e6), if_neg ha1, nI_clamp (by omega), nI_clamp (by omega), if_neg e9]; exact ⟨rfl, rfl⟩)))
      · refine a_iconst (v := 2) C dX7_allocate_38 (by decide) ?_
        refine a_goto (tgt := 82) C dX7_allocate_39 (by decide) ?_
        refine a_callV C dX7_allocate_82 cv_X7_refused tb1032 (m_X7_refused1 hflags (by decide)) rfl rfl xM_0 rfl (Nat.le_of_ble_eq_true rfl) ⟨Nat.le_of_ble_eq_true rfl, Nat.le_of_ble_eq_true rfl⟩ ⟨Nat.le_of_ble_eq_true rfl, Nat.le_of_ble_eq_true rfl⟩ (fun _ h => h.elim) xav_no (fun _ _ h => h.elim) (fun r82 hp82 hq82 => ?_)
        obtain ⟨rfl, rfl⟩ := hq82
        refine a_if_eq (tgt := 90) C dX7_allocate_85 (by decide) (fun z => absurd z (by decide)) (fun _ => ?_)
        refine a_iconst (v := 0) C dX7_allocate_88 (by decide) ?_
        exact a_iret C dX7_allocate_89 (Nat.le_of_ble_eq_true rfl) (Nat.le_of_ble_eq_true rfl) (hret _ _ (by unfold mP o_allocate; first | (rw [if_pos e6]; exact ⟨rfl, rfl⟩) | (rw [if_neg (fun z => z e6), if_pos (Int32.not_le.mp c35)]; exact ⟨rfl, rfl⟩) | (rw [if_neg (fun z => z e6), if_neg (Int32.not_lt.mpr c35), nI_clamp (by omega), nI_clamp (by omega), if_pos e9]; exact ⟨rfl, rfl⟩) | (rw [if_neg (fun z => z e6), if_neg ha1, nI_clamp (by omega), nI_clamp (by omega), if_neg e9]; exact ⟨rfl, rfl⟩)))
