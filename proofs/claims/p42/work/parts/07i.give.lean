/-! by share: the class's split is the reference's -/
theorem zs_mul {t : Nat → Int} {x : Int} : ∀ n, zs (fun i => x * t i) n = x * zs t n := by
  intro n
  induction n with
  | zero => exact (Int.mul_zero x).symm
  | succ n ih => rw [zs_s, zs_s, ih, Int.mul_add]
theorem zs_mulr {t : Nat → Int} {x : Int} : ∀ n, zs (fun i => t i * x) n = zs t n * x := by
  intro n
  induction n with
  | zero => exact (Int.zero_mul x).symm
  | succ n ih => rw [zs_s, zs_s, ih, Int.add_mul]
theorem zs_sub {t s : Nat → Int} : ∀ n, zs (fun i => t i - s i) n = zs t n - zs s n := by
  intro n
  induction n with
  | zero => rfl
  | succ n ih =>
    rw [zs_s, zs_s, zs_s, ih]
    omega
theorem zs_pos {t : Nat → Int} {n : Nat} (h : 0 < zs t n) : ∃ i, i < n ∧ 0 < t i := by
  by_cases h2 : ∃ i, i < n ∧ 0 < t i
  · exact h2
  · have := zs_bd (t := t) (B := 0) n (fun i hi => Int.not_lt.mp (fun z => h2 ⟨i, hi, z⟩))
    rw [Int.mul_zero] at this
    omega
theorem cgr_spec {R : Nat → Int64} : ∀ k, k ≤ 24 → ((cgr R k).1 = -1 ∧ (cgr R k).2.toInt = 0 ∧ ∀ i, i < k → (R i).toInt ≤ 0) ∨ ∃ j, j < k ∧ (cgr R k).1 = nI j ∧ (cgr R k).2 = R j ∧ 0 < (R j).toInt ∧ (∀ i, i < k → (R i).toInt ≤ (R j).toInt) ∧ ∀ i, i < j → (R i).toInt < (R j).toInt := by
  intro k
  induction k with
  | zero => intro _; exact Or.inl ⟨rfl, rfl, fun i hi => absurd hi (Nat.not_lt_zero i)⟩
  | succ k ih =>
    intro hk
    rw [cgr_s]
    rcases ih (by omega) with ⟨h1, h2, h3⟩ | ⟨j, hj, h1, h2, h3, h4, h5⟩
    · by_cases hw : (cgr R k).2 < R k
      · rw [if_pos hw]
        have hw' := i64_lt.mp hw
        rw [h2] at hw'
        refine Or.inr ⟨k, by omega, rfl, rfl, hw', fun i hi => ?_, fun i hi => ?_⟩
        · by_cases e : i = k
          · rw [e]; exact Int.le_refl _
          · have := h3 i (by omega); omega
        · have := h3 i hi; omega
      · rw [if_neg hw]
        have hw' := mt i64_lt.mpr hw
        rw [h2] at hw'
        refine Or.inl ⟨h1, h2, fun i hi => ?_⟩
        by_cases e : i = k
        · rw [e]; omega
        · exact h3 i (by omega)
    · by_cases hw : (cgr R k).2 < R k
      · rw [if_pos hw]
        have hw' := i64_lt.mp hw
        rw [h2] at hw'
        refine Or.inr ⟨k, by omega, rfl, rfl, by omega, fun i hi => ?_, fun i hi => ?_⟩
        · by_cases e : i = k
          · rw [e]; exact Int.le_refl _
          · have := h4 i (by omega); omega
        · have := h4 i hi; omega
      · rw [if_neg hw]
        have hw' := mt i64_lt.mpr hw
        rw [h2] at hw'
        refine Or.inr ⟨j, by omega, h1, h2, h3, fun i hi => ?_, h5⟩
        by_cases e : i = k
        · rw [e]; omega
        · exact h4 i (by omega)
theorem xgr_spec {R : Nat → Int64} : ∀ k, xgr R (k + 1) < k + 1 ∧ (∀ i, i < k + 1 → (R i).toInt ≤ (R (xgr R (k + 1))).toInt) ∧ ∀ i, i < xgr R (k + 1) → (R i).toInt < (R (xgr R (k + 1))).toInt := by
  intro k
  induction k with
  | zero =>
    rw [xgr_1]
    refine ⟨by decide, fun i hi => ?_, fun i hi => absurd hi (Nat.not_lt_zero i)⟩
    rw [show i = 0 by omega]
    exact Int.le_refl _
  | succ k ih =>
    obtain ⟨h1, h2, h3⟩ := ih
    rw [xgr_s]
    by_cases hw : R (xgr R (k + 1)) < R (k + 1)
    · have hw' := i64_lt.mp hw
      rw [if_pos hw]
      refine ⟨by omega, fun i hi => ?_, fun i hi => ?_⟩
      · by_cases e : i = k + 1
        · rw [e]; exact Int.le_refl _
        · have := h2 i (by omega); omega
      · have := h2 i hi; omega
    · have hw' := mt i64_lt.mpr hw
      rw [if_neg hw]
      refine ⟨by omega, fun i hi => ?_, h3⟩
      by_cases e : i = k + 1
      · rw [e]; omega
      · exact h2 i (by omega)
/-- a cent finds the same invoice -/
theorem cgr_xgr {R R' : Nat → Int64} {ni : Nat} (hn : ni ≤ 24) (he : ∀ i, i < ni → R i = R' i) (hz : ∀ i, ni ≤ i → i < 24 → (R i).toInt = 0) (hp : ∃ i, i < ni ∧ 0 < (R i).toInt) : (cgr R 24).1 = nI (xgr R' ni) ∧ xgr R' ni < ni := by
  obtain ⟨i0, hi0, hp0⟩ := hp
  rcases cgr_spec (R := R) 24 (Nat.le_refl _) with ⟨-, -, h3⟩ | ⟨j, hj, h1, -, h3, h4, h5⟩
  · have := h3 i0 (by omega); omega
  · have hjn : j < ni := by
      rcases Nat.lt_or_ge j ni with q | q
      · exact q
      · have := hz j q hj; omega
    obtain ⟨k, rfl⟩ : ∃ k, ni = k + 1 := ⟨ni - 1, by omega⟩
    obtain ⟨g1, g2, g3⟩ := xgr_spec (R := R') k
    refine ⟨?_, g1⟩
    rw [h1]
    congr 1
    rcases Nat.lt_trichotomy j (xgr R' (k + 1)) with q | q | q
    · have e1 := g3 j q
      have e2 := h4 (xgr R' (k + 1)) (by omega)
      rw [← he j hjn, ← he _ g1] at e1
      omega
    · exact q
    · have e1 := h5 _ q
      have e2 := g2 j hjn
      rw [← he j hjn, ← he _ g1] at e2
      omega
def xst (ni : Nat) (s : (Nat → Int32) × (Nat → Int64)) : (Nat → Int32) × (Nat → Int64) := (upd s.1 (xgr s.2 ni) (s.1 (xgr s.2 ni) + 1), vp_updL s.2 (xgr s.2 ni) 0)
theorem xgive_s {ni : Nat} : ∀ (k : Nat) (S : Nat → Int32) (R : Nat → Int64), xgive ni (k + 1) S R = xst ni (xgive ni k S R) := by
  intro k
  induction k with
  | zero => intro S R; rfl
  | succ k ih =>
    intro S R
    show xgive ni (k + 1) _ _ = xst ni (xgive ni k _ _)
    rw [ih]
/-- how the giving stands after k cents -/
def cGv (ni : Nat) (w : Nat → Int) (T L s0 : Int) (k : Nat) (s x : (Nat → Int32) × (Nat → Int64)) : Prop := (∀ i, i < ni → s.1 i = x.1 i ∧ s.2 i = x.2 i) ∧ (∀ i, ni ≤ i → i < 24 → (s.2 i).toInt = 0) ∧ (∀ i, i < ni → 0 ≤ (s.2 i).toInt ∧ (s.2 i).toInt ≤ T ∧ 0 ≤ (s.1 i).toInt ∧ (s.1 i).toInt ≤ w i ∧ (0 < (s.2 i).toInt → (s.1 i).toInt < w i)) ∧ L * T - k * T ≤ zs (fun i => (s.2 i).toInt) ni ∧ zs (fun i => (s.1 i).toInt) ni = s0 + k
theorem cGv_s {ni : Nat} {w : Nat → Int} {T L s0 : Int} {k : Nat} {s x : (Nat → Int32) × (Nat → Int64)} (hn : ni ≤ 24) (hT : 0 < T) (hw : ∀ i, i < ni → w i ≤ 2147483647) (hk : (k : Int) < L) (h : cGv ni w T L s0 k s x) : cGv ni w T L s0 (k + 1) (cst s.1 s.2) (xst ni x) := by
  obtain ⟨h1, h2, h3, h4, h5⟩ := h
  have hm : (k : Int) * T + T ≤ L * T := by
    have := Int.mul_le_mul_of_nonneg_right (show (k : Int) + 1 ≤ L by omega) (Int.le_of_lt hT)
    rw [Int.add_mul, Int.one_mul] at this
    exact this
  obtain ⟨i0, hi0, hp0⟩ := zs_pos (t := fun i => (s.2 i).toInt) (n := ni) (by omega)
  obtain ⟨e1, e2⟩ := cgr_xgr (R := s.2) (R' := x.2) hn (fun i hi => (h1 i hi).2) h2 ⟨i0, hi0, hp0⟩
  have hpos : 0 < (s.2 (xgr x.2 ni)).toInt := by
    obtain ⟨q, rfl⟩ : ∃ q, ni = q + 1 := ⟨ni - 1, by omega⟩
    have e3 := (xgr_spec (R := x.2) q).2.1 i0 hi0
    rw [← (h1 i0 hi0).2, ← (h1 _ e2).2] at e3
    exact Int.lt_of_lt_of_le hp0 e3
  have hne : ¬ (cgr s.2 24).1 = -1 := by
    rw [e1]
    intro z
    have := congrArg Int32.toInt z
    rw [nI_toInt (by omega), show (-1 : Int32).toInt = -1 from rfl] at this
    omega
  have hcl : (cgr s.2 24).1.toNatClampNeg = xgr x.2 ni := by rw [e1, nI_clamp (by omega)]
  have hs : cst s.1 s.2 = (upd s.1 (xgr x.2 ni) (s.1 (xgr x.2 ni) + 1), vp_updL s.2 (xgr x.2 ni) 0) := by
    unfold cst
    rw [if_neg hne, hcl]
  rw [hs]
  generalize hj : xgr x.2 ni = j at e1 e2 hpos
  have g3 := h3 j e2
  have gw := hw j e2
  have gl := g3.2.2.2.2 hpos
  have e1' : (s.1 j + 1).toInt = (s.1 j).toInt + 1 := by
    have : (1 : Int32).toInt = 1 := rfl
    rw [i32_add (by omega) (by omega), this]
  have hxs : xst ni x = (upd x.1 j (x.1 j + 1), vp_updL x.2 j 0) := by unfold xst; rw [hj]
  rw [hxs]
  refine ⟨fun i hi => ?_, fun i hi hi2 => ?_, fun i hi => ?_, ?_, ?_⟩
  · by_cases e : i = j
    · subst e
      exact ⟨by show upd _ i _ i = upd _ i _ i; rw [xupd_i, xupd_i, (h1 i hi).1], by show vp_updL _ i _ i = vp_updL _ i _ i; rw [xudL_i, xudL_i]⟩
    · exact ⟨by show upd _ j _ i = upd _ j _ i; rw [xud e, xud e, (h1 i hi).1], by show vp_updL _ j _ i = vp_updL _ j _ i; rw [xudL e, xudL e, (h1 i hi).2]⟩
  · show (vp_updL _ j _ i).toInt = 0
    rw [xudL (by omega)]
    exact h2 i hi hi2
  · by_cases e : i = j
    · subst e
      show 0 ≤ (vp_updL _ i _ i).toInt ∧ (vp_updL _ i _ i).toInt ≤ T ∧ 0 ≤ (upd _ i _ i).toInt ∧ (upd _ i _ i).toInt ≤ w i ∧ (0 < (vp_updL _ i _ i).toInt → (upd _ i _ i).toInt < w i)
      rw [xudL_i, xupd_i, e1', i64_z]
      refine ⟨by omega, by omega, by omega, by omega, fun z => absurd z (by omega)⟩
    · show 0 ≤ (vp_updL _ j _ i).toInt ∧ (vp_updL _ j _ i).toInt ≤ T ∧ 0 ≤ (upd _ j _ i).toInt ∧ (upd _ j _ i).toInt ≤ w i ∧ (0 < (vp_updL _ j _ i).toInt → (upd _ j _ i).toInt < w i)
      rw [xudL e, xud e]
      exact h3 i hi
  · show L * T - ((k + 1 : Nat) : Int) * T ≤ zs (fun i => (vp_updL s.2 j 0 i).toInt) ni
    rw [zs_up (t := fun i => (s.2 i).toInt) (i := j) (d := -(s.2 j).toInt) ni e2 (fun i _ hi => by show (vp_updL _ j _ i).toInt = _; rw [xudL hi]) (by show (vp_updL _ j _ j).toInt = (s.2 j).toInt + -(s.2 j).toInt; rw [xudL_i, i64_z]; omega), Int.natCast_succ, Int.add_mul, Int.one_mul]
    have := g3.2.1
    omega
  · show zs (fun i => (upd s.1 j (s.1 j + 1) i).toInt) ni = s0 + ((k + 1 : Nat) : Int)
    rw [zs_up (t := fun i => (s.1 i).toInt) (i := j) (d := 1) ni e2 (fun i _ hi => by show (upd _ j _ i).toInt = _; rw [xud hi]) (by show (upd _ j _ j).toInt = (s.1 j).toInt + 1; rw [xupd_i, e1']), h5, Int.natCast_succ]
    omega
theorem cGv_all {ni : Nat} {w : Nat → Int} {T L s0 : Int} {S S' : Nat → Int32} {R R' : Nat → Int64} (hn : ni ≤ 24) (hT : 0 < T) (hw : ∀ i, i < ni → w i ≤ 2147483647) (h : cGv ni w T L s0 0 (S, R) (S', R')) : ∀ k : Nat, (k : Int) ≤ L → cGv ni w T L s0 k (cgive S R k) (xgive ni k S' R') := by
  intro k
  induction k with
  | zero => intro _; exact h
  | succ k ih =>
    intro hk
    rw [xgive_s]
    exact cGv_s hn hT hw (by omega) (ih (by omega))
