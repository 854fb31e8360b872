theorem mShf_o {ni w : Nat} {a : Int32} {f : Nat → Nat → Int32} {g : Nat → Nat → Int64} {j : Nat} (h : j ≠ 25) : mShf ni w a f g j = f j := by
  unfold mShf
  split
  · exact fup_n h
  · split <;> exact fup_n h
theorem mAR_o {ni nl p w : Nat} {n : Nat → Int32} {f : Nat → Nat → Int32} {g : Nat → Nat → Int64} {j : Nat} (h : j ≠ 23 ∧ j ≠ 24 ∧ j ≠ 22 ∧ j ≠ 20 ∧ j ≠ 13 ∧ j ≠ 14 ∧ j ≠ 18 ∧ j ≠ 17) (h2 : j ≠ 25) : (mAR ni nl p w n f g).2.2.2.1 j = f j := by
  unfold mAR
  split
  · show (mAS _ _ _ _ _ _).2.2 j = f j
    rw [mAS_o h]
    exact mShf_o h2
  · rfl
/-- the rests of the first k payments, allocated -/
def mRS (ni nl w : Nat) (n : Nat → Int32) (f : Nat → Nat → Int32) (g : Nat → Nat → Int64) : Nat → Int32 × Nat × mS
  | 0 => (0, nl, n, f, g)
  | k + 1 => if f 19 k = nI w then ((mRS ni nl w n f g k).1 + (mAR ni (mRS ni nl w n f g k).2.1 k w (mRS ni nl w n f g k).2.2.1 (mRS ni nl w n f g k).2.2.2.1 (mRS ni nl w n f g k).2.2.2.2).1, (mAR ni (mRS ni nl w n f g k).2.1 k w (mRS ni nl w n f g k).2.2.1 (mRS ni nl w n f g k).2.2.2.1 (mRS ni nl w n f g k).2.2.2.2).2) else ((mRS ni nl w n f g k).1 + 0, (mRS ni nl w n f g k).2)
theorem mRS_t {ni nl w : Nat} {n : Nat → Int32} {f : Nat → Nat → Int32} {g : Nat → Nat → Int64} {k : Nat} (h : f 19 k = nI w) : mRS ni nl w n f g (k + 1) = ((mRS ni nl w n f g k).1 + (mAR ni (mRS ni nl w n f g k).2.1 k w (mRS ni nl w n f g k).2.2.1 (mRS ni nl w n f g k).2.2.2.1 (mRS ni nl w n f g k).2.2.2.2).1, (mAR ni (mRS ni nl w n f g k).2.1 k w (mRS ni nl w n f g k).2.2.1 (mRS ni nl w n f g k).2.2.2.1 (mRS ni nl w n f g k).2.2.2.2).2) := if_pos h
theorem mRS_f {ni nl w : Nat} {n : Nat → Int32} {f : Nat → Nat → Int32} {g : Nat → Nat → Int64} {k : Nat} (h : ¬ f 19 k = nI w) : mRS ni nl w n f g (k + 1) = ((mRS ni nl w n f g k).1 + 0, (mRS ni nl w n f g k).2) := if_neg h
theorem mRS_o {ni nl w : Nat} {n : Nat → Int32} {f : Nat → Nat → Int32} {g : Nat → Nat → Int64} {j : Nat} (h : j ≠ 23 ∧ j ≠ 24 ∧ j ≠ 22 ∧ j ≠ 20 ∧ j ≠ 13 ∧ j ≠ 14 ∧ j ≠ 18 ∧ j ≠ 17) (h2 : j ≠ 25) : ∀ k, (mRS ni nl w n f g k).2.2.2.1 j = f j := by
  intro k
  induction k with
  | zero => rfl
  | succ k ih =>
    by_cases hs : f 19 k = nI w
    · rw [mRS_t hs]
      show (mAR _ _ _ _ _ _ _).2.2.2.1 j = f j
      rw [mAR_o h h2, ih]
    · rw [mRS_f hs]
      exact ih
def mRok (ni np nl w : Nat) (n : Nat → Int32) (f : Nat → Nat → Int32) (g : Nat → Nat → Int64) : Prop := ∀ k, k < np → f 19 k = nI w → mAok ni (mRS ni nl w n f g k).2.1 k w (mRS ni nl w n f g k).2.2.1 (mRS ni nl w n f g k).2.2.2.1 (mRS ni nl w n f g k).2.2.2.2
theorem mRS_I {nc ni np nl w : Nat} {n : Nat → Int32} {f : Nat → Nat → Int32} {g : Nat → Nat → Int64} (hI : xI n nc ni np nl) (hok : mRok ni np nl w n f g) : ∀ k, k ≤ np → xI (mRS ni nl w n f g k).2.2.1 nc ni np (mRS ni nl w n f g k).2.1 := by
  intro k
  induction k with
  | zero => intro _; exact hI
  | succ k ih =>
    intro hk
    by_cases hs : f 19 k = nI w
    · rw [mRS_t hs]
      exact mAR_I (ih (by omega)) (hok k (by omega) hs)
    · rw [mRS_f hs]
      exact ih (by omega)
def o_allocateRest (nc ni np nl : Nat) (c : Int32) (n : Nat → Int32) (f : Nat → Nat → Int32) (g : Nat → Nat → Int64) : Int32 × mS := if ¬ xin c nc then oNo 1 n f g else ((mRS ni nl c.toNatClampNeg (nup n 0 0) f g np).1, (mRS ni nl c.toNatClampNeg (nup n 0 0) f g np).2.2)
/-- what the first k invoices give back of a payment -/
def mVS (p nl : Nat) (n : Nat → Int32) (f : Nat → Nat → Int32) : Nat → Int32 × Nat × (Nat → Int32) × (Nat → Nat → Int32)
  | 0 => (0, nl, n, f)
  | k + 1 => ((mVS p nl n f k).1 + (mVS p nl n f k).2.2.2 22 (24 * p + k), mWl (mVS p nl n f k).2.1 ((mVS p nl n f k).2.2.2 22 (24 * p + k)), mWn (mVS p nl n f k).2.1 ((mVS p nl n f k).2.2.2 22 (24 * p + k)) (mVS p nl n f k).2.2.1, mBf (mVS p nl n f k).2.1 p k (mVS p nl n f k).2.2.2)
theorem mVS_I {p nc ni np nl : Nat} {n : Nat → Int32} {f : Nat → Nat → Int32} (hI : xI n nc ni np nl) {m : Nat} (hl : ∀ k, k < m → (mVS p nl n f k).2.1 < 16000) : ∀ k, k ≤ m → xI (mVS p nl n f k).2.2.1 nc ni np (mVS p nl n f k).2.1 := by
  intro k
  induction k with
  | zero => intro _; exact hI
  | succ k ih => intro hk; exact xI_W (ih (by omega)) (hl k (by omega))
def o_reverse (ni np nl : Nat) (p : Int32) (n : Nat → Int32) (f : Nat → Nat → Int32) (g : Nat → Nat → Int64) : Int32 × mS := if ¬ xin p np then oNo 1 n f g else if ¬ f 21 p.toNatClampNeg = 0 then oNo 2 n f g else ((mVS p.toNatClampNeg nl (nup n 0 0) f ni).1, (mVS p.toNatClampNeg nl (nup n 0 0) f ni).2.2.1, fup (fup (mVS p.toNatClampNeg nl (nup n 0 0) f ni).2.2.2 20 (upd ((mVS p.toNatClampNeg nl (nup n 0 0) f ni).2.2.2 20) p.toNatClampNeg 0)) 21 (upd ((mVS p.toNatClampNeg nl (nup n 0 0) f ni).2.2.2 21) p.toNatClampNeg 1), g)