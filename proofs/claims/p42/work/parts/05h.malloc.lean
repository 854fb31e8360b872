/-- the lines, the numbers, the rows behind the parts of the first k invoices -/
def mAS (p : Nat) (sh : Nat → Int32) (nl : Nat) (n : Nat → Int32) (f : Nat → Nat → Int32) : Nat → Nat × (Nat → Int32) × (Nat → Nat → Int32)
  | 0 => (nl, n, f)
  | k + 1 => if 0 < sh k then (mWl (mAS p sh nl n f k).1 (-(sh k)), mWn (mAS p sh nl n f k).1 (-(sh k)) (mAS p sh nl n f k).2.1, mPf (mAS p sh nl n f k).1 p k (sh k) (mAS p sh nl n f k).2.2) else mAS p sh nl n f k
theorem mAS_t {p : Nat} {sh : Nat → Int32} {nl : Nat} {n : Nat → Int32} {f : Nat → Nat → Int32} {k : Nat} (h : 0 < sh k) : mAS p sh nl n f (k + 1) = (mWl (mAS p sh nl n f k).1 (-(sh k)), mWn (mAS p sh nl n f k).1 (-(sh k)) (mAS p sh nl n f k).2.1, mPf (mAS p sh nl n f k).1 p k (sh k) (mAS p sh nl n f k).2.2) := if_pos h
theorem mAS_f {p : Nat} {sh : Nat → Int32} {nl : Nat} {n : Nat → Int32} {f : Nat → Nat → Int32} {k : Nat} (h : ¬ 0 < sh k) : mAS p sh nl n f (k + 1) = mAS p sh nl n f k := if_neg h
theorem mWf_o {nl i : Nat} {a : Int32} {f : Nat → Nat → Int32} {j : Nat} (h1 : j ≠ 23) (h2 : j ≠ 24) : mWf nl i a f j = f j := by
  unfold mWf
  split
  · rfl
  · rw [fup_n h2, fup_n h1]
theorem mPf_o {nl p i : Nat} {a : Int32} {f : Nat → Nat → Int32} {j : Nat} (h : j ≠ 23 ∧ j ≠ 24 ∧ j ≠ 22 ∧ j ≠ 20 ∧ j ≠ 13 ∧ j ≠ 14 ∧ j ≠ 18 ∧ j ≠ 17) : mPf nl p i a f j = f j := by
  obtain ⟨h1, h2, h3, h4, h5, h6, h7, h8⟩ := h
  unfold mPf
  rw [mWf_o h1 h2, fup_n h8, fup_n h7, fup_n h6, fup_n h5, fup_n h4, fup_n h3]
theorem mAS_o {p : Nat} {sh : Nat → Int32} {nl : Nat} {n : Nat → Int32} {f : Nat → Nat → Int32} {j : Nat} (h : j ≠ 23 ∧ j ≠ 24 ∧ j ≠ 22 ∧ j ≠ 20 ∧ j ≠ 13 ∧ j ≠ 14 ∧ j ≠ 18 ∧ j ≠ 17) : ∀ k, (mAS p sh nl n f k).2.2 j = f j := by
  intro k
  induction k with
  | zero => rfl
  | succ k ih =>
    by_cases hs : 0 < sh k
    · rw [mAS_t hs]
      show mPf _ _ _ _ _ j = f j
      rw [mPf_o h, ih]
    · rw [mAS_f hs, ih]
theorem mAS_I {p nc ni np nl : Nat} {sh : Nat → Int32} {n : Nat → Int32} {f : Nat → Nat → Int32} (hI : xI n nc ni np nl) {m : Nat} (hl : ∀ k, k < m → 0 < sh k → (mAS p sh nl n f k).1 < 16000) : ∀ k, k ≤ m → xI (mAS p sh nl n f k).2.1 nc ni np (mAS p sh nl n f k).1 := by
  intro k
  induction k with
  | zero => intro _; exact hI
  | succ k ih =>
    intro hk
    by_cases hs : 0 < sh k
    · rw [mAS_t hs]
      exact xI_W (ih (by omega)) (hl k (by omega) hs)
    · rw [mAS_f hs]
      exact ih (by omega)
/-- a payment's rest is allocated by the rule of the customer w: the answer, lines, numbers, rows -/
def mAsh (ni p w : Nat) (f : Nat → Nat → Int32) (g : Nat → Nat → Int64) : Nat → Nat → Int32 := mShf ni w (f 20 p) f g
def mAst (ni nl p w : Nat) (n : Nat → Int32) (f : Nat → Nat → Int32) (g : Nat → Nat → Int64) : Nat → Nat × (Nat → Int32) × (Nat → Nat → Int32) := mAS p (mAsh ni p w f g 25) nl n (mAsh ni p w f g)
def mAR (ni nl p w : Nat) (n : Nat → Int32) (f : Nat → Nat → Int32) (g : Nat → Nat → Int64) : Int32 × Nat × mS := if 0 < f 20 p then (f 20 p - (mAst ni nl p w n f g ni).2.2 20 p, (mAst ni nl p w n f g ni).1, (mAst ni nl p w n f g ni).2.1, (mAst ni nl p w n f g ni).2.2, mShg ni w (f 20 p) f g) else (f 20 p - f 20 p, nl, n, f, g)
/-- what the machine needs for that: a sum to divide by, room for the lines -/
def mAok (ni nl p w : Nat) (n : Nat → Int32) (f : Nat → Nat → Int32) (g : Nat → Nat → Int64) : Prop := 0 < f 20 p → (∀ i, i < ni → ¬ xclr f (nI w) i = 0 → ¬ xall f (nI w) ni = 0) ∧ ∀ k, k < ni → 0 < mAsh ni p w f g 25 k → (mAst ni nl p w n f g k).1 < 16000
def o_postPayment (nc ni np nl : Nat) (c a : Int32) (n : Nat → Int32) (f : Nat → Nat → Int32) (g : Nat → Nat → Int64) : Int32 × mS := if ¬ xin c nc then oNo 1 n f g else if ¬ xokA a then oNo 2 n f g else if np = 24 then oNo 3 n f g else (nI np, (mAR ni nl np c.toNatClampNeg (nup (nup n 0 0) 4 (nI (np + 1))) (fup (fup f 19 (upd (f 19) np c)) 20 (upd (f 20) np a)) g).2.2)
theorem xI_4 {n : Nat → Int32} {nc ni np nl : Nat} (h : xI n nc ni np nl) (hp : np < 24) : xI (nup n 4 (nI (np + 1))) nc ni (np + 1) nl := by
  obtain ⟨h1, h2, h3, h4, h5, h6, h7, h8⟩ := h
  exact ⟨h1, h2, rfl, h4, h5, h6, hp, h8⟩
theorem mAR_I {nc ni np nl p w : Nat} {n : Nat → Int32} {f : Nat → Nat → Int32} {g : Nat → Nat → Int64} (hI : xI n nc ni np nl) (hok : mAok ni nl p w n f g) : xI (mAR ni nl p w n f g).2.2.1 nc ni np (mAR ni nl p w n f g).2.1 := by
  unfold mAR
  by_cases h : 0 < f 20 p
  · rw [if_pos h]
    exact mAS_I hI (hok h).2 ni (Nat.le_refl _)
  · rw [if_neg h]
    exact hI
def o_allocate (ni np nl : Nat) (p i a : Int32) (n : Nat → Int32) (f : Nat → Nat → Int32) (g : Nat → Nat → Int64) : Int32 × mS := if ¬ (xin p np ∧ xin i ni) then oNo 1 n f g else if a < 1 then oNo 2 n f g else if ¬ f 10 i.toNatClampNeg = f 19 p.toNatClampNeg ∨ f 20 p.toNatClampNeg < a ∨ f 13 i.toNatClampNeg < a then oNo 3 n f g else (f 13 i.toNatClampNeg - a, mWn nl (-a) (nup n 0 0), mPf nl p.toNatClampNeg i.toNatClampNeg a f, g)