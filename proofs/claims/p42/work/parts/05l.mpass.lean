theorem fup_fc {f : Nat → Nat → Int32} {a b c : Nat → Int32} : fup (fup (fup f 18 a) 17 b) 18 c = fup (fup (fup f 18 a) 18 c) 17 b := by
  funext k
  unfold fup
  cases h1 : Nat.beq k 18 with
  | true => cases h2 : Nat.beq k 17 with
    | true =>
      have e1 := Nat.eq_of_beq_eq_true h1
      have e2 := Nat.eq_of_beq_eq_true h2
      omega
    | false => rfl
  | false => cases Nat.beq k 17 <;> rfl
theorem xupd_i {f : Nat → Int32} {i : Nat} {v : Int32} : upd f i v i = v := if_pos rfl
theorem xupd_u {f : Nat → Int32} {i : Nat} {v w : Int32} : upd (upd f i v) i w = upd f i w := by
  funext j
  unfold upd
  by_cases h : j = i
  · rw [if_pos h, if_pos h]
  · rw [if_neg h, if_neg h, if_neg h]
theorem mD_fin {F : Nat → Nat → Int32} {i : Nat} {v : Int32} {W : Nat → Int32} : fup (fup (fup F 18 (upd (F 18) i v)) 17 W) 18 (upd (upd (F 18) i v) i 0) = fup (fup F 18 (upd (F 18) i 0)) 17 W := by rw [fup_fc, fup_ff, xupd_u]
/-- a day's interest -/
def xacd (t : Nat) (f : Nat → Nat → Int32) (i : Nat) : Int64 := (f 13 i - f 14 i).toInt64 * (f 8 (xow f i)).toInt64 * (xbt (f 7 (xow f i)) t (t + 1)).toInt64
def mDg (n : Nat → Int32) (t i : Nat) (f : Nat → Nat → Int32) (g : Nat → Nat → Int64) : Nat → Nat → Int64 := if f 12 i ≤ n 1 ∧ f 16 i = 0 then gup g 15 (vp_updL (g 15) i (g 15 i + xacd t f i)) else g
/-- a day waited -/
abbrev mDw (n : Nat → Int32) (f : Nat → Nat → Int32) (i : Nat) : Prop := f 12 i ≤ n 1 ∧ (f 17 i < 4 ∧ 0 < f 13 i ∧ f 14 i = 0) ∧ f 9 (xow f i) ≤ n 1
def mDf (n : Nat → Int32) (i : Nat) (f : Nat → Nat → Int32) : Nat → Nat → Int32 := if mDw n f i then (if f 18 i + 1 = xpat (f 17 i) then fup (fup f 18 (upd (f 18) i 0)) 17 (upd (f 17) i (f 17 i + 1)) else fup f 18 (upd (f 18) i (f 18 i + 1))) else f
def mDS (n : Nat → Int32) (t : Nat) (f : Nat → Nat → Int32) (g : Nat → Nat → Int64) : Nat → (Nat → Nat → Int32) × (Nat → Nat → Int64)
  | 0 => (f, g)
  | k + 1 => (mDf n k (mDS n t f g k).1, mDg n t k (mDS n t f g k).1 (mDS n t f g k).2)
theorem mDf_o {n : Nat → Int32} {i : Nat} {f : Nat → Nat → Int32} {j : Nat} (h1 : j ≠ 17) (h2 : j ≠ 18) : mDf n i f j = f j := by
  unfold mDf
  split
  · split
    · rw [fup_n h1, fup_n h2]
    · rw [fup_n h2]
  · rfl
theorem mDS_o {n : Nat → Int32} {t : Nat} {f : Nat → Nat → Int32} {g : Nat → Nat → Int64} {j : Nat} (h1 : j ≠ 17) (h2 : j ≠ 18) : ∀ k, (mDS n t f g k).1 j = f j := by
  intro k
  induction k with
  | zero => rfl
  | succ k ih =>
    show mDf n k (mDS n t f g k).1 j = f j
    rw [mDf_o h1 h2, ih]
/-- a day passes -/
def mDay (ni t : Nat) (s : mS) : mS := (nup s.1 1 (nI (t + 1)), (mDS s.1 t s.2.1 s.2.2 ni).1, (mDS s.1 t s.2.1 s.2.2 ni).2)
def mDays (ni t : Nat) (s : mS) : Nat → mS
  | 0 => s
  | k + 1 => mDay ni (t + k) (mDays ni t s k)
def o_passDays (ni : Nat) (d : Int32) (n : Nat → Int32) (f : Nat → Nat → Int32) (g : Nat → Nat → Int64) : Int32 × mS := if ¬ (1 ≤ d ∧ d ≤ 400) then oNo 1 n f g else if ¬ n 1 + d ≤ 1460 then oNo 2 n f g else (nI ((n 1).toNatClampNeg + d.toNatClampNeg), mDays ni (n 1).toNatClampNeg (nup n 0 0, f, g) d.toNatClampNeg)
theorem mDays_o {ni t : Nat} {s : mS} {j : Nat} (h1 : j ≠ 17) (h2 : j ≠ 18) : ∀ k, (mDays ni t s k).2.1 j = s.2.1 j := by
  intro k
  induction k with
  | zero => rfl
  | succ k ih =>
    show (mDS _ _ _ _ ni).1 j = _
    rw [mDS_o h1 h2, ih]
theorem xI_d {n : Nat → Int32} {nc ni np nl : Nat} {w : Int32} (h : xI n nc ni np nl) : xI (nup n 1 w) nc ni np nl := h
theorem mDays_I {ni t : Nat} {s : mS} {nc ni' np nl : Nat} (h : xI s.1 nc ni' np nl) : ∀ k, xI (mDays ni t s k).1 nc ni' np nl := by
  intro k
  induction k with
  | zero => exact h
  | succ k ih => exact xI_1 ih
theorem mDays_t {ni t : Nat} {s : mS} (h : s.1 1 = nI t) : ∀ k, (mDays ni t s k).1 1 = nI (t + k) := by
  intro k
  cases k with
  | zero => exact h
  | succ k => exact (nup_s : nup (mDays ni t s k).1 1 (nI (t + k + 1)) 1 = nI (t + k + 1))