theorem fup_ff {f : Nat → Nat → Int32} {j : Nat} {a b : Nat → Int32} : fup (fup f j a) j b = fup f j b := by
  funext k
  unfold fup
  cases Nat.beq k j <;> rfl
theorem gup_gg {f : Nat → Nat → Int64} {j : Nat} {a b : Nat → Int64} : gup (gup f j a) j b = gup f j b := by
  funext k
  unfold gup
  cases Nat.beq k j <;> rfl
theorem lcmp_ge {x y : Int64} : 0 ≤ lg_cmp x y ↔ ¬ x < y := by rw [← lcmp_lt, Int32.not_lt]
theorem lcmp_le {x y : Int64} : lg_cmp x y ≤ 0 ↔ ¬ y < x := by rw [← lcmp_gt, Int32.not_lt]
def xpre (t o : Nat → Int32) (i : Nat) : Nat → Int32 := fun j => if j < i then t j else o j
def xpreL (t o : Nat → Int64) (i : Nat) : Nat → Int64 := fun j => if j < i then t j else o j
theorem xpre_0 {t o : Nat → Int32} : xpre t o 0 = o := by
  funext j
  unfold xpre
  rw [if_neg (Nat.not_lt_zero j)]
theorem xpreL_0 {t o : Nat → Int64} : xpreL t o 0 = o := by
  funext j
  unfold xpreL
  rw [if_neg (Nat.not_lt_zero j)]
theorem xpre_s {t o : Nat → Int32} {i : Nat} : upd (xpre t o i) i (t i) = xpre t o (i + 1) := by
  funext j
  unfold xpre upd
  by_cases h : j = i
  · subst h
    rw [if_pos rfl, if_pos (Nat.lt_succ_self j)]
  · rw [if_neg h]
    show (if j < i then t j else o j) = _
    by_cases h2 : j < i
    · rw [if_pos h2, if_pos (Nat.lt_succ_of_lt h2)]
    · rw [if_neg h2, if_neg (by omega)]
theorem xpreL_s {t o : Nat → Int64} {i : Nat} : vp_updL (xpreL t o i) i (t i) = xpreL t o (i + 1) := by
  funext j
  unfold xpreL vp_updL
  by_cases h : j = i
  · subst h
    rw [if_pos rfl, if_pos (Nat.lt_succ_self j)]
  · rw [if_neg h]
    show (if j < i then t j else o j) = _
    by_cases h2 : j < i
    · rw [if_pos h2, if_pos (Nat.lt_succ_of_lt h2)]
    · rw [if_neg h2, if_neg (by omega)]
theorem xpre_lt {t o : Nat → Int32} {i j : Nat} (h : j < i) : xpre t o i j = t j := if_pos h
/-- the oldest with a clear amount -/
def xold (f : Nat → Nat → Int32) (c : Int32) : Nat → Int32
  | 0 => -1
  | k + 1 => if f 10 k = c ∧ 0 < f 13 k - f 14 k ∧ (xold f c k = -1 ∨ f 12 k < f 12 (xold f c k).toNatClampNeg) then nI k else xold f c k
theorem xold_s {f : Nat → Nat → Int32} {c : Int32} {k : Nat} : xold f c (k + 1) = if f 10 k = c ∧ 0 < f 13 k - f 14 k ∧ (xold f c k = -1 ∨ f 12 k < f 12 (xold f c k).toNatClampNeg) then nI k else xold f c k := rfl
theorem xold_rng (f : Nat → Nat → Int32) (c : Int32) : ∀ i, xold f c i = -1 ∨ ∃ j, j < i ∧ xold f c i = nI j := by
  intro i
  induction i with
  | zero => exact Or.inl rfl
  | succ i ih =>
    rw [xold_s]
    split
    · exact Or.inr ⟨i, Nat.lt_succ_self i, rfl⟩
    · rcases ih with h | ⟨j, h1, h2⟩
      · exact Or.inl h
      · exact Or.inr ⟨j, Nat.lt_succ_of_lt h1, h2⟩
/-- what older invoices get first -/
def xahd (f : Nat → Nat → Int32) (c : Int32) (w : Nat) : Nat → Int64 := fun j => if f 10 j = c ∧ (f 12 j < f 12 w ∨ f 12 j = f 12 w ∧ j < w) then (f 13 j - f 14 j).toInt64 else 0
def xfrom (f : Nat → Nat → Int32) (c : Int32) (w : Nat) (a : Int32) (ni : Nat) : Int32 := if a.toInt64 - xsumL (xahd f c w) ni ≤ 0 then 0 else if a.toInt64 - xsumL (xahd f c w) ni < (f 13 w - f 14 w).toInt64 then (a.toInt64 - xsumL (xahd f c w) ni).toInt32 else (f 13 w - f 14 w).toInt64.toInt32