/-- a day in months of 30 days -/
def t_len (m y : Nat) : Nat := if m = 2 then (if y = 2004 then 29 else 28) else if m = 4 ∨ m = 6 ∨ m = 9 ∨ m = 11 then 30 else 31
def t_y : Nat → Nat → Nat → Nat × Nat
  | 0, y, l => (y, l)
  | k + 1, y, l => if 365 ≤ l ∧ y < 2004 then t_y k (y + 1) (l - 365) else (y, l)
def t_m (y : Nat) : Nat → Nat → Nat → Nat × Nat
  | 0, m, l => (m, l)
  | k + 1, m, l => if t_len m y ≤ l then t_m y k (m + 1) (l - t_len m y) else (m, l)
def t_M (d : Nat) : Nat := 360 * (t_y 3 2001 d).1 + 30 * (t_m (t_y 3 2001 d).1 14 1 (t_y 3 2001 d).2).1 + (if (t_m (t_y 3 2001 d).1 14 1 (t_y 3 2001 d).2).2 + 1 = 31 then 30 else (t_m (t_y 3 2001 d).1 14 1 (t_y 3 2001 d).2).2 + 1)
theorem t_y_ok : ∀ d, d < 1461 → (t_y 3 2001 d).1 ≤ 2004 ∧ (t_y 3 2001 d).2 < 392 := by decide +kernel
theorem t_len_ge (m y : Nat) : 28 ≤ t_len m y ∧ t_len m y ≤ 31 := by
  unfold t_len
  split
  · split <;> omega
  · split <;> omega
theorem t_len_eq {m y : Nat} (hm : m < 2 ^ 31) (hy : y < 2 ^ 31) : (if nI m = 2 then (if nI y = 2004 then (29 : Int32) else 28) else if nI m = 4 ∨ nI m = 6 ∨ nI m = 9 ∨ nI m = 11 then 30 else 31) = nI (t_len m y) := by
  have e : ∀ {a : Nat}, a < 2 ^ 31 → ∀ b : Nat, b < 2 ^ 31 → (nI a = nI b ↔ a = b) := fun ha b hb => nI_eq ha hb
  have h2 := e hm 2 (by decide)
  have h4 := e hm 4 (by decide)
  have h6 := e hm 6 (by decide)
  have h9 := e hm 9 (by decide)
  have h11 := e hm 11 (by decide)
  have hy4 := e hy 2004 (by decide)
  unfold t_len
  by_cases c2 : m = 2
  · rw [if_pos c2, if_pos (show nI m = 2 from h2.mpr c2)]
    by_cases cy : y = 2004
    · rw [if_pos cy, if_pos (show nI y = 2004 from hy4.mpr cy)]; rfl
    · rw [if_neg cy, if_neg (show ¬ nI y = 2004 from fun z => cy (hy4.mp z))]; rfl
  · rw [if_neg c2, if_neg (show ¬ nI m = 2 from fun z => c2 (h2.mp z))]
    by_cases c4 : m = 4 ∨ m = 6 ∨ m = 9 ∨ m = 11
    · rw [if_pos c4, if_pos (show nI m = 4 ∨ nI m = 6 ∨ nI m = 9 ∨ nI m = 11 from c4.imp h4.mpr (Or.imp h6.mpr (Or.imp h9.mpr h11.mpr)))]; rfl
    · rw [if_neg c4, if_neg (show ¬ (nI m = 4 ∨ nI m = 6 ∨ nI m = 9 ∨ nI m = 11) from fun z => c4 (z.imp h4.mp (Or.imp h6.mp (Or.imp h9.mp h11.mp))))]; rfl
theorem t_365 {l : Nat} (h : 365 ≤ l) : nI l + Int32.ofInt (-365) = nI (l - 365) := by
  rw [← pk_sub h, Int32.sub_eq_add_neg]
  rfl
def xbt (conv : Int32) (a b : Nat) : Int32 := if conv = 2 then nI (t_M b) - nI (t_M a) else nI b - nI a
theorem t_fin (y m k : Nat) : 360 * nI y + 30 * nI m + nI k = nI (360 * y + 30 * m + k) := by
  rw [← nI_add (360 * y + 30 * m) k, ← nI_add (360 * y) (30 * m), ← pk_mul, ← pk_mul]
  rfl
theorem t_m_snd (y : Nat) : ∀ (k m l : Nat), (t_m y k m l).2 ≤ l := by
  intro k
  induction k with
  | zero => intro m l; exact Nat.le_refl _
  | succ k ih =>
    intro m l
    show (if t_len m y ≤ l then t_m y k (m + 1) (l - t_len m y) else (m, l)).2 ≤ l
    split
    · exact Nat.le_trans (ih _ _) (Nat.sub_le _ _)
    · exact Nat.le_refl _
theorem t_m_le {d y l1 m l : Nat} (e1 : (y, l1) = t_y 3 2001 d) (e2 : (m, l) = t_m y 14 1 l1) (hd : d ≤ 1460) : l ≤ 1460 := by
  have h1 := t_y_ok d (by omega)
  rw [← e1] at h1
  have h2 := t_m_snd y 14 1 l1
  rw [← e2] at h2
  have h3 : l ≤ l1 := h2
  have h4 : l1 < 392 := h1.2
  omega