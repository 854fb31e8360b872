theorem lC_up {c : Nat} (h : c ≤ 16000) : lCap c ≤ lCap (c + 1) ∧ lGen c ≤ lGen (c + 1) := by
  rcases Nat.lt_or_ge c (lCap c) with z | z
  · obtain ⟨h1, h2⟩ := lC_stay z
    omega
  · obtain ⟨h1, h2, h3, h4, h5⟩ := lC_grow h z
    omega
theorem lC_mono {a b : Nat} (hab : a ≤ b) (hb : b ≤ 16000) : lCap a ≤ lCap b ∧ lGen a ≤ lGen b := by
  induction b with
  | zero =>
    have : a = 0 := by omega
    subst this
    exact ⟨Nat.le_refl _, Nat.le_refl _⟩
  | succ b ih =>
    by_cases h : a = b + 1
    · subst h
      exact ⟨Nat.le_refl _, Nat.le_refl _⟩
    · have h1 := ih (by omega) (by omega)
      have h2 := lC_up (c := b) (by omega)
      omega
theorem lCel_add {a b c : Nat} (h1 : a ≤ b) (h2 : b ≤ c) (h3 : c ≤ 16000) : lCel a b + lCel b c = lCel a c := by
  have e1 := lC_mono h1 (by omega)
  have e2 := lC_mono h2 h3
  unfold lCel
  omega
theorem lSlt_add {a b c : Nat} (h1 : a ≤ b) (h2 : b ≤ c) (h3 : c ≤ 16000) : lSlt a b + lSlt b c = lSlt a c := by
  have e1 := lC_mono h1 (by omega)
  have e2 := lC_mono h2 h3
  unfold lSlt
  omega
theorem lCel_le {a b c : Nat} (h2 : b ≤ c) (h3 : c ≤ 16000) : lCel a b ≤ lCel a c := by
  have e2 := lC_mono h2 h3
  unfold lCel
  omega
theorem lSlt_le {a b c : Nat} (h2 : b ≤ c) (h3 : c ≤ 16000) : lSlt a b ≤ lSlt a c := by
  have e2 := lC_mono h2 h3
  unfold lSlt
  omega
theorem lCel_0 {a : Nat} : lCel a a = 0 := by
  unfold lCel
  omega
theorem lSlt_0 {a : Nat} : lSlt a a = 0 := by
  unfold lSlt
  omega
theorem aW_bud {E : xEnv} {k n k' n' : Nat} {hp : xH} {pc : Nat} {L : List (Nat × Value)} {S : List Value} (hk : k = k') (hn : n = n') (kk : aW E k' n' hp pc L S) : aW E k n hp pc L S := by
  subst hk
  subst hn
  exact kk
theorem mvN_le {nl : Nat} {a : Int32} : nl ≤ mvN nl a := by
  unfold mvN mWl
  split
  · split <;> omega
  · exact Nat.le_refl _
theorem mWl_ge {nl : Nat} {a : Int32} : nl ≤ mWl nl a := by
  unfold mWl
  split <;> omega
/-- the lines and rows behind the moves of the first k parts -/
def cMv (p : Nat) (sh : Nat → Int32) (nl : Nat) (f : Nat → Nat → Int32) : Nat → Nat × (Nat → Nat → Int32)
  | 0 => (nl, f)
  | k + 1 => (mvN (cMv p sh nl f k).1 (sh k), mvF (cMv p sh nl f k).1 p k (sh k) (cMv p sh nl f k).2)
theorem cMv_ge {p : Nat} {sh : Nat → Int32} {nl : Nat} {f : Nat → Nat → Int32} : ∀ k, nl ≤ (cMv p sh nl f k).1 := by
  intro k
  induction k with
  | zero => exact Nat.le_refl _
  | succ k ih => exact Nat.le_trans ih mvN_le
theorem cMv_mono {p : Nat} {sh : Nat → Int32} {nl : Nat} {f : Nat → Nat → Int32} {i : Nat} : ∀ k, i ≤ k → (cMv p sh nl f i).1 ≤ (cMv p sh nl f k).1 := by
  intro k
  induction k with
  | zero =>
    intro h
    rw [show i = 0 by omega]
    exact Nat.le_refl _
  | succ k ih =>
    intro h
    by_cases hk : i = k + 1
    · subst hk; exact Nat.le_refl _
    · exact Nat.le_trans (ih (by omega)) mvN_le
theorem mvF_o {nl p i : Nat} {a : Int32} {f : Nat → Nat → Int32} {j : Nat} (h : j ≠ 23 ∧ j ≠ 24 ∧ j ≠ 22 ∧ j ≠ 20 ∧ j ≠ 13 ∧ j ≠ 14 ∧ j ≠ 18 ∧ j ≠ 17) : mvF nl p i a f j = f j := by
  unfold mvF
  split
  · exact mPf_o h
  · rfl
theorem cMv_o {p : Nat} {sh : Nat → Int32} {nl : Nat} {f : Nat → Nat → Int32} {j : Nat} (h : j ≠ 23 ∧ j ≠ 24 ∧ j ≠ 22 ∧ j ≠ 20 ∧ j ≠ 13 ∧ j ≠ 14 ∧ j ≠ 18 ∧ j ≠ 17) : ∀ k, (cMv p sh nl f k).2 j = f j := by
  intro k
  induction k with
  | zero => rfl
  | succ k ih =>
    show mvF _ _ _ _ _ j = f j
    rw [mvF_o h, ih]
/-- the moves are the reference's -/
theorem cMv_mAS {p : Nat} {sh : Nat → Int32} {nl : Nat} {n : Nat → Int32} {f : Nat → Nat → Int32} : ∀ k, (cMv p sh nl f k).1 = (mAS p sh nl n f k).1 ∧ (cMv p sh nl f k).2 = (mAS p sh nl n f k).2.2 := by
  intro k
  induction k with
  | zero => exact ⟨rfl, rfl⟩
  | succ k ih =>
    by_cases h : 0 < sh k
    · rw [mAS_t h]
      show mvN (cMv p sh nl f k).1 (sh k) = _ ∧ mvF (cMv p sh nl f k).1 p k (sh k) (cMv p sh nl f k).2 = _
      unfold mvN mvF
      rw [if_pos h, if_pos h, ih.1, ih.2]
      exact ⟨rfl, rfl⟩
    · rw [mAS_f h]
      show mvN (cMv p sh nl f k).1 (sh k) = _ ∧ mvF (cMv p sh nl f k).1 p k (sh k) (cMv p sh nl f k).2 = _
      unfold mvN mvF
      rw [if_neg h, if_neg h]
      exact ih
