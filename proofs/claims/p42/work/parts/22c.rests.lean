/-! the rests of all payments of a customer -/
section KRS
variable {nc ni np nl t w : Nat} {n : Nat → Int32} {f f' : Nat → Nat → Int32} {g g' : Nat → Nat → Int64} {G M : Nat → Int32} {a : Int32}
/-- nothing more to give: the payment has no rest, or its rule gives nothing, or no invoice wants a part -/
def eDn (ni w : Nat) (f : Nat → Nat → Int32) (p : Nat) : Prop := f 20 p = 0 ∨ (¬ f 6 w = 0 ∧ ¬ f 6 w = 1) ∨ ∀ j, j < ni → zw ni f (nI w) j = 0
theorem zs_all0 {s : Nat → Int} {k : Nat} (h : ∀ j, j < k → s j = 0) : zs s k = 0 := by
  have h1 := zs_nn (t := s) k (fun j hj => by rw [h j hj]; exact Int.le_refl _)
  have h2 := zs_bd (t := s) (B := 0) k (fun j hj => by rw [h j hj]; exact Int.le_refl _)
  omega
theorem mRS_E (hG : JG nc ni np t f g) (hn : ni ≤ 24) (hb : (nl : Int) + 24 * zc f np ≤ 13376) (hK : kX ni np nl f G M) : ∀ k, k ≤ np → kX ni np (mRS ni nl w n f g k).2.1 (mRS ni nl w n f g k).2.2.2.1 G M ∧ (0 ≤ (mRS ni nl w n f g k).1.toInt ∧ (mRS ni nl w n f g k).1.toInt ≤ k * 10000000 ∨ np > 24) ∧ (∀ p, p < k → f 19 p = nI w → eDn ni w (mRS ni nl w n f g k).2.2.2.1 p) ∧ (mRS ni nl w n f g k).2.2.2.2 15 = g 15 := by
  intro k
  induction k with
  | zero => intro _; exact ⟨hK, Or.inl ⟨Int.le_refl _, Int.le_refl _⟩, fun p hp => absurd hp (Nat.not_lt_zero p), rfl⟩
  | succ k ih =>
    intro hk
    obtain ⟨k1, k2, k3, k4⟩ := ih (by omega)
    have hGk := (mRS_G (n := n) (w := w) hG hn hb k (by omega)).1
    have e6 : (mRS ni nl w n f g k).2.2.2.1 6 = f 6 := mRS_o (by decide) (by decide) k
    have e10 : (mRS ni nl w n f g k).2.2.2.1 10 = f 10 := mRS_o (by decide) (by decide) k
    have e19 : (mRS ni nl w n f g k).2.2.2.1 19 = f 19 := mRS_o (by decide) (by decide) k
    by_cases hs : f 19 k = nI w
    · rw [mRS_t hs]
      have hwp : (mRS ni nl w n f g k).2.2.2.1 19 k = nI w := by rw [e19]; exact hs
      obtain ⟨q1, sh, r1, r2, r3, r4, r5, r6, r7, r8, r9, -, r11, r12, -⟩ := mAR_E (n := (mRS ni nl w n f g k).2.2.1) (nl := (mRS ni nl w n f g k).2.1) (p := k) (w := w) hGk hn (by omega : k < np) hwp k1
      have hGr := (JAR (n := (mRS ni nl w n f g k).2.2.1) (nl := (mRS ni nl w n f g k).2.1) (p := k) (w := w) hGk hn (by omega : k < np)).1
      have h20 := hGk.2.2.2.1.2.2.1 k (by omega)
      have hzn := zs_nn (t := fun i => ((mRS ni nl w n f g k).2.2.2.1 22 (24 * k + i)).toInt) ni (fun i hi => hGk.2.2.2.1.2.2.2.1 k i (by omega) hi)
      have hsn := zs_nn (t := fun j => (sh j).toInt) ni (fun j hj => (r1 j hj).1)
      generalize hA : mAR ni (mRS ni nl w n f g k).2.1 k w (mRS ni nl w n f g k).2.2.1 (mRS ni nl w n f g k).2.2.2.1 (mRS ni nl w n f g k).2.2.2.2 = A at *
      generalize hB : mRS ni nl w n f g k = B at *
      have hz : ∀ j, j < ni → zw ni A.2.2.2.1 (nI w) j = zw ni B.2.2.2.1 (nI w) j - (sh j).toInt := zw_dec (s := fun j => (sh j).toInt) hGk hGr (r11 10 (by decide) (by decide)) r6 r1
      have hA6 : A.2.2.2.1 6 = f 6 := (r11 6 (by decide) (by decide)).trans e6
      refine ⟨q1, ?_, fun p hp hpw => ?_, r12.trans k4⟩
      · rcases k2 with k2 | k2
        · by_cases h24 : np > 24
          · exact Or.inr h24
          · refine Or.inl ?_
            show 0 ≤ (B.1 + A.1).toInt ∧ (B.1 + A.1).toInt ≤ ((k + 1 : Nat) : Int) * 10000000
            have hkb : (k : Int) * 10000000 ≤ 240000000 := by omega
            rw [i32_add (by omega) (by omega)]
            omega
        · exact Or.inr k2
      · show eDn ni w A.2.2.2.1 p
        unfold eDn
        rw [hA6]
        by_cases e : p = k
        · subst e
          by_cases hr : f 6 w = 0 ∨ f 6 w = 1
          · by_cases hlt : zs (fun j => (sh j).toInt) ni < (B.2.2.2.1 20 p).toInt
            · refine Or.inr (Or.inr fun j hj => ?_)
              rw [hz j hj, r8 (by rw [e6]; exact hr) hlt j hj]
              omega
            · refine Or.inl (i32_inj ?_)
              rw [r4, i32_z]
              omega
          · exact Or.inr (Or.inl ⟨fun z => hr (Or.inl z), fun z => hr (Or.inr z)⟩)
        · rcases k3 p (by omega) hpw with y | y | y
          · exact Or.inl (by rw [r5 p e]; exact y)
          · rw [e6] at y
            exact Or.inr (Or.inl y)
          · refine Or.inr (Or.inr fun j hj => ?_)
            have := r1 j hj
            rw [y j hj] at this
            rw [hz j hj, y j hj]
            omega
    · rw [mRS_f hs]
      generalize hB : mRS ni nl w n f g k = B at *
      refine ⟨k1, ?_, fun p hp hpw => ?_, k4⟩
      · rcases k2 with k2 | k2
        · refine Or.inl ?_
          show 0 ≤ (B.1 + 0).toInt ∧ (B.1 + 0).toInt ≤ ((k + 1 : Nat) : Int) * 10000000
          rw [show B.1 + 0 = B.1 by grind]
          omega
        · exact Or.inr k2
      · by_cases e : p = k
        · rw [e] at hpw; exact absurd hpw hs
        · exact k3 p (by omega) hpw
/-- where nothing more is to give, nothing is given -/
theorem mRS_0 (hG : JG nc ni np t f g) (hn : ni ≤ 24) (hb : (nl : Int) + 24 * zc f np ≤ 13376) (hK : kX ni np nl f G M) (hd : ∀ p, p < np → f 19 p = nI w → eDn ni w f p) : ∀ k, k ≤ np → (mRS ni nl w n f g k).1 = 0 ∧ ∀ j, j ≠ 25 → (mRS ni nl w n f g k).2.2.2.1 j = f j := by
  intro k
  induction k with
  | zero => intro _; exact ⟨rfl, fun _ _ => rfl⟩
  | succ k ih =>
    intro hk
    obtain ⟨k1, k2⟩ := ih (by omega)
    have hGk := (mRS_G (n := n) (w := w) hG hn hb k (by omega)).1
    have hKk := (mRS_E (n := n) (w := w) hG hn hb hK k (by omega)).1
    by_cases hs : f 19 k = nI w
    · rw [mRS_t hs]
      have hwp : (mRS ni nl w n f g k).2.2.2.1 19 k = nI w := by rw [k2 19 (by decide)]; exact hs
      obtain ⟨-, sh, r1, r2, r3, r4, r5, r6, r7, r8, r9, -, r11, r12, r13⟩ := mAR_E (n := (mRS ni nl w n f g k).2.2.1) (nl := (mRS ni nl w n f g k).2.1) (p := k) (w := w) hGk hn (by omega : k < np) hwp hKk
      generalize hA : mAR ni (mRS ni nl w n f g k).2.1 k w (mRS ni nl w n f g k).2.2.1 (mRS ni nl w n f g k).2.2.2.1 (mRS ni nl w n f g k).2.2.2.2 = A at *
      generalize hB : mRS ni nl w n f g k = B at *
      have hsh : ∀ j, j < ni → sh j = 0 := by
        rcases hd k (by omega) hs with y | y | y
        · intro j hj
          have h1 := zs_mem (t := fun j => (sh j).toInt) ni (fun j hj => (r1 j hj).1) hj
          have h1' : (sh j).toInt ≤ zs (fun j => (sh j).toInt) ni := h1
          have h2 := (r1 j hj).1
          rw [k2 20 (by decide), y, i32_z] at r2
          exact i32_inj (by rw [i32_z]; omega)
        · exact r9 (by rw [k2 6 (by decide)]; exact y.1) (by rw [k2 6 (by decide)]; exact y.2)
        · intro j hj
          have h1 := r1 j hj
          have e : zw ni B.2.2.2.1 (nI w) j = zw ni f (nI w) j := by unfold zw; rw [k2 10 (by decide), k2 13 (by decide), k2 14 (by decide)]
          rw [e, y j hj] at h1
          exact i32_inj (by rw [i32_z]; omega)
      obtain ⟨a1, a2⟩ := r13 hsh
      refine ⟨?_, fun j hj => (a2 j hj).trans (k2 j hj)⟩
      show B.1 + A.1 = 0
      rw [k1, a1]; rfl
    · rw [mRS_f hs]
      refine ⟨?_, k2⟩
      show (mRS ni nl w n f g k).1 + 0 = 0
      rw [k1]; rfl
end KRS
