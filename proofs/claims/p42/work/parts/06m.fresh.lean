section XFR
variable {h : xH} {nc ni np nl : Nat} {t : Int32} {f : Nat → Nat → Int32} {g : Nat → Nat → Int64} {jc : Nat → Nat → Int32} {jr : Nat → Int64}
theorem xCL_nr {b0 c b j : Nat} {e : va_E} (h : ∀ i, i < c → b ≠ b0 + i) (he : xCL b0 c j = some e) : xnr b e := by
  unfold xCL at he
  cases h1 : Nat.beq j 0 with
  | true => rw [h1] at he; cases he
  | false =>
    rw [h1, cond_false] at he
    cases h2 : Nat.beq j (aGen c) with
    | false => rw [h2] at he; cases he
    | true =>
      rw [h2, cond_true] at he
      cases he
      refine xnr_q fun q hq => ?_
      unfold xLr at hq
      by_cases hc : q < c
      · rw [if_pos hc] at hq
        exact h q hc (Option.some.inj hq).symm
      · rw [if_neg hc] at hq
        cases hq
theorem xCD_nr {c b j : Nat} {w : Nat → Int32} {e : va_E} (he : xCD c w j = some e) : xnr b e := by
  unfold xCD at he
  cases h2 : Nat.beq j (lGen c) with
  | false => rw [h2] at he; cases he
  | true =>
    rw [h2, cond_true] at he
    cases he
    exact xnr_i
theorem xbs {c : Bool} {x e : va_E} (he : (bif c then some x else none) = some e) : c = true ∧ x = e := by
  cases c with
  | true => exact ⟨rfl, Option.some.inj he⟩
  | false => cases he
/-- a number that no object of the class speaks of -/
theorem xC_fr {b : Nat} (hb : ∀ j e, h j = some e → xnr b e) (h0 : ∀ k, k ∈ [1, 2, 3, 7, 10, 11, 12, 13] → b ≠ k) (hl : b ≠ aAd 0 nc ∧ b ≠ aAd 10 ni ∧ b ≠ aAd 20 np) (hd : b ≠ 340 + lGen nl ∧ b ≠ 350 + lGen nl) (ho : ∀ i, i < ni → b ≠ 16 + xow f i) (hp : ∀ i, i < np → b ≠ 16 + xpow f i ∧ b ≠ 96 + i) (hr : ∀ i, (i < nc → b ≠ 16 + i) ∧ (i < ni → b ≠ 32 + i) ∧ (i < np → b ≠ 64 + i)) : ∀ j e, xC h nc ni np nl t f g jc jr j = some e → xnr b e := by
  intro j e he
  by_cases h1 : j ≤ 15
  · rw [xC_fx h1] at he
    have : j = 0 ∨ j = 1 ∨ j = 2 ∨ j = 3 ∨ j = 4 ∨ j = 5 ∨ j = 6 ∨ j = 7 ∨ j = 8 ∨ j = 9 ∨ j = 10 ∨ j = 11 ∨ j = 12 ∨ j = 13 ∨ j = 14 ∨ j = 15 := by omega
    rcases this with rfl | rfl | rfl | rfl | rfl | rfl | rfl | rfl | rfl | rfl | rfl | rfl | rfl | rfl | rfl | rfl
    · have he2 : some (.inr (6, xBo t) : va_E) = some e := he
      cases he2
      exact xnr_o (fun v hv => by
        simp only [xBo, List.mem_cons, List.not_mem_nil, or_false] at hv
        rcases hv with rfl | rfl | rfl | rfl | rfl | rfl
        · exact fun z => (h0 1 (by decide)) (Value.ref.inj z).symm
        · exact fun z => (h0 2 (by decide)) (Value.ref.inj z).symm
        · exact fun z => (h0 3 (by decide)) (Value.ref.inj z).symm
        · exact fun z => (h0 7 (by decide)) (Value.ref.inj z).symm
        · exact fun z => (h0 10 (by decide)) (Value.ref.inj z).symm
        · exact fun z => Value.noConfusion z)
    · have he2 : some (.inr (0, xLo 0 nc) : va_E) = some e := he
      cases he2
      exact xnr_o (fun v hv => by
        simp only [xLo, List.mem_cons, List.not_mem_nil, or_false] at hv
        rcases hv with rfl | rfl | rfl
        · exact fun z => Value.noConfusion z
        · exact fun z => hl.1 (Value.ref.inj z).symm
        · exact fun z => Value.noConfusion z)
    · have he2 : some (.inr (0, xLo 10 ni) : va_E) = some e := he
      cases he2
      exact xnr_o (fun v hv => by
        simp only [xLo, List.mem_cons, List.not_mem_nil, or_false] at hv
        rcases hv with rfl | rfl | rfl
        · exact fun z => Value.noConfusion z
        · exact fun z => hl.2.1 (Value.ref.inj z).symm
        · exact fun z => Value.noConfusion z)
    · have he2 : some (.inr (0, xLo 20 np) : va_E) = some e := he
      cases he2
      exact xnr_o (fun v hv => by
        simp only [xLo, List.mem_cons, List.not_mem_nil, or_false] at hv
        rcases hv with rfl | rfl | rfl
        · exact fun z => Value.noConfusion z
        · exact fun z => hl.2.2 (Value.ref.inj z).symm
        · exact fun z => Value.noConfusion z)
    · have he2 : (none : Option va_E) = some e := he
      cases he2
    · have he2 : (none : Option va_E) = some e := he
      cases he2
    · have he2 : (none : Option va_E) = some e := he
      cases he2
    · have he2 : some (.inr (3, xDo nl) : va_E) = some e := he
      cases he2
      exact xnr_o (fun v hv => by
        simp only [xDo, List.mem_cons, List.not_mem_nil, or_false] at hv
        rcases hv with rfl | rfl | rfl
        · exact fun z => Value.noConfusion z
        · exact fun z => hd.1 (Value.ref.inj z).symm
        · exact fun z => hd.2 (Value.ref.inj z).symm)
    · have he2 : (none : Option va_E) = some e := he
      cases he2
    · have he2 : (none : Option va_E) = some e := he
      cases he2
    · have he2 : some (.inr (5, xSo) : va_E) = some e := he
      cases he2
      exact xnr_o (fun v hv => by
        simp only [xSo, List.mem_cons, List.not_mem_nil, or_false] at hv
        rcases hv with rfl | rfl | rfl
        · exact fun z => (h0 11 (by decide)) (Value.ref.inj z).symm
        · exact fun z => (h0 12 (by decide)) (Value.ref.inj z).symm
        · exact fun z => (h0 13 (by decide)) (Value.ref.inj z).symm)
    · have he2 : some (.inl (0, 24, .inl (jc 3)) : va_E) = some e := he
      cases he2
      exact xnr_i
    · have he2 : some (.inl (0, 24, .inl (jc 4)) : va_E) = some e := he
      cases he2
      exact xnr_i
    · have he2 : some (.inl (1, 24, .inr (.inl jr)) : va_E) = some e := he
      cases he2
      exact xnr_l
    · have he2 : (none : Option va_E) = some e := he
      cases he2
    · have he2 : (none : Option va_E) = some e := he
      cases he2
  by_cases h2 : j ≤ 31
  · obtain ⟨i, rfl⟩ : ∃ i, j = 16 + i := ⟨j - 16, by omega⟩
    rw [xC_cx (by omega)] at he
    obtain ⟨-, rfl⟩ := xbs he
    exact xnr_o (fun v hv => by
      simp only [xCo, List.mem_cons, List.not_mem_nil, or_false] at hv
      rcases hv with rfl | rfl | rfl | rfl <;> exact fun z => Value.noConfusion z)
  by_cases h3 : j ≤ 63
  · obtain ⟨i, rfl⟩ : ∃ i, j = 32 + i := ⟨j - 32, by omega⟩
    rw [xC_ix (by omega)] at he
    obtain ⟨hi, rfl⟩ := xbs he
    exact xnr_o (fun v hv => by
      simp only [xIo, List.mem_cons, List.not_mem_nil, or_false] at hv
      rcases hv with rfl | rfl | rfl | rfl | rfl | rfl | rfl | rfl | rfl | rfl
      · exact fun z => ho i (Nat.le_of_ble_eq_true hi) (Value.ref.inj z).symm
      all_goals exact fun z => Value.noConfusion z)
  by_cases h4 : j ≤ 95
  · obtain ⟨i, rfl⟩ : ∃ i, j = 64 + i := ⟨j - 64, by omega⟩
    rw [xC_px (by omega)] at he
    obtain ⟨hi, rfl⟩ := xbs he
    have hi2 := Nat.le_of_ble_eq_true hi
    exact xnr_o (fun v hv => by
      simp only [xPo, List.mem_cons, List.not_mem_nil, or_false] at hv
      rcases hv with rfl | rfl | rfl | rfl | rfl
      · exact fun z => (hp i hi2).1 (Value.ref.inj z).symm
      · exact fun z => Value.noConfusion z
      · exact fun z => Value.noConfusion z
      · exact fun z => (hp i hi2).2 (Value.ref.inj z).symm
      · exact fun z => Value.noConfusion z)
  by_cases h5 : j ≤ 127
  · obtain ⟨i, rfl⟩ : ∃ i, j = 96 + i := ⟨j - 96, by omega⟩
    rw [xC_ax (by omega)] at he
    obtain ⟨hi, rfl⟩ := xbs he
    exact xnr_i
  by_cases h6 : 300 ≤ j ∧ j ≤ 399
  · obtain ⟨i, rfl⟩ : ∃ i, j = 300 + i := ⟨j - 300, by omega⟩
    rw [xC_rx (by omega)] at he
    unfold xCr at he
    by_cases g1 : i ≤ 9
    · rw [xleT g1, cond_true] at he
      exact xCL_nr (fun q hq => (hr q).1 hq) he
    rw [xleF (show 9 < i by omega), cond_false] at he
    by_cases g2 : i ≤ 19
    · rw [xleT g2, cond_true] at he
      exact xCL_nr (fun q hq => (hr q).2.1 hq) he
    rw [xleF (show 19 < i by omega), cond_false] at he
    by_cases g3 : i ≤ 29
    · rw [xleT g3, cond_true] at he
      exact xCL_nr (fun q hq => (hr q).2.2 hq) he
    rw [xleF (show 29 < i by omega), cond_false] at he
    by_cases g4 : i ≤ 39
    · rw [xleT g4, cond_true] at he
      cases he
    rw [xleF (show 39 < i by omega), cond_false] at he
    by_cases g5 : i ≤ 49
    · rw [xleT g5, cond_true] at he
      exact xCD_nr he
    rw [xleF (show 49 < i by omega), cond_false] at he
    by_cases g6 : i ≤ 59
    · rw [xleT g6, cond_true] at he
      exact xCD_nr he
    rw [xleF (show 59 < i by omega), cond_false] at he
    cases he
  · rw [xC_ox (by omega) (by omega)] at he
    exact hb j e he
end XFR
