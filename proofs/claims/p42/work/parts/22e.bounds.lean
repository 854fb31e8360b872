/-! bounds of the law's amounts: sums stay far below the int's end -/
section KBB
variable {nc ni np nl t p i : Nat} {n : Nat → Int32} {f f' : Nat → Nat → Int32} {g g' : Nat → Nat → Int64} {O G P M R : Nat → Int32} {a : Int32}
def kB (ni t : Nat) (f : Nat → Nat → Int32) (g : Nat → Nat → Int64) : Prop := ∀ i, i < ni → (f 11 i).toInt ≤ 1000000 ∧ (f 16 i = 0 → (f 11 i).toInt ≤ 10000) ∧ (g 15 i).toInt ≤ 90000000 * t
theorem kB_c (h : kB ni t f g) (e11 : f' 11 = f 11) (e16 : f' 16 = f 16) (e15 : g' 15 = g 15) : kB ni t f' g' := by
  unfold kB at h ⊢
  rw [e11, e16, e15]
  exact h
theorem xacd_b (hG : JG nc ni np t f g) (hB : kB ni t f g) (ht : t < 1460) (hc : nc ≤ 6) {i : Nat} (hi : i < ni) (h16 : f 16 i = 0) : (xacd t f i).toInt ≤ 90000000 := by
  obtain ⟨k, k1, k2⟩ := hG.1.1 i hi
  have ew : xow f i = k := xow_eq k2 (by omega)
  have h8 := hG.1.2.2 k k1
  have hd := xbt_z (c := f 7 k) ht
  have m1 := hG.2.2.2.1.1 i hi
  have m2 := hG.2.2.2.1.2.1 i hi
  have m4 := zs_nn (t := fun p => (f 22 (24 * p + i)).toInt) np (fun p hp => hG.2.2.2.1.2.2.2.1 p i hp hi)
  have a2 := (hB i hi).2.1 h16
  have ec : (f 13 i - f 14 i).toInt = (f 13 i).toInt - (f 14 i).toInt := i32_sub (by omega) (by omega)
  unfold xacd
  rw [ew]
  generalize hx : (f 13 i - f 14 i).toInt = x at ec
  have x1 : 0 ≤ x := by omega
  have x2 : x ≤ 10000 := by omega
  generalize hy : (f 8 k).toInt = y at h8
  generalize hz : (xbt (f 7 k) t (t + 1)).toInt = z at hd
  have p1 := Int.mul_nonneg x1 h8.1
  have p2 : x * y ≤ 10000 * 3000 := Int.mul_le_mul x2 h8.2 h8.1 (by decide)
  have p3 := Int.mul_nonneg p1 hd.1
  have p4 : x * y * z ≤ 30000000 * 3 := Int.mul_le_mul (by omega) hd.2 hd.1 (by decide)
  have e1 : ((f 13 i - f 14 i).toInt64 * (f 8 k).toInt64).toInt = x * y := by
    rw [i64_mul (by rw [Int32.toInt_toInt64, Int32.toInt_toInt64, hx, hy]; omega) (by rw [Int32.toInt_toInt64, Int32.toInt_toInt64, hx, hy]; omega), Int32.toInt_toInt64, Int32.toInt_toInt64, hx, hy]
  rw [i64_mul (by rw [e1, Int32.toInt_toInt64, hz]; omega) (by rw [e1, Int32.toInt_toInt64, hz]; omega), e1, Int32.toInt_toInt64, hz]
  omega
theorem mDS_B (hG : JG nc ni np t f g) (hB : kB ni t f g) (ht : t < 1460) (hc : nc ≤ 6) : ∀ k, k ≤ ni → ∀ i, i < k → ((mDS n t f g k).2 15 i).toInt ≤ 90000000 * ((t + 1 : Nat) : Int) := by
  intro k
  induction k with
  | zero => intro _ i hi; exact absurd hi (Nat.not_lt_zero i)
  | succ k ih =>
    intro hk i hi
    have h4 := ih (by omega)
    have h3 := (mDS_G (n := n) hG ht hc k (by omega)).2.2.1
    have e16 : (mDS n t f g k).1 16 = f 16 := mDS_o (by decide) (by decide) k
    show (mDg n t k (mDS n t f g k).1 (mDS n t f g k).2 15 i).toInt ≤ _
    have hg := hG.2.2.2.2.1 k (by omega)
    have hb := (hB k (by omega)).2.2
    unfold mDg
    split
    · rename_i hcd
      show (vp_updL ((mDS n t f g k).2 15) k _ i).toInt ≤ _
      by_cases e : i = k
      · rw [e, xudL_i, h3 k (Nat.le_refl k)]
        have ex : xacd t (mDS n t f g k).1 k = xacd t f k := by
          unfold xacd xow
          rw [mDS_o (j := 13) (by decide) (by decide), mDS_o (j := 14) (by decide) (by decide), mDS_o (j := 8) (by decide) (by decide), mDS_o (j := 10) (by decide) (by decide), mDS_o (j := 7) (by decide) (by decide)]
        have h16 : f 16 k = 0 := by rw [← e16]; exact hcd.2
        have hx := xacd_z hG ht hc (by omega : k < ni) h16
        have hx2 := xacd_b hG hB ht hc (by omega : k < ni) h16
        rw [ex, i64_add (by omega) (by omega)]
        omega
      · rw [xudL e]; exact h4 i (by omega)
    · by_cases e : i = k
      · rw [e, h3 k (Nat.le_refl k)]
        omega
      · exact h4 i (by omega)
theorem mDays_B {n0 : Nat → Int32} (hG : JG nc ni np t f g) (hB : kB ni t f g) (hc : nc ≤ 6) : ∀ k, t + k ≤ 1460 → kB ni (t + k) (mDays ni t (n0, f, g) k).2.1 (mDays ni t (n0, f, g) k).2.2 := by
  intro k
  induction k with
  | zero => intro _; exact hB
  | succ k ih =>
    intro hk i hi
    have h1 := ih (by omega)
    have hGk := mDays_G (n0 := n0) hG hc k (by omega)
    have h2 := mDS_B (n := (mDays ni t (n0, f, g) k).1) hGk h1 (by omega) hc ni (Nat.le_refl _) i hi
    refine ⟨?_, fun hz => ?_, h2⟩
    · show ((mDS (mDays ni t (n0, f, g) k).1 (t + k) (mDays ni t (n0, f, g) k).2.1 (mDays ni t (n0, f, g) k).2.2 ni).1 11 i).toInt ≤ _
      rw [mDS_o (j := 11) (by decide) (by decide)]
      exact (h1 i hi).1
    · show ((mDS (mDays ni t (n0, f, g) k).1 (t + k) (mDays ni t (n0, f, g) k).2.1 (mDays ni t (n0, f, g) k).2.2 ni).1 11 i).toInt ≤ _
      have hz' : (mDS (mDays ni t (n0, f, g) k).1 (t + k) (mDays ni t (n0, f, g) k).2.1 (mDays ni t (n0, f, g) k).2.2 ni).1 16 i = 0 := hz
      rw [mDS_o (j := 16) (by decide) (by decide)] at hz'
      rw [mDS_o (j := 11) (by decide) (by decide)]
      exact (h1 i hi).2.1 hz'
theorem xac_e (hA : jA ni t f g) (ht : t ≤ 1460) {i : Nat} (hi : i < ni) : (xac f g i).toInt = (g 15 i).toInt / (xun (f 7 (xow f i))).toInt := by
  have h1 := hA.1 i hi
  have hu := xun_z (f 7 (xow f i))
  have e : (g 15 i / xun (f 7 (xow f i))).toInt = (g 15 i).toInt / (xun (f 7 (xow f i))).toInt := i64_div h1.1 (by omega)
  unfold xac
  rw [i64_32 (by rw [e]; rcases hu with z | z <;> rw [z] <;> omega) (by rw [e]; rcases hu with z | z <;> rw [z] <;> omega), e]
theorem xac_b (hA : jA ni t f g) (hB : kB ni t f g) (ht : t ≤ 1460) {i : Nat} (hi : i < ni) : 0 ≤ (xac f g i).toInt ∧ (xac f g i).toInt ≤ 36500 := by
  have h1 := hA.1 i hi
  have h2 := (hB i hi).2.2
  have hu := xun_z (f 7 (xow f i))
  rw [xac_e hA ht hi]
  rcases hu with z | z <;> rw [z] <;> omega
theorem xacs_b (hA : jA ni t f g) (hB : kB ni t f g) (ht : t ≤ 1460) (hn : ni ≤ 24) (c : Int32) : (xsum (xacs f g c) ni).toInt ≤ 876000 := by
  rw [(xacs_z hA ht hn c).1]
  have := zs_bd (t := fun i => (xacs f g c i).toInt) (B := 36500) ni (fun i hi => by
    have h := xac_b hA hB ht hi
    show (xacs f g c i).toInt ≤ 36500
    unfold xacs
    by_cases e : f 10 i = c
    · rw [if_pos e]; exact h.2
    · rw [if_neg e]; decide)
  omega
/-- what the law sums of interest is what the class charges -/
theorem yacc_z (hA : jA ni t f g) (ht : t ≤ 1460) (hn : ni ≤ 24) {c : Int32} (hO : ∀ i, i < ni → O i = f 10 i) : xsumL (yacc f g O c) ni = (xsum (xacs f g c) ni).toInt64 := by
  refine i64_inj ?_
  have hb : ∀ i, i < ni → (yacc f g O c i).toInt = (xacs f g c i).toInt := fun i hi => by
    unfold yacc xacs
    rw [hO i hi]
    by_cases e : f 10 i = c
    · rw [if_pos e, if_pos e, Int32.toInt_toInt64]
    · rw [if_neg e, if_neg e]; rfl
  rw [(xsumL_z ni hn (fun i hi => by rw [hb i hi]; exact i32_rng _)).1, Int32.toInt_toInt64, (xacs_z hA ht hn c).1]
  exact zs_congr ni hb
/-- what the law sums of clear amounts is what the class weighs -/
theorem yclr_z (hG : JG nc ni np t f g) (hO : ∀ i, i < ni → O i = f 10 i) (hn : ni ≤ 24) {c : Int32} : xsumL (yclr f O c) ni = xall f c ni ∧ (xsumL (yclr f O c) ni).toInt = zs (zw ni f c) ni := by
  have e : xsumL (yclr f O c) ni = xall f c ni := by
    unfold xall
    have : ∀ k, k ≤ ni → xsumL (yclr f O c) k = xsumL (xclr f c) k := by
      intro k
      induction k with
      | zero => intro _; rfl
      | succ k ih =>
        intro hk
        have hm := hG.2.2.2.1.1 k (by omega)
        have hr := i32_rng (f 13 k)
        have hr2 := i32_rng (f 14 k)
        show xsumL (yclr f O c) k + yclr f O c k = xsumL (xclr f c) k + xclr f c k
        rw [ih (by omega)]
        congr 1
        unfold yclr xclr
        rw [hO k (by omega)]
        by_cases z : f 10 k = c
        · rw [if_pos z, if_pos z]
          refine i64_inj ?_
          rw [Int32.toInt_toInt64, i32_sub (by omega) (by omega), i64_sub (by rw [Int32.toInt_toInt64, Int32.toInt_toInt64]; omega) (by rw [Int32.toInt_toInt64, Int32.toInt_toInt64]; omega), Int32.toInt_toInt64, Int32.toInt_toInt64]
        · rw [if_neg z, if_neg z]
    exact this ni (Nat.le_refl _)
  exact ⟨e, by rw [e]; exact (xall_z hn).1⟩
theorem kB_new {b : Int32} (h : kB ni t f g) (e11 : f' 11 = upd (f 11) ni a) (e16 : f' 16 = upd (f 16) ni b) (ha : a.toInt ≤ 1000000) (hb : b = 0 → a.toInt ≤ 10000) (h15 : ∀ i, i < ni → (g' 15 i).toInt ≤ (g 15 i).toInt) (h15n : g' 15 ni = 0) : kB (ni + 1) t f' g' := by
  intro j hj
  rw [e11, e16]
  by_cases e : j = ni
  · subst e
    rw [xupd_i, xupd_i, h15n, i64_z]
    exact ⟨ha, hb, by omega⟩
  · rw [xud e, xud e]
    have h1 := h j (by omega)
    have h2 := h15 j (by omega)
    exact ⟨h1.1, h1.2.1, by omega⟩
end KBB
