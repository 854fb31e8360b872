section JDAYS
variable {n : Nat → Int32} {f : Nat → Nat → Int32} {g : Nat → Nat → Int64} {nc ni np nl q t : Nat}
theorem t_M_step : ∀ t, t < 1460 → t_M t ≤ t_M (t + 1) ∧ t_M (t + 1) ≤ t_M t + 3 ∧ t_M (t + 1) ≤ 730000 := by decide +kernel
theorem xbt_z {c : Int32} (ht : t < 1460) : 0 ≤ (xbt c t (t + 1)).toInt ∧ (xbt c t (t + 1)).toInt ≤ 3 := by
  obtain ⟨h1, h2, h3⟩ := t_M_step t ht
  unfold xbt
  split
  · rw [i32_sub (by rw [nI_toInt (by omega), nI_toInt (by omega)]; omega) (by rw [nI_toInt (by omega), nI_toInt (by omega)]; omega), nI_toInt (by omega), nI_toInt (by omega)]
    omega
  · rw [i32_sub (by rw [nI_toInt (by omega), nI_toInt (by omega)]; omega) (by rw [nI_toInt (by omega), nI_toInt (by omega)]; omega), nI_toInt (by omega), nI_toInt (by omega)]
    omega
theorem xacd_z (hG : JG nc ni np t f g) (ht : t < 1460) (hc : nc ≤ 6) {i : Nat} (hi : i < ni) (h16 : f 16 i = 0) : 0 ≤ (xacd t f i).toInt ∧ (xacd t f i).toInt ≤ 90000000000 := by
  obtain ⟨k, k1, k2⟩ := hG.1.1 i hi
  have ew : xow f i = k := xow_eq k2 (by omega)
  have h8 := hG.1.2.2 k k1
  have hd := xbt_z (c := f 7 k) ht
  have m1 := hG.2.2.2.1.1 i hi
  have m2 := hG.2.2.2.1.2.1 i hi
  have m4 := zs_nn (t := fun p => (f 22 (24 * p + i)).toInt) np (fun p hp => hG.2.2.2.1.2.2.2.1 p i hp hi)
  have a2 := hG.2.2.2.2.2 i hi h16
  have ec : (f 13 i - f 14 i).toInt = (f 13 i).toInt - (f 14 i).toInt := i32_sub (by omega) (by omega)
  unfold xacd
  rw [ew]
  generalize hx : (f 13 i - f 14 i).toInt = x at ec
  have x1 : 0 ≤ x := by omega
  have x2 : x ≤ 10000000 := by omega
  generalize hy : (f 8 k).toInt = y at h8
  generalize hz : (xbt (f 7 k) t (t + 1)).toInt = z at hd
  have p1 := Int.mul_nonneg x1 h8.1
  have p2 : x * y ≤ 10000000 * 3000 := Int.mul_le_mul x2 h8.2 h8.1 (by decide)
  have p3 := Int.mul_nonneg p1 hd.1
  have p4 : x * y * z ≤ 30000000000 * 3 := Int.mul_le_mul (by omega) hd.2 hd.1 (by decide)
  have e1 : ((f 13 i - f 14 i).toInt64 * (f 8 k).toInt64).toInt = x * y := by
    rw [i64_mul (by rw [Int32.toInt_toInt64, Int32.toInt_toInt64, hx, hy]; omega) (by rw [Int32.toInt_toInt64, Int32.toInt_toInt64, hx, hy]; omega), Int32.toInt_toInt64, Int32.toInt_toInt64, hx, hy]
  rw [i64_mul (by rw [e1, Int32.toInt_toInt64, hz]; omega) (by rw [e1, Int32.toInt_toInt64, hz]; omega), e1, Int32.toInt_toInt64, hz]
  omega
/-- the first k invoices of a day -/
theorem mDS_G (hG : JG nc ni np t f g) (ht : t < 1460) (hc : nc ≤ 6) : ∀ k, k ≤ ni → jW ni (mDS n t f g k).1 ∧ (∀ i, k ≤ i → (mDS n t f g k).1 17 i = f 17 i ∧ (mDS n t f g k).1 18 i = f 18 i) ∧ (∀ i, k ≤ i → (mDS n t f g k).2 15 i = g 15 i) ∧ ∀ i, i < k → 0 ≤ ((mDS n t f g k).2 15 i).toInt ∧ ((mDS n t f g k).2 15 i).toInt ≤ 90000000000 * ((t + 1 : Nat) : Int) := by
  intro k
  induction k with
  | zero => intro _; exact ⟨hG.2.2.1, fun _ _ => ⟨rfl, rfl⟩, fun _ _ => rfl, fun i hi => absurd hi (Nat.not_lt_zero i)⟩
  | succ k ih =>
    intro hk
    obtain ⟨h1, h2, h3, h4⟩ := ih (by omega)
    have e16 : (mDS n t f g k).1 16 = f 16 := mDS_o (by decide) (by decide) k
    refine ⟨⟨xW_step h1.1, fun i hi => ?_⟩, fun i hi => ⟨?_, ?_⟩, fun i hi => ?_, fun i hi => ?_⟩
    · show mDf n k (mDS n t f g k).1 16 i = bI (¬ mDf n k (mDS n t f g k).1 16 i = 0)
      rw [mDf_o (by decide) (by decide)]
      exact h1.2 i hi
    · show mDf n k (mDS n t f g k).1 17 i = _
      rw [mDf_ne (by omega)]; exact (h2 i (by omega)).1
    · show mDf n k (mDS n t f g k).1 18 i = _
      rw [mDf_ne (by omega)]; exact (h2 i (by omega)).2
    · show mDg n t k (mDS n t f g k).1 (mDS n t f g k).2 15 i = _
      unfold mDg
      split
      · show vp_updL ((mDS n t f g k).2 15) k _ i = _
        rw [xudL (by omega)]; exact h3 i (by omega)
      · exact h3 i (by omega)
    · show 0 ≤ (mDg n t k (mDS n t f g k).1 (mDS n t f g k).2 15 i).toInt ∧ (mDg n t k (mDS n t f g k).1 (mDS n t f g k).2 15 i).toInt ≤ _
      have hg := hG.2.2.2.2.1 k (by omega)
      unfold mDg
      split
      · rename_i hcd
        show 0 ≤ (vp_updL ((mDS n t f g k).2 15) k _ i).toInt ∧ (vp_updL ((mDS n t f g k).2 15) k _ i).toInt ≤ _
        by_cases e : i = k
        · rw [e, xudL_i, h3 k (Nat.le_refl k)]
          have ex : xacd t (mDS n t f g k).1 k = xacd t f k := by
            unfold xacd xow
            rw [mDS_o (j := 13) (by decide) (by decide), mDS_o (j := 14) (by decide) (by decide), mDS_o (j := 8) (by decide) (by decide), mDS_o (j := 10) (by decide) (by decide), mDS_o (j := 7) (by decide) (by decide)]
          have h16 : f 16 k = 0 := by rw [← e16]; exact hcd.2
          have hx := xacd_z hG ht hc (by omega : k < ni) h16
          rw [ex, i64_add (by omega) (by omega)]
          omega
        · rw [xudL e]; exact h4 i (by omega)
      · by_cases e : i = k
        · rw [e, h3 k (Nat.le_refl k)]
          omega
        · exact h4 i (by omega)
theorem mDay_G (hG : JG nc ni np t f g) (ht : t < 1460) (hc : nc ≤ 6) : JG nc ni np (t + 1) (mDS n t f g ni).1 (mDS n t f g ni).2 := by
  obtain ⟨h1, h2, h3, h4⟩ := mDS_G (n := n) hG ht hc ni (Nat.le_refl ni)
  have o : ∀ {j : Nat}, j ≠ 17 → j ≠ 18 → (mDS n t f g ni).1 j = f j := fun h1 h2 => mDS_o h1 h2 ni
  refine ⟨jO_c hG.1 (o (by decide) (by decide)) (o (by decide) (by decide)) (o (by decide) (by decide)), ⟨fun i hi => ?_, ?_, ?_, ?_⟩, h1, jM_c hG.2.2.2.1 (o (by decide) (by decide)) (o (by decide) (by decide)) (o (by decide) (by decide)) (o (by decide) (by decide)) (o (by decide) (by decide)) (o (by decide) (by decide)), h4, ?_⟩
  · rw [o (j := 14) (by decide) (by decide), (h2 i hi).1, (h2 i hi).2, h3 i hi]
    exact hG.2.1.1 i hi
  · rw [o (j := 9) (by decide) (by decide)]; exact hG.2.1.2.1
  · rw [o (j := 21) (by decide) (by decide)]; exact hG.2.1.2.2.1
  · rw [o (j := 22) (by decide) (by decide)]; exact hG.2.1.2.2.2
  · rw [o (j := 16) (by decide) (by decide), o (j := 11) (by decide) (by decide)]; exact hG.2.2.2.2.2
theorem mDays_G {n0 : Nat → Int32} (hG : JG nc ni np t f g) (hc : nc ≤ 6) : ∀ k, t + k ≤ 1460 → JG nc ni np (t + k) (mDays ni t (n0, f, g) k).2.1 (mDays ni t (n0, f, g) k).2.2 := by
  intro k
  induction k with
  | zero => intro _; exact hG
  | succ k ih => intro hk; exact mDay_G (t := t + k) (ih (by omega)) (show t + k < 1460 by omega) hc
theorem S_passDays {d : Int32} (h : JI n f g nc ni np nl q) (hq : q ≤ 512) : sP n f g nc ni np nl q nc ni np nl (o_passDays ni d n f g) := by
  obtain ⟨h1, ⟨t, ht, ht2, hG⟩, h7⟩ := id h
  unfold o_passDays
  by_cases c1 : 1 ≤ d ∧ d ≤ 400
  · rw [if_neg (fun z => z c1)]
    by_cases c2 : n 1 + d ≤ 1460
    · rw [if_neg (fun z => z c2)]
      have k1 := i32_le.mp c1.1
      have k2 := i32_le.mp c1.2
      have k3 := i32_le.mp c2
      have q1 : (1 : Int32).toInt = 1 := rfl
      have q2 : (400 : Int32).toInt = 400 := rfl
      have q3 : (1460 : Int32).toInt = 1460 := rfl
      have et : (n 1).toInt = t := by rw [ht, nI_toInt (by omega)]
      rw [i32_add (by omega) (by omega)] at k3
      have ec : (n 1).toNatClampNeg = t := by rw [ht, nI_clamp (by omega)]
      have ed : ((d.toNatClampNeg : Nat) : Int) = d.toInt := by
        show ((d.toInt.toNat : Nat) : Int) = d.toInt
        omega
      rw [ec]
      have hd : t + d.toNatClampNeg ≤ 1460 := by omega
      have hx : xI (mDays ni t (nup n 0 0, f, g) d.toNatClampNeg).1 nc ni np nl := mDays_I (xI_0 (w := 0) h1) _
      exact sP_ok (mDays_0 _) ⟨hx, ⟨t + d.toNatClampNeg, mDays_t (s := (nup n 0 0, f, g)) ht _, hd, mDays_G hG h1.2.2.2.2.1 _ hd⟩, jL_s (f := f) h7 (by rw [zc_c (f := f) (show (mDays ni t (nup n 0 0, f, g) d.toNatClampNeg).2.1 20 = f 20 from mDays_o (by decide) (by decide) _)]; exact Int.le_refl _) (by omega)⟩
    · rw [if_pos c2]; exact sP_no h (by decide)
  · rw [if_pos c1]; exact sP_no h (by decide)
end JDAYS
