section JCALLS2
variable {n : Nat → Int32} {f : Nat → Nat → Int32} {g : Nat → Nat → Int64} {nc ni np nl q t : Nat}
theorem xun_z (m : Int32) : (xun m).toInt = 3650000 ∨ (xun m).toInt = 3600000 := by
  unfold xun
  by_cases h : m = 0
  · rw [if_pos h]; exact Or.inl rfl
  · rw [if_neg h]; exact Or.inr rfl
theorem xac_z (hA : jA ni t f g) (ht : t ≤ 1460) {i : Nat} (hi : i < ni) : 0 ≤ (xac f g i).toInt ∧ (xac f g i).toInt ≤ 36500000 ∧ 0 ≤ (xac f g i).toInt * (xun (f 7 (xow f i))).toInt ∧ (xac f g i).toInt * (xun (f 7 (xow f i))).toInt ≤ (g 15 i).toInt := by
  have h1 := hA.1 i hi
  have hu := xun_z (f 7 (xow f i))
  have e : (g 15 i / xun (f 7 (xow f i))).toInt = (g 15 i).toInt / (xun (f 7 (xow f i))).toInt := i64_div h1.1 (by omega)
  have e2 : (xac f g i).toInt = (g 15 i).toInt / (xun (f 7 (xow f i))).toInt := by
    unfold xac
    rw [i64_32 (by rw [e]; rcases hu with z | z <;> rw [z] <;> omega) (by rw [e]; rcases hu with z | z <;> rw [z] <;> omega), e]
  rw [e2]
  rcases hu with z | z <;> rw [z] <;> omega
theorem xacs_z (hA : jA ni t f g) (ht : t ≤ 1460) (hn : ni ≤ 24) (c : Int32) : (xsum (xacs f g c) ni).toInt = zs (fun i => (xacs f g c i).toInt) ni ∧ 0 ≤ (xsum (xacs f g c) ni).toInt := by
  have hb : ∀ i, i < ni → 0 ≤ (xacs f g c i).toInt ∧ (xacs f g c i).toInt ≤ 36500000 := fun i hi => by
    have h1 := xac_z hA ht hi
    unfold xacs
    by_cases h : f 10 i = c
    · rw [if_pos h]; omega
    · rw [if_neg h, i32_z]; omega
  have h1 := zs_bd (t := fun i => (xacs f g c i).toInt) (B := 36500000) ni (fun i hi => (hb i hi).2)
  have h2 := zs_nn (t := fun i => (xacs f g c i).toInt) ni (fun i hi => (hb i hi).1)
  have h3 := xsum_z (t := xacs f g c) ni (fun i hi => (hb i hi).1) (by omega)
  exact ⟨h3, by omega⟩
theorem JI_acc (h : JI n f g nc ni np nl q) (c : Int32) : 0 ≤ xsum (xacs f g c) ni := by
  obtain ⟨h1, ⟨t, ht, ht2, hG⟩, h7⟩ := h
  exact i32_le.mpr (xacs_z hG.2.2.2.2 ht2 h1.2.2.2.2.2.1 c).2
/-- other accrued sums -/
theorem JG_g {g' : Nat → Nat → Int64} (hG : JG nc ni np t f g) (h1 : ∀ i, i < ni → 0 ≤ (g' 15 i).toInt ∧ (g' 15 i).toInt ≤ (g 15 i).toInt) (h2 : ∀ i, ni ≤ i → g' 15 i = g 15 i) : JG nc ni np t f g' := by
  obtain ⟨o, ⟨z1, z2⟩, w, m, a1, a2⟩ := hG
  refine ⟨o, ⟨fun i hi => by rw [h2 i hi]; exact z1 i hi, z2⟩, w, m, fun i hi => ?_, a2⟩
  have := h1 i hi
  have := a1 i hi
  omega
theorem xdrp_z (hA : jA ni t f g) (ht : t ≤ 1460) {c : Int32} {i : Nat} (hi : i < ni) : 0 ≤ (xdrp f g c i).toInt ∧ (xdrp f g c i).toInt ≤ (g 15 i).toInt := by
  have h1 := xac_z hA ht hi
  have h2 := hA.1 i hi
  have h3 := i64_rng (g 15 i)
  unfold xdrp
  by_cases h : f 10 i = c
  · have e : xow f i = c.toNatClampNeg := congrArg Int32.toNatClampNeg h
    rw [e] at h1
    have e1 : ((xac f g i).toInt64 * xun (f 7 c.toNatClampNeg)).toInt = (xac f g i).toInt * (xun (f 7 c.toNatClampNeg)).toInt := by
      rw [i64_mul (by rw [Int32.toInt_toInt64]; omega) (by rw [Int32.toInt_toInt64]; omega), Int32.toInt_toInt64]
    rw [if_pos h, i64_sub (by rw [e1]; omega) (by rw [e1]; omega), e1]
    omega
  · rw [if_neg h, Int64.sub_zero]
    omega
theorem S_chargeInterest {w t : Int32} (h : JI n f g nc ni np nl q) (hq : q ≤ 512) : sP n f g nc ni np nl q nc (if (xsum (xacs f g w) ni) = 0 then ni else ni + 1) np (mWl nl (xsum (xacs f g w) ni)) (o_charge nc ni nl w t n f g) := by
  have hnl := JI_nl h hq
  obtain ⟨h1, ⟨t0, ht, ht2, hG⟩, h7⟩ := id h
  obtain ⟨x2, x3, x4, x5, b1, b2, b3, b4⟩ := id h1
  generalize hX : (if (xsum (xacs f g w) ni) = 0 then ni else ni + 1) = X
  unfold o_charge
  by_cases c1 : xin w nc
  · rw [if_neg (fun z => z c1)]
    by_cases c2 : xokD t
    · rw [if_neg (fun z => z c2)]
      by_cases c3 : 0 < (xsum (xacs f g w) ni) ∧ ni = 24
      · rw [if_pos c3]; exact sP_no h (by decide)
      · rw [if_neg c3]
        have hs := (xacs_z hG.2.2.2.2 ht2 b2 w).2
        by_cases c4 : (xsum (xacs f g w) ni) = 0
        · rw [if_pos c4] at hX
          subst hX
          rw [if_pos c4, c4]
          exact sP_ok rfl ⟨xI_0 h1, ⟨t0, ht, ht2, hG⟩, jL_s (f := f) h7 (Int.le_refl _) (by have := (mWl_1 (nl := nl) (a := 0)).1; omega)⟩
        · rw [if_neg c4] at hX
          subst hX
          rw [if_neg c4]
          have hpos : 0 < (xsum (xacs f g w) ni) := i32_lt.mpr (by
            rw [i32_z]
            have : (xsum (xacs f g w) ni).toInt ≠ 0 := fun z => c4 (i32_inj z)
            omega)
          have c5 : ni < 24 := by
            have : ni ≠ 24 := fun z => c3 ⟨hpos, z⟩
            omega
          have g0 : JG nc ni np t0 f (gup g 15 (xpreL (xdrp f g w) (g 15) ni)) := JG_g hG (fun i hi => by
            show 0 ≤ (xpreL (xdrp f g w) (g 15) ni i).toInt ∧ (xpreL (xdrp f g w) (g 15) ni i).toInt ≤ _
            rw [show xpreL (xdrp f g w) (g 15) ni i = xdrp f g w i from if_pos hi]
            exact xdrp_z hG.2.2.2.2 ht2 hi) (fun i hi => xpreL_ge hi)
          have g1 := JG_new (f' := (fup (fup (fup (fup (fup f 10 (upd (f 10) ni w)) 11 (upd (f 11) ni (xsum (xacs f g w) ni))) 12 (upd (f 12) ni (n 1 + t))) 13 (upd (f 13) ni (xsum (xacs f g w) ni))) 16 (upd (f 16) ni 1))) (a := (xsum (xacs f g w) ni)) (b := 1) g0 c5 (xin_j c1 (by omega)) rfl rfl (congrArg (upd (f 10) ni) (xin_e c1 (by omega))) rfl rfl rfl rfl rfl rfl rfl rfl rfl rfl hs (by decide) (fun z => absurd z (by decide))
          have hx := xI_W (a := (xsum (xacs f g w) ni)) (xI_0 (w := 0) h1) (by omega : nl < 16000)
          obtain ⟨q2, q3, q4, q5, -⟩ := hx
          refine sP_ok (mEn_0 (ni := ni)) ⟨⟨q2, (show nup (mWn nl (xsum (xacs f g w) ni) (nup n 0 0)) 3 (nI (ni + 1)) 3 = nI (ni + 1) from nup_s), q4, q5, b1, by omega, b3, by have := (mWl_1 (nl := nl) (a := (xsum (xacs f g w) ni))).1; omega⟩, ⟨t0, (mEn_1 (ni := ni)).trans ht, ht2, JG_w g1⟩, jL_s (f := f) h7 (by rw [zc_c (f := f) (show mEf ni nl w (xsum (xacs f g w) ni) t 1 n f 20 = f 20 from mWf_o (by decide) (by decide))]; exact Int.le_refl _) (by have := (mWl_1 (nl := nl) (a := (xsum (xacs f g w) ni))).1; omega)⟩
    · rw [if_pos c2]; exact sP_no h (by decide)
  · rw [if_pos c1]; exact sP_no h (by decide)
/-- disputed amounts grow within the clear ones -/
theorem JG_14 {f' : Nat → Nat → Int32} (hG : JG nc ni np t f g) (e8 : f' 8 = f 8) (e9 : f' 9 = f 9) (e10 : f' 10 = f 10) (e11 : f' 11 = f 11) (e13 : f' 13 = f 13) (e16 : f' 16 = f 16) (e17 : f' 17 = f 17) (e18 : f' 18 = f 18) (e19 : f' 19 = f 19) (e20 : f' 20 = f 20) (e21 : f' 21 = f 21) (e22 : f' 22 = f 22) (h1 : ∀ i, i < ni → 0 ≤ (f' 14 i).toInt ∧ (f' 14 i).toInt ≤ (f 13 i).toInt) (h2 : ∀ i, ni ≤ i → f' 14 i = f 14 i) : JG nc ni np t f' g := by
  obtain ⟨o, ⟨z1, z2, z3, z4⟩, w, ⟨m1, m2, m3, m4, m5⟩, a⟩ := hG
  refine ⟨jO_c o e10 e19 e8, ⟨fun i hi => by rw [h2 i hi, e17, e18]; exact z1 i hi, by rw [e9]; exact z2, by rw [e21]; exact z3, by rw [e22]; exact z4⟩, jW_c w e16 e17 e18, ⟨fun i hi => by rw [e13]; exact h1 i hi, by rw [e13, e22, e11]; exact m2, by rw [e20, e22]; exact m3, by rw [e22]; exact m4, by rw [e21, e20, e22]; exact m5⟩, jA_c a e16 e11 rfl⟩
theorem JI_all (h : JI n f g nc ni np nl q) (c : Int32) : ∀ i, i < ni → ¬ xclr f c i = 0 → ¬ xall f c ni = 0 := fun i hi hz hT => by
  obtain ⟨h1, ⟨t, ht, ht2, hG⟩, h7⟩ := h
  have hw := JG_W hG
  have e1 := (xall_z (f := f) (c := c) h1.2.2.2.2.2.1).1
  rw [hT, i64_z] at e1
  have e2 := zs_mem (t := zw ni f c) ni (fun i _ => hw c i) hi
  have e3 := hw c i
  exact hz (i64_inj (by rw [zw_xclr hi, i64_z]; omega))
theorem S_disputeAll {w a : Int32} (h : JI n f g nc ni np nl q) (hq : q ≤ 512) : sP n f g nc ni np nl q nc ni np nl (o_disputeAll nc ni w a n f g) := by
  obtain ⟨h1, ⟨t, ht, ht2, hG⟩, h7⟩ := id h
  obtain ⟨x2, x3, x4, x5, b1, b2, b3, b4⟩ := id h1
  unfold o_disputeAll
  by_cases c1 : xin w nc
  · rw [if_neg (fun z => z c1)]
    by_cases c2 : a < 1
    · rw [if_pos c2]; exact sP_no h (by decide)
    · rw [if_neg c2]
      by_cases c3 : xall f w ni < a.toInt64
      · rw [if_pos c3]; exact sP_no h (by decide)
      · rw [if_neg c3]
        have k1 := mt i32_lt.mpr c2
        have k0 : (1 : Int32).toInt = 1 := rfl
        have k2 := mt i64_lt.mpr c3
        rw [Int32.toInt_toInt64, (xall_z b2).1] at k2
        obtain ⟨z1, z2⟩ := cspl_z (f := f) (jc := fun _ _ => 0) (g := g) (jr := fun _ => 0) (c := w) (a := a) b2 (JG_W hG w) (by omega) (by omega)
        refine sP_ok rfl ⟨xI_0 h1, ⟨t, ht, ht2, JG_c (JG_14 (f' := fup f 14 (xpre (xdis (mDF ni w a f g)) (f 14) ni)) hG rfl rfl rfl rfl rfl rfl rfl rfl rfl rfl rfl rfl (fun i hi => ?_) (fun i hi => xpre_ge hi)) rfl rfl rfl rfl rfl rfl rfl rfl rfl rfl rfl rfl rfl rfl⟩, jL_s (f := f) h7 (Int.le_refl _) (by omega)⟩
        show 0 ≤ (xpre (xdis (mDF ni w a f g)) (f 14) ni i).toInt ∧ (xpre (xdis (mDF ni w a f g)) (f 14) ni i).toInt ≤ _
        rw [xpre_lt hi]
        have y1 := z1 i hi
        have y2 := hG.2.2.2.1.1 i hi
        have y3 := i32_rng (f 13 i)
        have y4 : zw ni f w i ≤ (f 13 i).toInt - (f 14 i).toInt := by
          unfold zw
          split
          · rw [i32_sub (by omega) (by omega)]; exact Int.le_refl _
          · omega
        have y5 : (xdis (mDF ni w a f g) i).toInt = (f 14 i).toInt + ((xspl ni w a f g).1 i).toInt := by
          show (f 14 i + (xspl ni w a f g).1 i).toInt = _
          rw [← y1.1]
          exact i32_add (by omega) (by omega)
        rw [y5, ← y1.1]
        omega
  · rw [if_pos c1]; exact sP_no h (by decide)
/-- taking back the first k invoices' cents -/
theorem mVS_G {p : Nat} {m : Nat → Int32} (hG : JG nc ni np t f g) (hn : ni ≤ 24) (hp : p < np) (h21 : f 21 p = 0) : ∀ k, k ≤ ni → JG nc ni np t (mVS p nl m f k).2.2.2 g ∧ (∀ j, j < k → (mVS p nl m f k).2.2.2 22 (24 * p + j) = 0) ∧ (∀ x, x ≠ p → (mVS p nl m f k).2.2.2 20 x = f 20 x) ∧ (mVS p nl m f k).2.1 ≤ nl + k := by
  intro k
  induction k with
  | zero => intro _; exact ⟨hG, fun j hj => absurd hj (Nat.not_lt_zero j), fun _ _ => rfl, Nat.le_refl _⟩
  | succ k ih =>
    intro hk
    obtain ⟨g1, g2, g3, g4⟩ := ih (by omega)
    have e21 : (mVS p nl m f k).2.2.2 21 = f 21 := mVS_o (by decide) k
    refine ⟨(JG_back (nl := (mVS p nl m f k).2.1) g1 hn hp (by omega)).1, fun j hj => ?_, fun x hx => ?_, ?_⟩
    · show mBf (mVS p nl m f k).2.1 p k (mVS p nl m f k).2.2.2 22 (24 * p + j) = 0
      unfold mBf
      rw [mWf_o (by decide) (by decide)]
      show upd ((mVS p nl m f k).2.2.2 22) (24 * p + k) 0 (24 * p + j) = 0
      by_cases e : j = k
      · rw [e, xupd_i]
      · rw [xud (by omega)]; exact g2 j (by omega)
    · show mBf (mVS p nl m f k).2.1 p k (mVS p nl m f k).2.2.2 20 x = f 20 x
      unfold mBf
      rw [mWf_o (by decide) (by decide)]
      show upd ((mVS p nl m f k).2.2.2 20) p _ x = _
      rw [xud hx]; exact g3 x hx
    · show mWl (mVS p nl m f k).2.1 _ ≤ nl + (k + 1)
      have := (mWl_1 (nl := (mVS p nl m f k).2.1) (a := (mVS p nl m f k).2.2.2 22 (24 * p + k))).1
      omega
theorem mVS_nn {p : Nat} {m : Nat → Int32} {j : Nat} (hj : j = 0 ∨ j = 1) : ∀ k, (mVS p nl m f k).2.2.1 j = m j := by
  intro k
  induction k with
  | zero => rfl
  | succ k ih =>
    show mWn _ _ _ j = _
    rcases hj with rfl | rfl
    · rw [mWn_0, ih]
    · rw [mWn_1, ih]
theorem S_reverse {w : Int32} (h : JI n f g nc ni np nl q) (hq : q ≤ 512) : sP n f g nc ni np nl q nc ni np (mVS w.toNatClampNeg nl (nup n 0 0) f ni).2.1 (o_reverse ni np nl w n f g) := by
  have hnl := JI_nl h hq
  obtain ⟨h1, ⟨t, ht, ht2, hG⟩, h7⟩ := id h
  obtain ⟨x2, x3, x4, x5, b1, b2, b3, b4⟩ := id h1
  unfold o_reverse
  by_cases c1 : xin w np
  · rw [if_neg (fun z => z c1)]
    by_cases c2 : f 21 w.toNatClampNeg = 0
    · rw [if_neg (fun z => z c2)]
      have hp := xin_j c1 b3
      have hall := mVS_G (nl := nl) (m := nup n 0 0) hG b2 hp c2
      obtain ⟨g1, g2, g3, g4⟩ := hall ni (Nat.le_refl _)
      have hI : xI (mVS w.toNatClampNeg nl (nup n 0 0) f ni).2.2.1 nc ni np (mVS w.toNatClampNeg nl (nup n 0 0) f ni).2.1 := mVS_I (m := ni) (xI_0 (w := 0) h1) (fun k hk => by have := (hall k (by omega)).2.2.2; omega) ni (Nat.le_refl _)
      refine sP_ok (mVS_nn (Or.inl rfl) ni) ⟨hI, ⟨t, (mVS_nn (Or.inr rfl) ni).trans ht, ht2, ?_⟩, ?_⟩
      · obtain ⟨o, ⟨z1, z2, z3, z4⟩, w1, ⟨m1, m2, m3, m4, m5⟩, a1⟩ := g1
        refine ⟨o, ⟨z1, z2, fun p hq2 => ?_, z4⟩, w1, ⟨m1, m2, fun p hp2 => ?_, m4, fun p hp2 hr => ?_⟩, a1⟩
        · show upd ((mVS w.toNatClampNeg nl (nup n 0 0) f ni).2.2.2 21) w.toNatClampNeg 1 p = 0
          rw [xud (by omega)]; exact z3 p hq2
        · show 0 ≤ (upd ((mVS w.toNatClampNeg nl (nup n 0 0) f ni).2.2.2 20) w.toNatClampNeg 0 p).toInt ∧ (upd ((mVS w.toNatClampNeg nl (nup n 0 0) f ni).2.2.2 20) w.toNatClampNeg 0 p).toInt + _ ≤ _
          have := m3 p hp2
          by_cases e : p = w.toNatClampNeg
          · rw [e, xupd_i, i32_z]
            rw [e] at this
            exact ⟨Int.le_refl _, by show 0 + zs (fun i => ((mVS w.toNatClampNeg nl (nup n 0 0) f ni).2.2.2 22 (24 * w.toNatClampNeg + i)).toInt) ni ≤ _; omega⟩
          · rw [xud e]; exact this
        · show upd ((mVS w.toNatClampNeg nl (nup n 0 0) f ni).2.2.2 20) w.toNatClampNeg 0 p = 0 ∧ _
          by_cases e : p = w.toNatClampNeg
          · rw [e, xupd_i]
            exact ⟨rfl, g2⟩
          · have hr2 : ¬ (mVS w.toNatClampNeg nl (nup n 0 0) f ni).2.2.2 21 p = 0 := fun z => hr ((xud e).trans z)
            rw [xud e]
            exact m5 p hp2 hr2
      · have e20 : (fup (fup (mVS w.toNatClampNeg nl (nup n 0 0) f ni).2.2.2 20 (upd ((mVS w.toNatClampNeg nl (nup n 0 0) f ni).2.2.2 20) w.toNatClampNeg 0)) 21 (upd ((mVS w.toNatClampNeg nl (nup n 0 0) f ni).2.2.2 21) w.toNatClampNeg 1)) 20 = upd (f 20) w.toNatClampNeg 0 := by
          show upd ((mVS w.toNatClampNeg nl (nup n 0 0) f ni).2.2.2 20) w.toNatClampNeg 0 = _
          funext x
          by_cases e : x = w.toNatClampNeg
          · rw [e, xupd_i, xupd_i]
          · rw [xud e, xud e]; exact g3 x e
        exact jL_s h7 ((zc_up e20).2.1 rfl) (by omega)
    · rw [if_pos c2]; exact sP_no h (by decide)
  · rw [if_pos c1]; exact sP_no h (by decide)
end JCALLS2
