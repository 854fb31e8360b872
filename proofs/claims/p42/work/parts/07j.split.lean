section XSPL
variable {f jc : Nat → Nat → Int32} {g : Nat → Nat → Int64} {jr : Nat → Int64} {ni : Nat} {c a : Int32}
theorem xWJ_z (hn : ni ≤ 24) {k : Nat} (hk : k < 24) : (xWJ f c jc ni 3 k).toInt = zw ni f c k := by
  by_cases h : k < ni
  · rw [xWJ_3 h hn]
    unfold zw
    by_cases h2 : f 10 k = c
    · rw [if_pos h2, if_pos ⟨h, h2⟩]
    · rw [if_neg h2, if_neg (fun z => h2 z.2)]; rfl
  · rw [zw_0 (by omega)]
    show (if k < ni ∧ f 10 k = c then f 13 k - f 14 k else xpre (fun _ => 0) (jc 3) 24 k).toInt = 0
    rw [if_neg (fun z => h z.1), xpre_lt hk]
    rfl
theorem xwl_z (hn : ni ≤ 24) : (xsumL (xwl (xWJ f c jc ni)) 24).toInt = zs (zw ni f c) ni := by
  have h := xsumL_z (t := xwl (xWJ f c jc ni)) 24 (Nat.le_refl _) (fun i hi => by unfold xwl; rw [Int32.toInt_toInt64]; exact i32_rng _)
  rw [h.1, zs_congr (s := zw ni f c) 24 (fun i hi => by show (xwl _ i).toInt = _; unfold xwl; rw [Int32.toInt_toInt64, xWJ_z hn hi])]
  exact zs_ext 24 hn (fun i hi _ => zw_0 hi)
theorem xwl_all (hn : ni ≤ 24) : xsumL (xwl (xWJ f c jc ni)) 24 = xall f c ni := i64_inj ((xwl_z hn).trans (xall_z hn).1.symm)
/-- the class's split of a, the reference's; what each gets; the sum -/
theorem cspl_z (hn : ni ≤ 24) (hw : ∀ j, 0 ≤ zw ni f c j) (ha : 0 ≤ a.toInt) (haT : a.toInt ≤ zs (zw ni f c) ni) : (∀ j, j < ni → (cspl (xWJ f c jc ni) jr a).1 j = (xspl ni c a f g).1 j ∧ 0 ≤ ((cspl (xWJ f c jc ni) jr a).1 j).toInt ∧ ((cspl (xWJ f c jc ni) jr a).1 j).toInt ≤ zw ni f c j) ∧ zs (fun j => ((cspl (xWJ f c jc ni) jr a).1 j).toInt) ni = a.toInt := by
  have hTz := xwl_z (f := f) (c := c) (jc := jc) hn
  have hTa := xwl_all (f := f) (c := c) (jc := jc) hn
  have hT24 := (xall_z (f := f) (c := c) hn)
  have hT0 := zs_nn (t := zw ni f c) ni (fun i _ => hw i)
  have har := i32_rng a
  generalize hTd : zs (zw ni f c) ni = T at *
  by_cases hT : T = 0
  · have hz : ∀ j, j < ni → zw ni f c j = 0 := fun j hj => by
      have h1 := zs_mem (t := zw ni f c) ni (fun i _ => hw i) hj
      have h2 := hw j
      omega
    have hx : ∀ j, j < ni → xclr f c j = 0 := fun j hj => i64_inj (by rw [zw_xclr hj, hz j hj]; rfl)
    have hcs : (cspl (xWJ f c jc ni) jr a).1 = xWJ f c jc ni 4 := by
      unfold cspl
      rw [if_pos (i64_le.mpr (by rw [hTz, i64_z]; omega))]
    have ha0 : a = 0 := i32_inj (by rw [i32_z]; omega)
    have hlf : (xlft f c a ni ni).toNatClampNeg = 0 := by
      have h1 := xsubt_z (a := a) (t := xs0 f c a (xall f c ni)) ni (fun i hi => by
        unfold xs0; rw [if_pos (hx i hi)]; exact Int.le_refl _) (by
        rw [zs_congr (s := fun j => zw ni f c j) ni (fun i hi => by unfold xs0; rw [if_pos (hx i hi), hz i hi]; rfl)]
        show zs (zw ni f c) ni ≤ _
        omega)
      rw [zs_congr (s := fun j => zw ni f c j) ni (fun i hi => by unfold xs0; rw [if_pos (hx i hi), hz i hi]; rfl)] at h1
      have h2 : zs (fun j => zw ni f c j) ni = T := hTd
      show (xlft f c a ni ni).toInt.toNat = 0
      unfold xlft
      omega
    have hxs : ∀ j, j < ni → (xspl ni c a f g).1 j = 0 := fun j hj => by
      unfold xspl
      rw [hlf]
      show xpre (xs0 f c a (xall f c ni)) (f 25) ni j = 0
      rw [xpre_lt hj]
      exact if_pos (hx j hj)
    rw [hcs]
    refine ⟨fun j hj => ?_, ?_⟩
    · rw [xWJ_4 (by omega), hxs j hj, hz j hj]
      exact ⟨rfl, Int.le_refl _, Int.le_refl _⟩
    · rw [zs_congr (s := fun j => zw ni f c j) ni (fun i hi => by show (xWJ f c jc ni 4 i).toInt = _; rw [xWJ_4 (by omega), hz i hi]; rfl)]
      show zs (zw ni f c) ni = _
      omega
  · have hTp : 0 < T := by omega
    have hwr := zw_rng (f := f) (ni := ni) (c := c)
    have hJ : ∀ k, k < 24 → (xWJ f c jc ni 3 k).toInt = zw ni f c k := fun k hk => xWJ_z hn hk
    generalize hJe : xWJ f c jc ni = J at *
    -- one invoice
    have hpr : ∀ x : Int, 0 ≤ x → x ≤ 2147483647 → 0 ≤ a.toInt * x ∧ a.toInt * x ≤ 4611686014132420609 := fun x h1 h2 => ⟨Int.mul_nonneg ha h1, by
      have := Int.mul_le_mul har.2 h2 h1 (by decide)
      omega⟩
    have hq : ∀ x : Int, 0 ≤ x → a.toInt * x / T ≤ x ∧ 0 ≤ a.toInt * x / T ∧ 0 ≤ a.toInt * x - a.toInt * x / T * T ∧ a.toInt * x - a.toInt * x / T * T < T ∧ a.toInt * x / T * T ≤ a.toInt * x ∧ 0 ≤ a.toInt * x / T * T := fun x h1 => by
      have e1 := Int.mul_le_mul_of_nonneg_right haT h1
      have e2 := Int.mul_nonneg ha h1
      have e3 := Int.emod_nonneg (a.toInt * x) hT
      have e4 := Int.emod_lt_of_pos (a.toInt * x) hTp
      have e5 := Int.mul_ediv_add_emod (a.toInt * x) T
      rw [Int.mul_comm T] at e5
      have e6 : a.toInt * x / T ≤ x := Int.ediv_le_of_le_mul hTp (by rw [Int.mul_comm x]; exact e1)
      have e7 := Int.ediv_nonneg e2 (Int.le_of_lt hTp)
      have e8 := Int.mul_nonneg e7 (Int.le_of_lt hTp)
      refine ⟨e6, e7, by omega, by omega, by omega, e8⟩
    have hm : ∀ k, k < 24 → (a.toInt64 * (J 3 k).toInt64).toInt = a.toInt * zw ni f c k := fun k hk => by
      have := hpr _ (hw k) (hwr k).2
      rw [i64_mul (by rw [Int32.toInt_toInt64, Int32.toInt_toInt64, hJ k hk]; omega) (by rw [Int32.toInt_toInt64, Int32.toInt_toInt64, hJ k hk]; omega), Int32.toInt_toInt64, Int32.toInt_toInt64, hJ k hk]
    have hs0 : ∀ k, k < 24 → (cs0 J a k).toInt = a.toInt * zw ni f c k / T := fun k hk => by
      have h1 := hpr _ (hw k) (hwr k).2
      have h2 := hq _ (hw k)
      have h3 := hwr k
      have e : (a.toInt64 * (J 3 k).toInt64 / xsumL (xwl J) 24).toInt = a.toInt * zw ni f c k / T := by
        rw [i64_div (by rw [hm k hk]; omega) (by rw [hTz]; exact hTp), hm k hk, hTz]
      unfold cs0
      rw [i64_32 (by rw [e]; omega) (by rw [e]; omega), e]
    have hr0 : ∀ k, k < 24 → (cr0 J a k).toInt = a.toInt * zw ni f c k - a.toInt * zw ni f c k / T * T := fun k hk => by
      have h1 := hpr _ (hw k) (hwr k).2
      have h2 := hq _ (hw k)
      have e : (a.toInt64 * (J 3 k).toInt64 / xsumL (xwl J) 24).toInt = a.toInt * zw ni f c k / T := by
        rw [i64_div (by rw [hm k hk]; omega) (by rw [hTz]; exact hTp), hm k hk, hTz]
      have e2 : (a.toInt64 * (J 3 k).toInt64 / xsumL (xwl J) 24 * xsumL (xwl J) 24).toInt = a.toInt * zw ni f c k / T * T := by
        rw [i64_mul (by rw [e, hTz]; omega) (by rw [e, hTz]; omega), e, hTz]
      unfold cr0
      rw [i64_sub (by rw [hm k hk, e2]; omega) (by rw [hm k hk, e2]; omega), hm k hk, e2]
    -- the same as the reference's
    have hJ64 : ∀ j, j < ni → (J 3 j).toInt64 = xclr f c j := fun j hj => i64_inj (by rw [Int32.toInt_toInt64, hJ j (by omega), zw_xclr hj])
    have hz0 : ∀ k, k < 24 → zw ni f c k = 0 → cs0 J a k = 0 ∧ (cr0 J a k).toInt = 0 := fun k hk h => by
      have h1 := hs0 k hk
      have h2 := hr0 k hk
      rw [h, Int.mul_zero, Int.zero_ediv] at h1 h2
      rw [Int.zero_mul] at h2
      exact ⟨i32_inj h1, h2⟩
    have es : ∀ j, j < ni → cs0 J a j = xs0 f c a (xall f c ni) j := fun j hj => by
      unfold xs0
      by_cases h : xclr f c j = 0
      · rw [if_pos h]
        exact (hz0 j (by omega) (by rw [← zw_xclr hj, h]; rfl)).1
      · rw [if_neg h, ← hTa, ← hJ64 j hj]; rfl
    have er : ∀ j, j < ni → cr0 J a j = xr0 f c a (xall f c ni) j := fun j hj => by
      unfold xr0
      by_cases h : xclr f c j = 0
      · rw [if_pos h]
        exact i64_inj (hz0 j (by omega) (by rw [← zw_xclr hj, h]; rfl)).2
      · rw [if_neg h, ← hTa, ← hJ64 j hj]; rfl
    -- what is left
    have hR : zs (fun k => (cr0 J a k).toInt) ni = (a.toInt - zs (fun k => (cs0 J a k).toInt) ni) * T := by
      rw [zs_congr (s := fun k => a.toInt * zw ni f c k - (cs0 J a k).toInt * T) ni (fun i hi => by rw [hr0 i (by omega), hs0 i (by omega)]), zs_sub, zs_mul, zs_mulr, hTd, ← Int.sub_mul]
    have hRn := zs_nn (t := fun k => (cr0 J a k).toInt) ni (fun i hi => by rw [hr0 i (by omega)]; exact (hq _ (hw i)).2.2.1)
    have hL : 0 ≤ a.toInt - zs (fun k => (cs0 J a k).toInt) ni := by
      refine Int.not_lt.mp fun z => ?_
      have := Int.mul_le_mul_of_nonneg_right (show a.toInt - zs (fun k => (cs0 J a k).toInt) ni ≤ -1 by omega) (Int.le_of_lt hTp)
      rw [← hR] at this
      omega
    have hsn : ∀ i, i < 24 → 0 ≤ (cs0 J a i).toInt := fun i hi => by rw [hs0 i hi]; exact (hq _ (hw i)).2.1
    have hx24 : zs (fun k => (cs0 J a k).toInt) 24 = zs (fun k => (cs0 J a k).toInt) ni := zs_ext 24 hn (fun i h1 h2 => by rw [(hz0 i h2 (zw_0 h1)).1]; rfl)
    have hl1 : (xsubt a (cs0 J a) 24).toInt = a.toInt - zs (fun k => (cs0 J a k).toInt) ni := by
      rw [xsubt_z 24 hsn (by omega), hx24]
    have hl2 : (xlft f c a ni ni).toInt = a.toInt - zs (fun k => (cs0 J a k).toInt) ni := by
      unfold xlft
      have e := zs_congr (t := fun i => (xs0 f c a (xall f c ni) i).toInt) (s := fun k => (cs0 J a k).toInt) ni (fun i hi => by rw [es i hi])
      rw [xsubt_z ni (fun i hi => by rw [← es i hi]; exact hsn i (by omega)) (by omega), e]
    have hll : (xlft f c a ni ni).toNatClampNeg = (xsubt a (cs0 J a) 24).toNatClampNeg := by
      show (xlft f c a ni ni).toInt.toNat = (xsubt a (cs0 J a) 24).toInt.toNat
      rw [hl1, hl2]
    have hc : cspl J jr a = cgive (xpre (cs0 J a) (J 4) 24) (xpreL (cr0 J a) jr 24) (xsubt a (cs0 J a) 24).toNatClampNeg := by
      unfold cspl
      rw [if_neg (fun z => by have := i64_le.mp z; rw [hTz, i64_z] at this; omega)]
    have hxe : xspl ni c a f g = xgive ni (xsubt a (cs0 J a) 24).toNatClampNeg (xpre (xs0 f c a (xall f c ni)) (f 25) ni) (xpreL (xr0 f c a (xall f c ni)) (g 26) ni) := by
      unfold xspl
      rw [hll]
    have hpL : ∀ (t o : Nat → Int64) (n j : Nat), j < n → xpreL t o n j = t j := fun t o n j h => if_pos h
    have hg := cGv_all (ni := ni) (w := zw ni f c) (T := T) (L := a.toInt - zs (fun k => (cs0 J a k).toInt) ni) (s0 := zs (fun k => (cs0 J a k).toInt) ni) (S := xpre (cs0 J a) (J 4) 24) (S' := xpre (xs0 f c a (xall f c ni)) (f 25) ni) (R := xpreL (cr0 J a) jr 24) (R' := xpreL (xr0 f c a (xall f c ni)) (g 26) ni) hn hTp (fun i _ => (hwr i).2) ⟨fun i hi => ⟨by show xpre _ _ _ i = xpre _ _ _ i; rw [xpre_lt (by omega), xpre_lt hi, es i hi], by show xpreL _ _ _ i = xpreL _ _ _ i; rw [hpL _ _ _ _ (by omega), hpL _ _ _ _ hi, er i hi]⟩, fun i h1 h2 => by show (xpreL _ _ _ i).toInt = 0; rw [hpL _ _ _ _ h2]; exact (hz0 i h2 (zw_0 h1)).2, fun i hi => ?_, ?_, ?_⟩ (xsubt a (cs0 J a) 24).toNatClampNeg (by show (((xsubt a (cs0 J a) 24).toInt.toNat : Nat) : Int) ≤ _; rw [hl1]; omega)
    · rw [hc, hxe]
      refine ⟨fun j hj => ⟨(hg.1 j hj).1, (hg.2.2.1 j hj).2.2.1, (hg.2.2.1 j hj).2.2.2.1⟩, ?_⟩
      rw [hg.2.2.2.2]
      show _ + (((xsubt a (cs0 J a) 24).toInt.toNat : Nat) : Int) = _
      rw [hl1]
      omega
    · show 0 ≤ (xpreL (cr0 J a) jr 24 i).toInt ∧ (xpreL (cr0 J a) jr 24 i).toInt ≤ T ∧ 0 ≤ (xpre (cs0 J a) (J 4) 24 i).toInt ∧ (xpre (cs0 J a) (J 4) 24 i).toInt ≤ zw ni f c i ∧ (0 < (xpreL (cr0 J a) jr 24 i).toInt → (xpre (cs0 J a) (J 4) 24 i).toInt < zw ni f c i)
      rw [hpL _ _ _ _ (by omega), xpre_lt (by omega), hr0 i (by omega), hs0 i (by omega)]
      obtain ⟨q1, q2, q3, q4, q5, q6⟩ := hq _ (hw i)
      refine ⟨q3, by omega, q2, q1, fun z => ?_⟩
      rcases Int.lt_or_eq_of_le q1 with y | y
      · exact y
      · have e1 := Int.mul_le_mul_of_nonneg_right haT (hw i)
        rw [y, Int.mul_comm (zw ni f c i) T] at z
        omega
    · show _ - ((0 : Nat) : Int) * T ≤ zs (fun i => (xpreL (cr0 J a) jr 24 i).toInt) ni
      rw [zs_congr (t := fun i => (xpreL (cr0 J a) jr 24 i).toInt) (s := fun k => (cr0 J a k).toInt) ni (fun i hi => by show (xpreL _ _ _ i).toInt = _; rw [hpL _ _ _ _ (by omega)]), hR, show ((0 : Nat) : Int) = 0 from rfl, Int.zero_mul]
      omega
    · show zs (fun i => (xpre (cs0 J a) (J 4) 24 i).toInt) ni = _ + ((0 : Nat) : Int)
      rw [zs_congr (s := fun k => (cs0 J a k).toInt) ni (fun i hi => by show (xpre _ _ _ i).toInt = _; rw [xpre_lt (by omega)])]
      omega
end XSPL
