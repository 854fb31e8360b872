section XOG
variable {f jc : Nat → Nat → Int32} {ni : Nat} {c a : Int32}
theorem zw_xclr {j : Nat} (hj : j < ni) : (xclr f c j).toInt = zw ni f c j := by
  unfold xclr zw
  by_cases h : f 10 j = c
  · rw [if_pos h, if_pos ⟨hj, h⟩, Int32.toInt_toInt64]
  · rw [if_neg h, if_neg (fun z => h z.2)]; rfl
theorem zw_rng (j : Nat) : -2147483648 ≤ zw ni f c j ∧ zw ni f c j ≤ 2147483647 := by
  unfold zw
  split
  · exact i32_rng _
  · exact ⟨by decide, by decide⟩
theorem zah_nn (hw : ∀ j, 0 ≤ zw ni f c j) {j i : Nat} (hi : i < ni) : 0 ≤ zah f ni c j i := by
  by_cases q : ahd f i j
  · rw [zah_t hi q]; exact hw i
  · rw [zah_f q]; exact Int.le_refl _
theorem zah_le (hw : ∀ j, 0 ≤ zw ni f c j) {j i : Nat} (hi : i < ni) : zah f ni c j i ≤ zw ni f c i := by
  by_cases q : ahd f i j
  · rw [zah_t hi q]; exact Int.le_refl _
  · rw [zah_f q]; exact hw i
/-- the total of the weights -/
theorem xall_z (hn : ni ≤ 24) : (xall f c ni).toInt = zs (zw ni f c) ni ∧ (xall f c ni).toInt ≤ 51539607552 := by
  have h := xsumL_z (t := xclr f c) ni hn (fun i hi => by rw [zw_xclr hi]; exact zw_rng i)
  unfold xall
  rw [h.1, zs_congr (s := zw ni f c) ni (fun i hi => zw_xclr hi)]
  refine ⟨rfl, ?_⟩
  have h3 := h.2.2
  rw [h.1, zs_congr (s := zw ni f c) ni (fun i hi => zw_xclr hi)] at h3
  omega
theorem xgets_z {T : Int64} (ha : 0 ≤ a.toInt) (hT : 0 ≤ T.toInt) : (xgets a T).toInt = if a.toInt < T.toInt then a.toInt else T.toInt := by
  have h1 := i32_rng a
  unfold xgets
  by_cases h : a.toInt64 < T
  · have := i64_lt.mp h
    rw [Int32.toInt_toInt64] at this
    rw [if_pos h, if_pos this, i64_32 (by rw [Int32.toInt_toInt64]; omega) (by rw [Int32.toInt_toInt64]; omega), Int32.toInt_toInt64]
  · have := mt i64_lt.mpr h
    rw [Int32.toInt_toInt64] at this
    rw [if_neg h, if_neg this, i64_32 (by omega) (by omega)]
/-- the reference's part of one invoice -/
theorem xfro_z (hn : ni ≤ 24) (hw : ∀ j, 0 ≤ zw ni f c j) (ha : 0 ≤ a.toInt) {j : Nat} (hj : j < ni) : (xfro f c (xgets a (xall f c ni)) ni j).toInt = zcl (a.toInt - zs (zah f ni c j) ni) (zw ni f c j) := by
  obtain ⟨hT, hT2⟩ := xall_z (f := f) (c := c) hn
  have hA0 := zs_nn (t := zah f ni c j) ni (fun i hi => zah_nn hw hi)
  have hT0 := zs_nn (t := zw ni f c) ni (fun i _ => hw i)
  have hg := xgets_z (a := a) (T := xall f c ni) ha (by omega)
  have ha2 := i32_rng a
  have key : zs (fun i => zah f ni c j i + (if i = j then zw ni f c j else 0)) ni ≤ zs (zw ni f c) ni := by
    refine zs_le ni fun i hi => ?_
    by_cases e : i = j
    · subst e
      show zah f ni c i i + (if i = i then _ else _) ≤ _
      rw [zah_f ahd_irr, if_pos rfl]
      omega
    · show zah f ni c j i + (if i = j then _ else _) ≤ _
      rw [if_neg e]
      have := zah_le hw (j := j) hi
      omega
  rw [zs_add, zs_one ni hj] at key
  have hwj := hw j
  unfold xfro
  by_cases h : f 10 j = c
  · rw [if_pos h]
    have hz : zw ni f c j = (f 13 j - f 14 j).toInt := if_pos ⟨hj, h⟩
    obtain ⟨s1, s2, s3⟩ := xsumL_z (t := xahd f c j) ni hn (fun i hi => by
      have h1 := zah_nn hw (j := j) hi
      have h2 := zah_le hw (j := j) hi
      have h3 := zw_rng (f := f) (ni := ni) (c := c) i
      unfold zah at h1 h2
      omega)
    have s4 : (xsumL (xahd f c j) ni).toInt = zs (zah f ni c j) ni := s1
    have hd : ((xgets a (xall f c ni)).toInt64 - xsumL (xahd f c j) ni).toInt = (xgets a (xall f c ni)).toInt - zs (zah f ni c j) ni := by
      have := i32_rng (xgets a (xall f c ni))
      rw [i64_sub (by rw [Int32.toInt_toInt64, s4]; omega) (by rw [Int32.toInt_toInt64, s4]; omega), Int32.toInt_toInt64, s4]
    have hw64 : (f 13 j - f 14 j).toInt64.toInt = zw ni f c j := by rw [Int32.toInt_toInt64, hz]
    have hwr := zw_rng (f := f) (ni := ni) (c := c) j
    unfold xfrom
    by_cases h1 : (xgets a (xall f c ni)).toInt64 - xsumL (xahd f c j) ni ≤ 0
    · have h1' := i64_le.mp h1
      rw [hd, i64_z, hg, hT] at h1'
      rw [if_pos h1, i32_z]
      by_cases q : a.toInt < zs (zw ni f c) ni
      · rw [if_pos q] at h1'
        rw [zcl_lo h1']
      · rw [if_neg q] at h1'
        have e0 : zw ni f c j = 0 := by omega
        rw [e0]
        unfold zcl
        split
        · rfl
        · split <;> omega
    · have h1' := mt i64_le.mpr h1
      rw [hd, i64_z, hg, hT] at h1'
      rw [if_neg h1]
      by_cases h2 : (xgets a (xall f c ni)).toInt64 - xsumL (xahd f c j) ni < (f 13 j - f 14 j).toInt64
      · have h2' := i64_lt.mp h2
        rw [hd, hw64, hg, hT] at h2'
        rw [if_pos h2, i64_32 (by rw [hd, hg, hT]; omega) (by rw [hd, hg, hT]; omega), hd, hg, hT]
        by_cases q : a.toInt < zs (zw ni f c) ni
        · rw [if_pos q] at h1' h2' ⊢
          unfold zcl
          rw [if_neg (by omega), if_pos h2']
        · rw [if_neg q] at h1' h2'
          omega
      · have h2' := mt i64_lt.mpr h2
        rw [hd, hw64, hg, hT] at h2'
        rw [if_neg h2, i64_32 (by rw [hw64]; omega) (by rw [hw64]; omega), hw64]
        by_cases q : a.toInt < zs (zw ni f c) ni
        · rw [if_pos q] at h1' h2'
          rw [zcl_hi hwj (by omega)]
        · rw [if_neg q] at h1' h2'
          rw [zcl_hi hwj (by omega)]
  · rw [if_neg h, i32_z]
    have e0 : zw ni f c j = 0 := if_neg (fun z => h z.2)
    rw [e0]
    unfold zcl
    split
    · rfl
    · split <;> omega
/-- no more than the amount is given -/
theorem cSh_sum (hn : ni ≤ 24) (hj3 : ∀ j, j < ni → 0 ≤ (jc 3 j).toInt) (hj4 : ∀ j, j < ni → jc 4 j = 0) (ha : 0 ≤ a.toInt) : ∀ k, 0 ≤ (cSh ni f jc a k).2.toInt ∧ zs (fun j => ((cSh ni f jc a k).1 j).toInt) ni + (cSh ni f jc a k).2.toInt = a.toInt ∧ ∀ j, j < ni → 0 ≤ ((cSh ni f jc a k).1 j).toInt ∧ ((cSh ni f jc a k).1 j).toInt ≤ (jc 3 j).toInt := by
  intro k
  induction k with
  | zero =>
    refine ⟨ha, ?_, fun j hj => ?_⟩
    · show zs (fun j => (jc 4 j).toInt) ni + a.toInt = a.toInt
      rw [zs_congr (s := fun j => if j = ni then (0 : Int) else 0) ni (fun i hi => by show (jc 4 i).toInt = _; rw [hj4 i hi, i32_z, if_neg (by omega)])]
      have := zs_one (i := ni) (x := 0) (ni + 1) (by omega)
      rw [zs_s, if_pos rfl] at this
      omega
    · show 0 ≤ (jc 4 j).toInt ∧ (jc 4 j).toInt ≤ _
      have := hj3 j hj
      rw [hj4 j hj, i32_z]
      exact ⟨Int.le_refl _, this⟩
  | succ k ih =>
    obtain ⟨h1, h2, h3⟩ := ih
    show 0 ≤ (cS1 ni f jc (cSh ni f jc a k)).2.toInt ∧ zs (fun j => ((cS1 ni f jc (cSh ni f jc a k)).1 j).toInt) ni + (cS1 ni f jc (cSh ni f jc a k)).2.toInt = a.toInt ∧ ∀ j, j < ni → 0 ≤ ((cS1 ni f jc (cSh ni f jc a k)).1 j).toInt ∧ ((cS1 ni f jc (cSh ni f jc a k)).1 j).toInt ≤ (jc 3 j).toInt
    generalize cSh ni f jc a k = s at h1 h2 h3
    obtain ⟨P, r⟩ := s
    by_cases hc : 0 < r ∧ ¬ (cold f (fup jc 4 P) ni).1 < 0
    · rcases cold_spec (f := f) (jc := fup jc 4 P) ni hn with ⟨g1, g2⟩ | ⟨j, hj, g1, g2, g3, g4⟩
      · exact absurd (by rw [g1]; decide) hc.2
      · have hjc : (cold f (fup jc 4 P) ni).1.toNatClampNeg = j := by rw [g1, nI_clamp (by omega)]
        have hs : cS1 ni f jc (P, r) = (upd P j (cmn (jc 3 j) r), r - cmn (jc 3 j) r) := by
          unfold cS1
          rw [if_pos hc, hjc]
        rw [hs]
        have hpj : P j = 0 := g3.2
        have hw := hj3 j hj
        have hc1 := i32_lt.mp hc.1
        rw [i32_z] at hc1
        have hcm : 0 ≤ (cmn (jc 3 j) r).toInt ∧ (cmn (jc 3 j) r).toInt ≤ r.toInt ∧ (cmn (jc 3 j) r).toInt ≤ (jc 3 j).toInt := by
          unfold cmn
          by_cases q : r < jc 3 j
          · have := i32_lt.mp q
            rw [if_pos q]; omega
          · have := mt i32_lt.mpr q
            rw [if_neg q]; omega
        have hr := i32_rng r
        have er : (r - cmn (jc 3 j) r).toInt = r.toInt - (cmn (jc 3 j) r).toInt := i32_sub (by omega) (by omega)
        refine ⟨by show 0 ≤ (r - cmn (jc 3 j) r).toInt; omega, ?_, fun i hi => ?_⟩
        · show zs (fun i => (upd P j (cmn (jc 3 j) r) i).toInt) ni + (r - cmn (jc 3 j) r).toInt = a.toInt
          rw [er, zs_up (t := fun i => (P i).toInt) (i := j) (d := (cmn (jc 3 j) r).toInt) ni hj (fun i _ hi => by show (upd P j _ i).toInt = _; rw [xud hi]) (by show (upd P j _ j).toInt = (P j).toInt + _; rw [xupd_i, hpj, i32_z, Int.zero_add])]
          have h2' : zs (fun i => (P i).toInt) ni + r.toInt = a.toInt := h2
          omega
        · show 0 ≤ (upd P j (cmn (jc 3 j) r) i).toInt ∧ (upd P j (cmn (jc 3 j) r) i).toInt ≤ _
          by_cases e : i = j
          · subst e
            rw [xupd_i]; omega
          · rw [xud e]; exact h3 i hi
    · rw [show cS1 ni f jc (P, r) = (P, r) from if_neg hc]
      exact ⟨h1, h2, h3⟩
end XOG
