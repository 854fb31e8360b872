/-! the rest of a payment by the rule: the class's end is the reference's -/
section XPZ
variable {f jc : Nat → Nat → Int32} {g : Nat → Nat → Int64} {jr : Nat → Int64} {ni p w nl : Nat} {a : Int32}
theorem cPJ_z (hn : ni ≤ 24) (hw : ∀ j, 0 ≤ zw ni f (nI w) j) (ha : 0 ≤ a.toInt) : (∀ j, j < ni → (cPJ ni f jc jr w a).1 4 j = mShf ni w a f g 25 j ∧ 0 ≤ ((cPJ ni f jc jr w a).1 4 j).toInt ∧ ((cPJ ni f jc jr w a).1 4 j).toInt ≤ zw ni f (nI w) j) ∧ zs (fun j => ((cPJ ni f jc jr w a).1 4 j).toInt) ni ≤ a.toInt := by
  have hT := xall_z (f := f) (c := nI w) hn
  have hT0 := zs_nn (t := zw ni f (nI w)) ni (fun i _ => hw i)
  have hJ3 : ∀ j, j < ni → (xWJ f (nI w) jc ni 3 j).toInt = zw ni f (nI w) j := fun j hj => xWJ_z hn (by omega)
  have hJ4 : ∀ j, j < ni → xWJ f (nI w) jc ni 4 j = 0 := fun j hj => xWJ_4 (by omega)
  by_cases h0 : f 6 w = 0
  · have e : (cPJ ni f jc jr w a).1 4 = (cSh ni f (xWJ f (nI w) jc ni) a ni).1 := by
      unfold cPJ
      rw [if_pos h0]; rfl
    have hs : mShf ni w a f g 25 = xpre (xfro f (nI w) (xgets a (xall f (nI w) ni)) ni) (xzer f ni) ni := by
      unfold mShf
      rw [if_neg (fun z => absurd (h0.symm.trans z) (by decide)), if_pos h0]; rfl
    rw [e, hs]
    have h1 := cSh_fin (c := nI w) (a := a) hn hw hJ3 hJ4 ha
    have h2 := cSh_sum (f := f) (jc := xWJ f (nI w) jc ni) (a := a) hn (fun j hj => by rw [hJ3 j hj]; exact hw j) hJ4 ha ni
    refine ⟨fun j hj => ⟨?_, (h2.2.2 j hj).1, by rw [← hJ3 j hj]; exact (h2.2.2 j hj).2⟩, by have := h2.2.1; have := h2.1; omega⟩
    rw [xpre_lt hj]
    exact i32_inj ((h1 j hj).trans (xfro_z hn hw ha hj).symm)
  · by_cases h1 : f 6 w = 1
    · have e : (cPJ ni f jc jr w a).1 4 = (cspl (xWJ f (nI w) jc ni) jr (xgets a (xall f (nI w) ni))).1 := by
        unfold cPJ
        rw [if_neg h0, if_pos h1, xwl_all hn]; rfl
      have hs : mShf ni w a f g 25 = (xspl ni (nI w) (xgets a (xall f (nI w) ni)) f g).1 := by
        unfold mShf
        rw [if_pos h1]; rfl
      have hg := xgets_z (a := a) (T := xall f (nI w) ni) ha (by omega)
      have hg2 : 0 ≤ (xgets a (xall f (nI w) ni)).toInt ∧ (xgets a (xall f (nI w) ni)).toInt ≤ zs (zw ni f (nI w)) ni ∧ (xgets a (xall f (nI w) ni)).toInt ≤ a.toInt := by
        rw [hg]
        split <;> omega
      obtain ⟨g1, g2⟩ := cspl_z (f := f) (jc := jc) (g := g) (jr := jr) (c := nI w) (a := xgets a (xall f (nI w) ni)) hn hw hg2.1 hg2.2.1
      rw [e, hs]
      exact ⟨g1, by rw [g2]; exact hg2.2.2⟩
    · have e : (cPJ ni f jc jr w a).1 4 = xWJ f (nI w) jc ni 4 := by
        unfold cPJ
        rw [if_neg h0, if_neg h1]
      have hs : mShf ni w a f g 25 = xzer f ni := by
        unfold mShf
        rw [if_neg h1, if_neg h0]; rfl
      rw [e, hs]
      refine ⟨fun j hj => ?_, ?_⟩
      · rw [hJ4 j hj]
        refine ⟨?_, Int.le_refl _, hw j⟩
        unfold xzer
        rw [xpre_lt hj]
      · have := zs_le (t := fun j => (xWJ f (nI w) jc ni 4 j).toInt) (s := fun _ => 0 * 0) ni (fun i hi => by show (xWJ f (nI w) jc ni 4 i).toInt ≤ _; rw [hJ4 i hi]; exact Int.le_refl _)
        rw [zs_mul] at this
        omega
theorem mShf_25 : mShf ni w a f g = fup f 25 (mShf ni w a f g 25) := by
  unfold mShf
  split
  · rfl
  · split <;> rfl
theorem fup_25 {v u : Nat → Int32} {j : Nat} (h : j ≠ 25) : fup (fup f 25 v) j u = fup (fup f j u) 25 v := by
  funext k
  by_cases h1 : k = j
  · subst h1
    rw [fup_s, fup_n h, fup_s]
  · rw [fup_n h1]
    by_cases h2 : k = 25
    · subst h2
      rw [fup_s, fup_s]
    · rw [fup_n h2, fup_n h2, fup_n h1]
theorem mPf_25 {i : Nat} {v : Nat → Int32} : mPf nl p i a (fup f 25 v) = fup (mPf nl p i a f) 25 v := by
  have h1 : fup (fup (fup (fup (fup (fup (fup f 25 v) 22 (upd (f 22) (24 * p + i) (f 22 (24 * p + i) + a))) 20 (upd (f 20) p (f 20 p - a))) 13 (upd (f 13) i (f 13 i - a))) 14 (upd (f 14) i (if f 13 i - a < f 14 i then f 13 i - a else f 14 i))) 18 (upd (f 18) i 0)) 17 (upd (f 17) i (if f 13 i - a = 0 then 0 else f 17 i)) = fup (fup (fup (fup (fup (fup (fup f 22 (upd (f 22) (24 * p + i) (f 22 (24 * p + i) + a))) 20 (upd (f 20) p (f 20 p - a))) 13 (upd (f 13) i (f 13 i - a))) 14 (upd (f 14) i (if f 13 i - a < f 14 i then f 13 i - a else f 14 i))) 18 (upd (f 18) i 0)) 17 (upd (f 17) i (if f 13 i - a = 0 then 0 else f 17 i))) 25 v := by
    rw [fup_25 (by decide), fup_25 (by decide), fup_25 (by decide), fup_25 (by decide), fup_25 (by decide), fup_25 (by decide)]
  unfold mPf
  show mWf nl i (-a) (fup (fup (fup (fup (fup (fup (fup f 25 v) 22 (upd (f 22) (24 * p + i) (f 22 (24 * p + i) + a))) 20 (upd (f 20) p (f 20 p - a))) 13 (upd (f 13) i (f 13 i - a))) 14 (upd (f 14) i (if f 13 i - a < f 14 i then f 13 i - a else f 14 i))) 18 (upd (f 18) i 0)) 17 (upd (f 17) i (if f 13 i - a = 0 then 0 else f 17 i))) = _
  rw [h1]
  generalize fup (fup (fup (fup (fup (fup f 22 (upd (f 22) (24 * p + i) (f 22 (24 * p + i) + a))) 20 (upd (f 20) p (f 20 p - a))) 13 (upd (f 13) i (f 13 i - a))) 14 (upd (f 14) i (if f 13 i - a < f 14 i then f 13 i - a else f 14 i))) 18 (upd (f 18) i 0)) 17 (upd (f 17) i (if f 13 i - a = 0 then 0 else f 17 i)) = F
  unfold mWf
  split
  · rfl
  · show fup (fup (fup F 25 v) 23 (upd (F 23) nl (nI i))) 24 (upd (F 24) nl (-a)) = _
    rw [fup_25 (by decide), fup_25 (by decide)]
theorem cMv_25 {sh v : Nat → Int32} : ∀ k, (cMv p sh nl (fup f 25 v) k).1 = (cMv p sh nl f k).1 ∧ (cMv p sh nl (fup f 25 v) k).2 = fup (cMv p sh nl f k).2 25 v := by
  intro k
  induction k with
  | zero => exact ⟨rfl, rfl⟩
  | succ k ih =>
    show mvN (cMv p sh nl (fup f 25 v) k).1 (sh k) = mvN (cMv p sh nl f k).1 (sh k) ∧ mvF (cMv p sh nl (fup f 25 v) k).1 p k (sh k) (cMv p sh nl (fup f 25 v) k).2 = fup (mvF (cMv p sh nl f k).1 p k (sh k) (cMv p sh nl f k).2) 25 v
    rw [ih.1, ih.2]
    refine ⟨rfl, ?_⟩
    unfold mvF
    split
    · exact mPf_25
    · rfl
theorem cMv_congr {sh sh' : Nat → Int32} : ∀ k, (∀ i, i < k → sh i = sh' i) → cMv p sh nl f k = cMv p sh' nl f k := by
  intro k
  induction k with
  | zero => intro _; rfl
  | succ k ih =>
    intro h
    show (mvN (cMv p sh nl f k).1 (sh k), mvF (cMv p sh nl f k).1 p k (sh k) (cMv p sh nl f k).2) = (mvN (cMv p sh' nl f k).1 (sh' k), mvF (cMv p sh' nl f k).1 p k (sh' k) (cMv p sh' nl f k).2)
    rw [ih (fun i hi => h i (by omega)), h k (by omega)]
theorem cMv_zero {sh : Nat → Int32} : ∀ k, (∀ i, i < k → sh i = 0) → cMv p sh nl f k = (nl, f) := by
  intro k
  induction k with
  | zero => intro _; rfl
  | succ k ih =>
    intro h
    show (mvN (cMv p sh nl f k).1 (sh k), mvF (cMv p sh nl f k).1 p k (sh k) (cMv p sh nl f k).2) = (nl, f)
    rw [ih (fun i hi => h i (by omega)), h k (by omega)]
    rfl
theorem mPf_20 {i : Nat} : mPf nl p i a f 20 p = f 20 p - a := by
  unfold mPf
  rw [mWf_o (by decide) (by decide)]
  exact xupd_i
theorem xr_sb {a b c : Int32} : a - b - c = a - (b + c) := by grind
theorem cMv_20 {sh : Nat → Int32} : ∀ k, (∀ i, i < k → 0 ≤ (sh i).toInt) → (cMv p sh nl f k).2 20 p = f 20 p - xsum sh k := by
  intro k
  induction k with
  | zero => intro _; exact (Int32.sub_zero _).symm
  | succ k ih =>
    intro h
    show mvF (cMv p sh nl f k).1 p k (sh k) (cMv p sh nl f k).2 20 p = f 20 p - (xsum sh k + sh k)
    unfold mvF
    by_cases q : 0 < sh k
    · rw [if_pos q, mPf_20, ih (fun i hi => h i (by omega)), xr_sb]
    · have e : sh k = 0 := by
        have h1 := h k (by omega)
        have h2 := mt i32_lt.mpr q
        rw [i32_z] at h2
        exact i32_inj (by rw [i32_z]; omega)
      rw [if_neg q, ih (fun i hi => h i (by omega)), e, Int32.add_zero]
theorem xr_5b {a b : Int32} : b = a - (a - b) := by grind
/-- the class's objects know nothing of the reference's rows for shares -/
theorem xC_25 {h : xH} {nc ni np nl : Nat} {t : Int32} {v : Nat → Int32} {u : Nat → Int64} : xC h nc ni np nl t (fup f 25 v) (gup g 26 u) jc jr = xC h nc ni np nl t f g jc jr := rfl
theorem xC_25f {h : xH} {nc ni np nl : Nat} {t : Int32} {v : Nat → Int32} : xC h nc ni np nl t (fup f 25 v) g jc jr = xC h nc ni np nl t f g jc jr := rfl
theorem xC_26 {h : xH} {nc ni np nl : Nat} {t : Int32} {u : Nat → Int64} : xC h nc ni np nl t f (gup g 26 u) jc jr = xC h nc ni np nl t f g jc jr := rfl
theorem xC_Shg {h : xH} {nc ni np nl : Nat} {t : Int32} {F : Nat → Nat → Int32} : xC h nc ni np nl t F (mShg ni w a f g) jc jr = xC h nc ni np nl t F g jc jr := by
  unfold mShg
  split
  · exact xC_26
  · rfl
/-- all of it -/
theorem cAR_z {h : xH} {nc np : Nat} {t : Int32} {n : Nat → Int32} (hn : ni ≤ 24) (hw : ∀ j, 0 ≤ zw ni f (nI w) j) (ha : 0 ≤ (f 20 p).toInt) : xsum ((cPJ ni f jc jr w (f 20 p)).1 4) ni = (mAR ni nl p w n f g).1 ∧ (cMv p ((cPJ ni f jc jr w (f 20 p)).1 4) nl f ni).1 = (mAR ni nl p w n f g).2.1 ∧ xC h nc ni np (cMv p ((cPJ ni f jc jr w (f 20 p)).1 4) nl f ni).1 t (cMv p ((cPJ ni f jc jr w (f 20 p)).1 4) nl f ni).2 g (cPJ ni f jc jr w (f 20 p)).1 (cPJ ni f jc jr w (f 20 p)).2 = xC h nc ni np (mAR ni nl p w n f g).2.1 t (mAR ni nl p w n f g).2.2.2.1 (mAR ni nl p w n f g).2.2.2.2 (cPJ ni f jc jr w (f 20 p)).1 (cPJ ni f jc jr w (f 20 p)).2 := by
  obtain ⟨h1, h2⟩ := cPJ_z (jc := jc) (jr := jr) (g := g) hn hw ha
  by_cases hp : 0 < f 20 p
  · have e1 : ∀ k, k ≤ ni → (cMv p ((cPJ ni f jc jr w (f 20 p)).1 4) nl f k).1 = (mAst ni nl p w n f g k).1 ∧ (mAst ni nl p w n f g k).2.2 = fup (cMv p ((cPJ ni f jc jr w (f 20 p)).1 4) nl f k).2 25 (mShf ni w (f 20 p) f g 25) := fun k hk => by
      unfold mAst mAsh
      rw [← (cMv_mAS k).1, ← (cMv_mAS k).2, cMv_congr (sh' := mShf ni w (f 20 p) f g 25) k (fun i hi => (h1 i (by omega)).1)]
      have h3 := cMv_25 (p := p) (nl := nl) (f := f) (sh := mShf ni w (f 20 p) f g 25) (v := mShf ni w (f 20 p) f g 25) k
      rw [← mShf_25] at h3
      exact ⟨h3.1.symm, h3.2⟩
    have e2 := e1 ni (Nat.le_refl _)
    unfold mAR
    rw [if_pos hp]
    refine ⟨?_, e2.1, ?_⟩
    · show _ = f 20 p - (mAst ni nl p w n f g ni).2.2 20 p
      rw [e2.2]
      show _ = f 20 p - (cMv p ((cPJ ni f jc jr w (f 20 p)).1 4) nl f ni).2 20 p
      rw [cMv_20 ni (fun i hi => (h1 i hi).2.1)]
      exact xr_5b
    · show _ = xC h nc ni np (mAst ni nl p w n f g ni).1 t (mAst ni nl p w n f g ni).2.2 (mShg ni w (f 20 p) f g) _ _
      rw [xC_Shg, e2.2, xC_25f, ← e2.1]
  · have h0 : (f 20 p).toInt = 0 := by
      have := mt i32_lt.mpr hp
      rw [i32_z] at this
      omega
    have hz : ∀ i, i < ni → (cPJ ni f jc jr w (f 20 p)).1 4 i = 0 := fun i hi => by
      have h3 := zs_mem (t := fun j => ((cPJ ni f jc jr w (f 20 p)).1 4 j).toInt) ni (fun j hj => (h1 j hj).2.1) hi
      have h4 := (h1 i hi).2.1
      have h5 : ((cPJ ni f jc jr w (f 20 p)).1 4 i).toInt ≤ zs (fun j => ((cPJ ni f jc jr w (f 20 p)).1 4 j).toInt) ni := h3
      exact i32_inj (by rw [i32_z]; omega)
    have hs : xsum ((cPJ ni f jc jr w (f 20 p)).1 4) ni = 0 := by
      have h3 := xsum_z (t := (cPJ ni f jc jr w (f 20 p)).1 4) ni (fun i hi => (h1 i hi).2.1) (by omega)
      have h4 := zs_nn (t := fun j => ((cPJ ni f jc jr w (f 20 p)).1 4 j).toInt) ni (fun j hj => (h1 j hj).2.1)
      exact i32_inj (by rw [i32_z]; omega)
    unfold mAR
    rw [if_neg hp, cMv_zero ni hz, hs]
    exact ⟨(Int32.sub_self _).symm, rfl, rfl⟩
end XPZ
