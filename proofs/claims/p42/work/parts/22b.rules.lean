/-! what a rule gives -/
section KRU
variable {nc ni np nl t p w : Nat} {n : Nat → Int32} {f f' : Nat → Nat → Int32} {g g' : Nat → Nat → Int64} {G M : Nat → Int32} {a : Int32}
theorem mSh_r0 {j : Nat} (h6 : f 6 w = 0) (hj : j < ni) : mShf ni w a f g 25 j = xfro f (nI w) (xgets a (xall f (nI w) ni)) ni j := by
  unfold mShf
  rw [if_neg (fun z => by rw [h6] at z; exact absurd z (by decide)), if_pos h6]
  show xpre _ _ ni j = _
  exact if_pos hj
theorem mSh_r2 {j : Nat} (h0 : ¬ f 6 w = 0) (h1 : ¬ f 6 w = 1) (hj : j < ni) : mShf ni w a f g 25 j = 0 := by
  unfold mShf
  rw [if_neg h1, if_neg h0]
  show xpre (fun _ => 0) (f 25) ni j = 0
  exact if_pos hj
theorem mSh_all (hn : ni ≤ 24) (hw : ∀ j, 0 ≤ zw ni f (nI w) j) (ha : 0 ≤ a.toInt) (hr : f 6 w = 0 ∨ f 6 w = 1) (hlt : zs (fun j => (mShf ni w a f g 25 j).toInt) ni < a.toInt) : ∀ j, j < ni → (mShf ni w a f g 25 j).toInt = zw ni f (nI w) j := by
  obtain ⟨h1, h2⟩ := cPJ_z (f := f) (jc := fun _ _ => 0) (jr := fun _ => 0) (g := g) (w := w) (a := a) hn hw ha
  have e : zs (fun j => (mShf ni w a f g 25 j).toInt) ni = zs (fun j => ((cPJ ni f (fun _ _ => 0) (fun _ => 0) w a).1 4 j).toInt) ni := zs_congr ni fun i hi => by rw [(h1 i hi).1]
  rw [e] at hlt
  have hT0 := zs_nn (t := zw ni f (nI w)) ni (fun i _ => hw i)
  have hJ3 : ∀ j, j < ni → (xWJ f (nI w) (fun _ _ => 0) ni 3 j).toInt = zw ni f (nI w) j := fun j hj => xWJ_z hn (by omega)
  have hJ4 : ∀ j, j < ni → xWJ f (nI w) (fun _ _ => 0) ni 4 j = 0 := fun j hj => xWJ_4 (by omega)
  rcases hr with c0 | c1
  · have ec : (cPJ ni f (fun _ _ => 0) (fun _ => 0) w a).1 4 = (cSh ni f (xWJ f (nI w) (fun _ _ => 0) ni) a ni).1 := by
      unfold cPJ
      rw [if_pos c0]; rfl
    intro j hj
    rw [← (h1 j hj).1, ec]
    rw [ec] at hlt
    have hs := cSh_sum (f := f) (jc := xWJ f (nI w) (fun _ _ => 0) ni) (a := a) hn (fun j hj => by rw [hJ3 j hj]; exact hw j) hJ4 ha ni
    exact cSh_stop hn hw hJ3 hJ4 ha (by have := hs.2.1; omega) j hj
  · have c0 : ¬ f 6 w = 0 := fun z => by rw [z] at c1; exact absurd c1 (by decide)
    intro j hj
    have hT := xall_z (f := f) (c := nI w) hn
    have hg := xgets_z (a := a) (T := xall f (nI w) ni) ha (by omega)
    have hg2 : 0 ≤ (xgets a (xall f (nI w) ni)).toInt ∧ (xgets a (xall f (nI w) ni)).toInt ≤ zs (zw ni f (nI w)) ni := by
      rw [hg]
      split <;> omega
    have ec : (cPJ ni f (fun _ _ => 0) (fun _ => 0) w a).1 4 = (cspl (xWJ f (nI w) (fun _ _ => 0) ni) (fun _ => 0) (xgets a (xall f (nI w) ni))).1 := by
      unfold cPJ
      rw [if_neg c0, if_pos c1, xwl_all hn]; rfl
    obtain ⟨g1, g2⟩ := cspl_z (f := f) (jc := fun _ _ => 0) (g := g) (jr := fun _ => 0) (c := nI w) (a := xgets a (xall f (nI w) ni)) hn hw hg2.1 hg2.2
    rw [← (h1 j hj).1, ec]
    rw [ec, g2, hg] at hlt
    have ha2 : zs (fun j => ((cspl (xWJ f (nI w) (fun _ _ => 0) ni) (fun _ => 0) (xgets a (xall f (nI w) ni))).1 j).toInt) ni = zs (zw ni f (nI w)) ni := by
      rw [g2, hg, if_neg (by intro z; rw [if_pos z] at hlt; omega), hT.1]
    have key : zs (fun i => ((cspl (xWJ f (nI w) (fun _ _ => 0) ni) (fun _ => 0) (xgets a (xall f (nI w) ni))).1 i).toInt + (if i = j then zw ni f (nI w) j - ((cspl (xWJ f (nI w) (fun _ _ => 0) ni) (fun _ => 0) (xgets a (xall f (nI w) ni))).1 j).toInt else 0)) ni ≤ zs (zw ni f (nI w)) ni := by
      refine zs_le ni fun i hi => ?_
      by_cases e : i = j
      · rw [e]
        show _ + (if j = j then _ else _) ≤ _
        rw [if_pos rfl]
        omega
      · show _ + (if i = j then _ else _) ≤ _
        rw [if_neg e]
        have := (g1 i hi).2.2
        omega
    rw [zs_add, zs_one ni hj, ha2] at key
    have := (g1 j hj).2.2
    omega
theorem zw_of {c : Int32} {j : Nat} (hG : JG nc ni np t f g) (hj : j < ni) (h : f 10 j = c) : zw ni f c j = (f 13 j).toInt - (f 14 j).toInt := by
  have hm := hG.2.2.2.1.1 j hj
  have hr := i32_rng (f 13 j)
  unfold zw
  rw [if_pos ⟨hj, h⟩, i32_sub (by omega) (by omega)]
theorem zw_no {c : Int32} {j : Nat} (h : ¬ f 10 j = c) : zw ni f c j = 0 := if_neg (fun z => h z.2)
/-- weights after shares were taken from them -/
theorem zw_dec {c : Int32} {s : Nat → Int} (hG : JG nc ni np t f g) (hG' : JG nc ni np t f' g') (h10 : f' 10 = f 10) (h : ∀ j, j < ni → (f' 13 j).toInt = (f 13 j).toInt - s j ∧ f' 14 j = f 14 j) (hs : ∀ j, j < ni → 0 ≤ s j ∧ s j ≤ zw ni f c j) : ∀ j, j < ni → zw ni f' c j = zw ni f c j - s j := by
  intro j hj
  by_cases e : f 10 j = c
  · rw [zw_of hG hj e, zw_of hG' hj (by rw [h10]; exact e), (h j hj).1, (h j hj).2]
    omega
  · have := hs j hj
    rw [zw_no e] at this ⊢
    rw [zw_no (by rw [h10]; exact e)]
    omega
theorem xk_f25 {j : Nat} {v : Nat → Int32} (h : j ≠ 25) : fup f 25 v j = f j := by
  unfold fup
  rw [xb_f h, cond_false]
/-- ALL THAT A RULE DOES with a payment: sh what each invoice gets -/
def eAR (ni np nl p w : Nat) (n : Nat → Int32) (f : Nat → Nat → Int32) (g : Nat → Nat → Int64) (sh : Nat → Int32) : Prop :=
  (∀ j, j < ni → 0 ≤ (sh j).toInt ∧ (sh j).toInt ≤ zw ni f (nI w) j) ∧ zs (fun j => (sh j).toInt) ni ≤ (f 20 p).toInt ∧
  (mAR ni nl p w n f g).1.toInt = zs (fun j => (sh j).toInt) ni ∧
  ((mAR ni nl p w n f g).2.2.2.1 20 p).toInt = (f 20 p).toInt - zs (fun j => (sh j).toInt) ni ∧
  (∀ x, x ≠ p → (mAR ni nl p w n f g).2.2.2.1 20 x = f 20 x) ∧
  (∀ j, j < ni → ((mAR ni nl p w n f g).2.2.2.1 13 j).toInt = (f 13 j).toInt - (sh j).toInt ∧ (mAR ni nl p w n f g).2.2.2.1 14 j = f 14 j) ∧
  (∀ j, j < ni → (mAR ni nl p w n f g).2.2.2.1 22 (24 * p + j) = f 22 (24 * p + j) + sh j) ∧
  (f 6 w = 0 ∨ f 6 w = 1 → zs (fun j => (sh j).toInt) ni < (f 20 p).toInt → ∀ j, j < ni → (sh j).toInt = zw ni f (nI w) j) ∧
  (¬ f 6 w = 0 → ¬ f 6 w = 1 → ∀ j, j < ni → sh j = 0) ∧
  (f 6 w = 0 → 0 < (f 20 p).toInt → ∀ j, j < ni → (sh j).toInt = zcl ((f 20 p).toInt - zs (zah f ni (nI w) j) ni) (zw ni f (nI w) j)) ∧
  (∀ j, j ≠ 23 ∧ j ≠ 24 ∧ j ≠ 22 ∧ j ≠ 20 ∧ j ≠ 13 ∧ j ≠ 14 ∧ j ≠ 18 ∧ j ≠ 17 → j ≠ 25 → (mAR ni nl p w n f g).2.2.2.1 j = f j) ∧
  (mAR ni nl p w n f g).2.2.2.2 15 = g 15 ∧
  ((∀ j, j < ni → sh j = 0) → (mAR ni nl p w n f g).1 = 0 ∧ ∀ j, j ≠ 25 → (mAR ni nl p w n f g).2.2.2.1 j = f j)
theorem mAR_E (hG : JG nc ni np t f g) (hn : ni ≤ 24) (hp : p < np) (hwp : f 19 p = nI w) (hK : kX ni np nl f G M) : kX ni np (mAR ni nl p w n f g).2.1 (mAR ni nl p w n f g).2.2.2.1 G M ∧ ∃ sh, eAR ni np nl p w n f g sh := by
  have hw := JG_W hG (nI w)
  have ha := hG.2.2.2.1.2.2.1 p hp
  by_cases h0 : 0 < f 20 p
  · have h0' := i32_lt.mp h0
    rw [i32_z] at h0'
    obtain ⟨z1, z2, -⟩ := mSh_z (g := g) (a := f 20 p) hn hw ha.1
    have z4 := mSh_all (g := g) (a := f 20 p) hn hw ha.1
    have z5 : ∀ j, ¬ f 6 w = 0 → ¬ f 6 w = 1 → j < ni → mShf ni w (f 20 p) f g 25 j = 0 := fun j a b c => mSh_r2 a b c
    have z6 : ∀ j, f 6 w = 0 → j < ni → (mShf ni w (f 20 p) f g 25 j).toInt = zcl ((f 20 p).toInt - zs (zah f ni (nI w) j) ni) (zw ni f (nI w) j) := fun j a c => by
      rw [mSh_r0 a c]
      exact xfro_z hn hw ha.1 c
    have eF : mAsh ni p w f g = fup f 25 (mShf ni w (f 20 p) f g 25) := mShf_25
    generalize hPd : mShf ni w (f 20 p) f g 25 = P at *
    have eA : mAst ni nl p w n f g ni = mAS p P nl n (fup f 25 P) ni := by
      unfold mAst
      rw [eF]; rfl
    have hGF : JG nc ni np t (fup f 25 P) g := JG_c hG rfl rfl rfl rfl rfl rfl rfl rfl rfl rfl rfl rfl rfl rfl
    obtain ⟨g1, g2, g3, g4, g5⟩ := mAS_G (n := n) (nl := nl) (w := w) hGF hn hp z1 z2 ni (Nat.le_refl _)
    obtain ⟨k1, k2⟩ := mAS_K (n := n) (nl := nl) (w := w) (G := G) (M := M) hGF hn hp hwp z1 z2 hK ni (Nat.le_refl _)
    have e15 : mShg ni w (f 20 p) f g 15 = g 15 := by
      unfold mShg
      split <;> rfl
    have eM : mAR ni nl p w n f g = (f 20 p - (mAS p P nl n (fup f 25 P) ni).2.2 20 p, (mAS p P nl n (fup f 25 P) ni).1, (mAS p P nl n (fup f 25 P) ni).2.1, (mAS p P nl n (fup f 25 P) ni).2.2, mShg ni w (f 20 p) f g) := by
      unfold mAR
      rw [if_pos h0, eA]
    have g2' : ((mAS p P nl n (fup f 25 P) ni).2.2 20 p).toInt = (f 20 p).toInt - zs (fun j => (P j).toInt) ni := g2
    have hzs := zs_nn (t := fun j => (P j).toInt) ni (fun j hj => (z1 j hj).1)
    have hcl := zs_nn (t := fun i => (f 22 (24 * p + i)).toInt) ni (fun i hi => hG.2.2.2.1.2.2.2.1 p i hp hi)
    unfold eAR
    rw [eM]
    refine ⟨k1, P, z1, z2, ?_, g2', g4, g5, k2, z4, fun a b j hj => z5 j a b hj, fun a _ j hj => z6 j a hj, fun j hj hj2 => (mAS_o hj ni).trans (xk_f25 hj2), e15, fun hz => ?_⟩
    · show (f 20 p - (mAS p P nl n (fup f 25 P) ni).2.2 20 p).toInt = _
      rw [i32_sub (by omega) (by omega)]
      omega
    · rw [mAS_0 ni hz]
      refine ⟨?_, fun j hj => xk_f25 hj⟩
      show f 20 p - f 20 p = 0
      grind
  · have e0 : f 20 p = 0 := by
      have := mt i32_lt.mpr h0
      rw [i32_z] at this
      exact i32_inj (by rw [i32_z]; omega)
    have eM : mAR ni nl p w n f g = (f 20 p - f 20 p, nl, n, f, g) := by
      unfold mAR
      rw [if_neg h0]
    have ez : zs (fun _ => (0 : Int32).toInt) ni = 0 := by
      have h1 := zs_nn (t := fun _ => (0 : Int32).toInt) ni (fun _ _ => Int.le_refl _)
      have h2 := zs_bd (t := fun _ => (0 : Int32).toInt) (B := 0) ni (fun _ _ => Int.le_refl _)
      omega
    have hs : f 20 p - f 20 p = 0 := by grind
    unfold eAR
    rw [eM]
    refine ⟨hK, fun _ => 0, fun j _ => ⟨Int.le_refl _, hw j⟩, ?_, ?_, ?_, fun _ _ => rfl, fun j _ => ⟨?_, rfl⟩, fun j _ => ?_, fun _ z => ?_, fun _ _ _ _ => rfl, fun _ z => ?_, fun _ _ _ => rfl, rfl, fun _ => ⟨hs, fun _ _ => rfl⟩⟩
    · rw [ez, e0]; exact Int.le_refl _
    · show (f 20 p - f 20 p).toInt = _
      rw [hs, ez]; rfl
    · rw [ez, Int.sub_zero]
    · rw [i32_z, Int.sub_zero]
    · show f 22 (24 * p + j) = f 22 (24 * p + j) + 0
      grind
    · rw [ez, e0, i32_z] at z; omega
    · rw [e0, i32_z] at z; omega
end KRU
