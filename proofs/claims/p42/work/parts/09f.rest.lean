/-! the rest of a payment: the invariant -/
theorem zs_mono {t : Nat → Int} {k : Nat} : ∀ n, k ≤ n → (∀ i, i < n → 0 ≤ t i) → zs t k ≤ zs t n := by
  intro n
  induction n with
  | zero => intro h _; rw [show k = 0 by omega]; exact Int.le_refl _
  | succ n ih =>
    intro h hn
    by_cases e : k = n + 1
    · rw [e]; exact Int.le_refl _
    · have h1 := ih (by omega) (fun i hi => hn i (by omega))
      have h2 := hn n (by omega)
      rw [zs_s]
      omega
section JSTOP
variable {f jc : Nat → Nat → Int32} {ni : Nat} {c a : Int32}
theorem cSh_inv (hn : ni ≤ 24) (hw : ∀ j, 0 ≤ zw ni f c j) (hj3 : ∀ j, j < ni → (jc 3 j).toInt = zw ni f c j) (hj4 : ∀ j, j < ni → jc 4 j = 0) (ha : 0 ≤ a.toInt) : ∀ k, k ≤ ni → cGo f ni c a (cSh ni f jc a k).1 (cSh ni f jc a k).2 k ∨ (cFin f ni c a (cSh ni f jc a k).1 ∧ cS1 ni f jc (cSh ni f jc a k) = cSh ni f jc a k) := by
  have hz : zs (fun j => (jc 4 j).toInt) ni = 0 := by
    rw [zs_congr (s := fun j => if j = ni then (0 : Int) else 0) ni (fun i hi => by show (jc 4 i).toInt = _; rw [hj4 i hi, i32_z, if_neg (by omega)])]
    have := zs_one (i := ni) (x := 0) (ni + 1) (by omega)
    rw [zs_s, if_pos rfl] at this
    omega
  intro k
  induction k with
  | zero =>
    intro _
    by_cases h0 : 0 < a
    · refine Or.inl ⟨h0, fun j hj => Or.inl (hj4 j hj), fun i j _ hj h => absurd (hj4 j hj) h, ?_, ?_⟩
      · show a.toInt = a.toInt - zs (fun j => (jc 4 j).toInt) ni
        rw [hz]; omega
      · show _ = (0 : Int)
        refine Eq.trans (zs_congr (s := fun j => (jc 4 j).toInt) ni fun i hi => ?_) hz
        show (if jc 4 i = 0 then (0 : Int) else 1) = (jc 4 i).toInt
        rw [hj4 i hi]; rfl
    · have e0 : a.toInt = 0 := by
        have := mt i32_lt.mpr h0
        rw [i32_z] at this
        omega
      refine Or.inr ⟨fun j hj => ?_, if_neg (fun z => h0 z.1)⟩
      show (jc 4 j).toInt = _
      have := zs_nn (t := zah f ni c j) ni (fun i hi => zah_nn hw hi)
      rw [hj4 j hj, i32_z, zcl_lo (by omega)]
  | succ k ih =>
    intro hk
    rcases ih (by omega) with h | ⟨h1, h2⟩
    · exact cS1_go hn hw hj3 h
    · show cGo f ni c a (cS1 ni f jc _).1 (cS1 ni f jc _).2 (k + 1) ∨ (cFin f ni c a (cS1 ni f jc _).1 ∧ cS1 ni f jc (cS1 ni f jc _) = cS1 ni f jc _)
      rw [h2]
      exact Or.inr ⟨h1, h2⟩
/-- what stays over: all weights are full -/
theorem cSh_stop (hn : ni ≤ 24) (hw : ∀ j, 0 ≤ zw ni f c j) (hj3 : ∀ j, j < ni → (jc 3 j).toInt = zw ni f c j) (hj4 : ∀ j, j < ni → jc 4 j = 0) (ha : 0 ≤ a.toInt) (hr : 0 < (cSh ni f jc a ni).2.toInt) : ∀ j, j < ni → ((cSh ni f jc a ni).1 j).toInt = zw ni f c j := by
  have hs := cSh_sum (f := f) (jc := jc) (a := a) hn (fun j hj => by rw [hj3 j hj]; exact hw j) hj4 ha ni
  rcases cSh_inv hn hw hj3 hj4 ha ni (Nat.le_refl _) with h | ⟨h1, h2⟩
  · intro j hj
    rcases h.2.1 j hj with hp | hp
    · have h5 := h.2.2.2.2
      have key : zs (fun i => (if (cSh ni f jc a ni).1 i = 0 then (0 : Int) else 1) + (if i = j then 1 else 0)) ni ≤ ni * 1 := by
        refine zs_bd ni fun i hi => ?_
        by_cases e : i = j
        · subst e
          show (if (cSh ni f jc a ni).1 i = 0 then (0 : Int) else 1) + (if i = i then 1 else 0) ≤ 1
          rw [if_pos hp, if_pos rfl]
          omega
        · show (if (cSh ni f jc a ni).1 i = 0 then (0 : Int) else 1) + (if i = j then 1 else 0) ≤ 1
          rw [if_neg e]
          split <;> omega
      rw [zs_add, zs_one ni hj, h5] at key
      omega
    · exact hp.1
  · generalize cSh ni f jc a ni = s at hs h1 h2 hr
    obtain ⟨P, r⟩ := s
    have hr' : 0 < r := i32_lt.mpr (by rw [i32_z]; exact hr)
    have hall : ∀ i, i < ni → ¬ (0 < jc 3 i ∧ P i = 0) := by
      rcases cold_spec (f := f) (jc := fup jc 4 P) ni hn with ⟨g1, g2⟩ | ⟨j, hj, g1, g2, g3, g4⟩
      · exact g2
      · have hjn : ¬ (cold f (fup jc 4 P) ni).1 < 0 := by
          rw [g1]
          exact Int32.not_lt.mpr ((xle (a := 0) (by omega) (by omega)).mpr (Nat.zero_le j))
        have hjc : (cold f (fup jc 4 P) ni).1.toNatClampNeg = j := by rw [g1, nI_clamp (by omega)]
        have e : cS1 ni f jc (P, r) = (upd P j (cmn (jc 3 j) r), r - cmn (jc 3 j) r) := by
          unfold cS1
          rw [if_pos ⟨hr', hjn⟩, hjc]
        rw [e] at h2
        have e1 := congrFun (congrArg Prod.fst h2) j
        have e2 : upd P j (cmn (jc 3 j) r) j = P j := e1
        have hpj : P j = 0 := g3.2
        have hw0 : 0 < jc 3 j := g3.1
        rw [xupd_i, hpj] at e2
        unfold cmn at e2
        exfalso
        by_cases q : r < jc 3 j
        · rw [if_pos q] at e2
          rw [e2] at hr'
          exact absurd hr' (by decide)
        · rw [if_neg q] at e2
          rw [e2] at hw0
          exact absurd hw0 (by decide)
    have hPn : ∀ i, i < ni → 0 ≤ (P i).toInt := fun i hi => (hs.2.2 i hi).1
    have hsum : zs (fun i => (P i).toInt) ni + r.toInt = a.toInt := hs.2.1
    have hrr : 0 < r.toInt := hr
    intro j hj
    show (P j).toInt = _
    have hf := h1 j hj
    have hf' : (P j).toInt = zcl (a.toInt - zs (zah f ni c j) ni) (zw ni f c j) := hf
    by_cases hwj : 0 < zw ni f c j
    · have hpj : ¬ P j = 0 := fun z => hall j hj ⟨i32_lt.mpr (by rw [hj3 j hj, i32_z]; exact hwj), z⟩
      by_cases hx : a.toInt - zs (zah f ni c j) ni < zw ni f c j
      · exfalso
        have hx0 : 0 < a.toInt - zs (zah f ni c j) ni := by
          refine Int.not_le.mp fun z => ?_
          rw [zcl_lo z] at hf'
          exact hpj (i32_inj hf')
        have hpe : (P j).toInt = a.toInt - zs (zah f ni c j) ni := by
          rw [hf']
          unfold zcl
          rw [if_neg (by omega), if_pos hx]
        have key : zs (fun i => zah f ni c j i + (if i = j then a.toInt - zs (zah f ni c j) ni else 0)) ni ≤ zs (fun i => (P i).toInt) ni := by
          refine zs_le ni fun i hi => ?_
          by_cases e : i = j
          · rw [e]
            show zah f ni c j j + (if j = j then _ else _) ≤ (P j).toInt
            rw [zah_f ahd_irr, if_pos rfl, hpe]
            omega
          · show zah f ni c j i + (if i = j then _ else _) ≤ (P i).toInt
            rw [if_neg e]
            have hpi := hPn i hi
            by_cases q : ahd f i j
            · rw [zah_t hi q]
              have key2 : zs (fun u => zah f ni c i u + (if u = i then zw ni f c i else 0)) ni ≤ zs (zah f ni c j) ni := by
                refine zs_le ni fun u hu => ?_
                by_cases e' : u = i
                · rw [e']
                  show zah f ni c i i + (if i = i then _ else _) ≤ _
                  rw [zah_f ahd_irr, if_pos rfl, zah_t hi q]
                  omega
                · show zah f ni c i u + (if u = i then _ else _) ≤ _
                  rw [if_neg e']
                  by_cases q5 : ahd f u i
                  · rw [zah_t hu q5, zah_t hu (ahd_tr q5 q)]
                    omega
                  · rw [zah_f q5]
                    have := zah_nn hw (j := j) hu
                    omega
              rw [zs_add, zs_one ni hi] at key2
              have hfi : (P i).toInt = zcl (a.toInt - zs (zah f ni c i) ni) (zw ni f c i) := h1 i hi
              rw [hfi, zcl_hi (hw i) (by omega)]
              omega
            · rw [zah_f q]
              omega
        rw [zs_add, zs_one ni hj] at key
        omega
      · rw [hf', zcl_hi (hw j) (by omega)]
    · have e0 : zw ni f c j = 0 := by have := hw j; omega
      rw [hf', e0]
      unfold zcl
      split
      · rfl
      · split <;> omega
end JSTOP
section JAR
variable {n : Nat → Int32} {f : Nat → Nat → Int32} {g : Nat → Nat → Int64} {nc ni np nl q t p w : Nat}
/-- the reference's parts: bounds, sum, and what stays over -/
theorem mSh_z {a : Int32} (hn : ni ≤ 24) (hw : ∀ j, 0 ≤ zw ni f (nI w) j) (ha : 0 ≤ a.toInt) : (∀ j, j < ni → 0 ≤ (mShf ni w a f g 25 j).toInt ∧ (mShf ni w a f g 25 j).toInt ≤ zw ni f (nI w) j) ∧ zs (fun j => (mShf ni w a f g 25 j).toInt) ni ≤ a.toInt ∧ (zs (fun j => (mShf ni w a f g 25 j).toInt) ni < a.toInt → (∀ j, j < ni → mShf ni w a f g 25 j = 0) ∨ ∀ j, j < ni → (mShf ni w a f g 25 j).toInt = zw ni f (nI w) j) := by
  obtain ⟨h1, h2⟩ := cPJ_z (f := f) (jc := fun _ _ => 0) (jr := fun _ => 0) (g := g) (w := w) (a := a) hn hw ha
  have e : zs (fun j => (mShf ni w a f g 25 j).toInt) ni = zs (fun j => ((cPJ ni f (fun _ _ => 0) (fun _ => 0) w a).1 4 j).toInt) ni := zs_congr ni fun i hi => by rw [(h1 i hi).1]
  refine ⟨fun j hj => by rw [← (h1 j hj).1]; exact (h1 j hj).2, by rw [e]; exact h2, fun hlt => ?_⟩
  rw [e] at hlt
  have hT0 := zs_nn (t := zw ni f (nI w)) ni (fun i _ => hw i)
  have hJ3 : ∀ j, j < ni → (xWJ f (nI w) (fun _ _ => 0) ni 3 j).toInt = zw ni f (nI w) j := fun j hj => xWJ_z hn (by omega)
  have hJ4 : ∀ j, j < ni → xWJ f (nI w) (fun _ _ => 0) ni 4 j = 0 := fun j hj => xWJ_4 (by omega)
  by_cases c0 : f 6 w = 0
  · have ec : (cPJ ni f (fun _ _ => 0) (fun _ => 0) w a).1 4 = (cSh ni f (xWJ f (nI w) (fun _ _ => 0) ni) a ni).1 := by
      unfold cPJ
      rw [if_pos c0]; rfl
    refine Or.inr fun j hj => ?_
    rw [← (h1 j hj).1, ec]
    rw [ec] at hlt
    have hs := cSh_sum (f := f) (jc := xWJ f (nI w) (fun _ _ => 0) ni) (a := a) hn (fun j hj => by rw [hJ3 j hj]; exact hw j) hJ4 ha ni
    exact cSh_stop hn hw hJ3 hJ4 ha (by have := hs.2.1; omega) j hj
  · by_cases c1 : f 6 w = 1
    · refine Or.inr fun j hj => ?_
      have hT := xall_z (f := f) (c := nI w) hn
      have hg := xgets_z (a := a) (T := xall f (nI w) ni) ha (by omega)
      have hg2 : 0 ≤ (xgets a (xall f (nI w) ni)).toInt ∧ (xgets a (xall f (nI w) ni)).toInt ≤ zs (zw ni f (nI w)) ni := by
        rw [hg]
        split <;> omega
      have ec : (cPJ ni f (fun _ _ => 0) (fun _ => 0) w a).1 4 = (cspl (xWJ f (nI w) (fun _ _ => 0) ni) (fun _ => 0) (xgets a (xall f (nI w) ni))).1 := by
        unfold cPJ
        rw [if_neg c0, if_pos c1, xwl_all hn]; rfl
      obtain ⟨g1, g2⟩ := cspl_z (f := f) (jc := fun _ _ => 0) (g := g) (jr := fun _ => 0) (c := nI w) (a := xgets a (xall f (nI w) ni)) hn hw hg2.1 hg2.2
      rw [← (h1 j hj).1, ec]
      rw [ec, g2, hg] at hlt
      have ha2 : zs (fun j => ((cspl (xWJ f (nI w) (fun _ _ => 0) ni) (fun _ => 0) (xgets a (xall f (nI w) ni))).1 j).toInt) ni = zs (zw ni f (nI w)) ni := by
        rw [g2, hg, if_neg (by intro z; rw [if_pos z] at hlt; omega), hT.1]
      have key : zs (fun i => ((cspl (xWJ f (nI w) (fun _ _ => 0) ni) (fun _ => 0) (xgets a (xall f (nI w) ni))).1 i).toInt + (if i = j then zw ni f (nI w) j - ((cspl (xWJ f (nI w) (fun _ _ => 0) ni) (fun _ => 0) (xgets a (xall f (nI w) ni))).1 j).toInt else 0)) ni ≤ zs (zw ni f (nI w)) ni := by
        refine zs_le ni fun i hi => ?_
        by_cases e : i = j
        · rw [e]
          show _ + (if j = j then _ else _) ≤ _
          rw [if_pos rfl]
          omega
        · show _ + (if i = j then _ else _) ≤ _
          rw [if_neg e]
          have := (g1 i hi).2.2
          omega
      rw [zs_add, zs_one ni hj, ha2] at key
      have := (g1 j hj).2.2
      omega
    · refine Or.inl fun j hj => ?_
      rw [← (h1 j hj).1]
      unfold cPJ
      rw [if_neg c0, if_neg c1]
      exact hJ4 j hj
/-- the first k moves -/
theorem mAS_G {P : Nat → Int32} {F : Nat → Nat → Int32} (hG : JG nc ni np t F g) (hn : ni ≤ 24) (hp : p < np) (hP : ∀ j, j < ni → 0 ≤ (P j).toInt ∧ (P j).toInt ≤ zw ni F (nI w) j) (hS : zs (fun j => (P j).toInt) ni ≤ (F 20 p).toInt) : ∀ k, k ≤ ni → JG nc ni np t (mAS p P nl n F k).2.2 g ∧ ((mAS p P nl n F k).2.2 20 p).toInt = (F 20 p).toInt - zs (fun j => (P j).toInt) k ∧ (∀ j, k ≤ j → (mAS p P nl n F k).2.2 13 j = F 13 j ∧ (mAS p P nl n F k).2.2 14 j = F 14 j) ∧ (∀ x, x ≠ p → (mAS p P nl n F k).2.2 20 x = F 20 x) ∧ (∀ j, j < k → ((mAS p P nl n F k).2.2 13 j).toInt = (F 13 j).toInt - (P j).toInt ∧ (mAS p P nl n F k).2.2 14 j = F 14 j) := by
  intro k
  induction k with
  | zero => intro _; exact ⟨hG, by show _ = _ - 0; rw [Int.sub_zero]; rfl, fun _ _ => ⟨rfl, rfl⟩, fun _ _ => rfl, fun j hj => absurd hj (Nat.not_lt_zero j)⟩
  | succ k ih =>
    intro hk
    obtain ⟨h1, h2, h3, h4, h5⟩ := ih (by omega)
    have hPk := hP k (by omega)
    have hmono : zs (fun j => (P j).toInt) (k + 1) ≤ zs (fun j => (P j).toInt) ni := zs_mono ni hk (fun i hi => (hP i hi).1)
    rw [zs_s] at hmono ⊢
    by_cases hs : 0 < P k
    · have hs' := i32_lt.mp hs
      rw [i32_z] at hs'
      rw [mAS_t hs]
      have e3 := h3 k (Nat.le_refl k)
      have hzw : zw ni F (nI w) k = (F 13 k - F 14 k).toInt := by
        unfold zw
        split
        · rfl
        · rename_i z
          have := hPk.2
          unfold zw at this
          rw [if_neg z] at this
          omega
      have hm := hG.2.2.2.1.1 k (by omega)
      have hr := i32_rng (F 13 k)
      rw [i32_sub (by omega) (by omega)] at hzw
      obtain ⟨g1, g2, g3⟩ := JG_pay (nl := (mAS p P nl n F k).1) (i := k) (a := P k) h1 hn hp (by omega) hs' (by rw [h2]; omega) (by rw [e3.1]; omega)
      have e20 : mPf (mAS p P nl n F k).1 p k (P k) (mAS p P nl n F k).2.2 20 = upd ((mAS p P nl n F k).2.2 20) p ((mAS p P nl n F k).2.2 20 p - P k) := mPf_r20
      have e13 : mPf (mAS p P nl n F k).1 p k (P k) (mAS p P nl n F k).2.2 13 = upd ((mAS p P nl n F k).2.2 13) k ((mAS p P nl n F k).2.2 13 k - P k) := mPf_r13
      have e14 : mPf (mAS p P nl n F k).1 p k (P k) (mAS p P nl n F k).2.2 14 = upd ((mAS p P nl n F k).2.2 14) k (if (mAS p P nl n F k).2.2 13 k - P k < (mAS p P nl n F k).2.2 14 k then (mAS p P nl n F k).2.2 13 k - P k else (mAS p P nl n F k).2.2 14 k) := mPf_14
      have er : ((mAS p P nl n F k).2.2 13 k - P k).toInt = (F 13 k).toInt - (P k).toInt := by
        rw [e3.1]
        exact i32_sub (by omega) (by omega)
      have hlt : ¬ (mAS p P nl n F k).2.2 13 k - P k < (mAS p P nl n F k).2.2 14 k := fun z => by
        have := i32_lt.mp z
        rw [er, e3.2] at this
        omega
      refine ⟨g1, ?_, fun j hj => ⟨?_, ?_⟩, fun x hx => ?_, fun j hj => ⟨?_, ?_⟩⟩
      · show (mPf _ p k (P k) _ 20 p).toInt = _
        have hr20 := i32_rng (F 20 p)
        have hz0 := zs_nn (t := fun j => (P j).toInt) k (fun i hi => (hP i (by omega)).1)
        rw [e20, xupd_i, i32_sub (by omega) (by omega), h2]
        omega
      · show mPf _ p k (P k) _ 13 j = _
        rw [e13, xud (by omega)]; exact (h3 j (by omega)).1
      · show mPf _ p k (P k) _ 14 j = _
        rw [e14, xud (by omega)]; exact (h3 j (by omega)).2
      · show mPf _ p k (P k) _ 20 x = _
        rw [e20, xud hx]; exact h4 x hx
      · show (mPf _ p k (P k) _ 13 j).toInt = _
        rw [e13]
        by_cases e : j = k
        · rw [e, xupd_i, er]
        · rw [xud e]; exact (h5 j (by omega)).1
      · show mPf _ p k (P k) _ 14 j = _
        rw [e14]
        by_cases e : j = k
        · rw [e, xupd_i, if_neg hlt]; exact e3.2
        · rw [xud e]; exact (h5 j (by omega)).2
    · have h0 : (P k).toInt = 0 := by
        have := mt i32_lt.mpr hs
        rw [i32_z] at this
        omega
      rw [mAS_f hs]
      refine ⟨h1, by rw [h2, h0]; omega, fun j hj => h3 j (by omega), h4, fun j hj => ?_⟩
      by_cases e : j = k
      · rw [e, h0, (h3 k (Nat.le_refl k)).1, Int.sub_zero]
        exact ⟨rfl, (h3 k (Nat.le_refl k)).2⟩
      · exact h5 j (by omega)
theorem mAS_0 {P : Nat → Int32} {F : Nat → Nat → Int32} : ∀ k, (∀ j, j < k → P j = 0) → mAS p P nl n F k = (nl, n, F) := by
  intro k
  induction k with
  | zero => intro _; rfl
  | succ k ih =>
    intro h
    rw [mAS_f (by rw [h k (by omega)]; decide), ih (fun j hj => h j (by omega))]
theorem JAR (hG : JG nc ni np t f g) (hn : ni ≤ 24) (hp : p < np) : JG nc ni np t (mAR ni nl p w n f g).2.2.2.1 (mAR ni nl p w n f g).2.2.2.2 ∧ ((((mAR ni nl p w n f g).2.1 : Nat) : Int) + 24 * zc (mAR ni nl p w n f g).2.2.2.1 np ≤ nl + 24 * zc f np ∨ ((((mAR ni nl p w n f g).2.1 : Nat) : Int) + 24 * zc (mAR ni nl p w n f g).2.2.2.1 np ≤ nl + 24 * zc f np + 24 ∧ ∀ j, j < ni → zw ni (mAR ni nl p w n f g).2.2.2.1 (nI w) j = 0)) ∧ ((∀ j, j < ni → zw ni f (nI w) j = 0) → (mAR ni nl p w n f g).2.1 = nl ∧ zc (mAR ni nl p w n f g).2.2.2.1 np = zc f np ∧ ∀ j, j < ni → zw ni (mAR ni nl p w n f g).2.2.2.1 (nI w) j = 0) ∧ (∀ x, x ≠ p → (mAR ni nl p w n f g).2.2.2.1 20 x = f 20 x) := by
  have hw := JG_W hG (nI w)
  have ha := hG.2.2.2.1.2.2.1 p hp
  have hle := mAR_le (ni := ni) (nl := nl) (p := p) (w := w) (n := n) (f := f) (g := g)
  by_cases h0 : 0 < f 20 p
  · have h0' := i32_lt.mp h0
    rw [i32_z] at h0'
    obtain ⟨z1, z2, z3⟩ := mSh_z (g := g) (a := f 20 p) hn hw ha.1
    have eF : mAsh ni p w f g = fup f 25 (mShf ni w (f 20 p) f g 25) := mShf_25
    generalize hPd : mShf ni w (f 20 p) f g 25 = P at *
    have eA : mAst ni nl p w n f g ni = mAS p P nl n (fup f 25 P) ni := by
      unfold mAst
      rw [eF]; rfl
    have hGF : JG nc ni np t (fup f 25 P) g := JG_c hG rfl rfl rfl rfl rfl rfl rfl rfl rfl rfl rfl rfl rfl rfl
    obtain ⟨g1, g2, g3, g4, g5⟩ := mAS_G (n := n) (nl := nl) (w := w) hGF hn hp z1 z2 ni (Nat.le_refl _)
    have e15 : mShg ni w (f 20 p) f g 15 = g 15 := by
      unfold mShg
      split <;> rfl
    have eM : (mAR ni nl p w n f g).2 = ((mAS p P nl n (fup f 25 P) ni).1, (mAS p P nl n (fup f 25 P) ni).2.1, (mAS p P nl n (fup f 25 P) ni).2.2, mShg ni w (f 20 p) f g) := by
      unfold mAR
      rw [if_pos h0, eA]
    rw [eM] at hle ⊢
    show JG nc ni np t (mAS p P nl n (fup f 25 P) ni).2.2 (mShg ni w (f 20 p) f g) ∧ ((((mAS p P nl n (fup f 25 P) ni).1 : Nat) : Int) + 24 * zc (mAS p P nl n (fup f 25 P) ni).2.2 np ≤ nl + 24 * zc f np ∨ ((((mAS p P nl n (fup f 25 P) ni).1 : Nat) : Int) + 24 * zc (mAS p P nl n (fup f 25 P) ni).2.2 np ≤ nl + 24 * zc f np + 24 ∧ ∀ j, j < ni → zw ni (mAS p P nl n (fup f 25 P) ni).2.2 (nI w) j = 0)) ∧ ((∀ j, j < ni → zw ni f (nI w) j = 0) → (mAS p P nl n (fup f 25 P) ni).1 = nl ∧ zc (mAS p P nl n (fup f 25 P) ni).2.2 np = zc f np ∧ ∀ j, j < ni → zw ni (mAS p P nl n (fup f 25 P) ni).2.2 (nI w) j = 0) ∧ (∀ x, x ≠ p → (mAS p P nl n (fup f 25 P) ni).2.2 20 x = f 20 x)
    have hle1 : nl ≤ (mAS p P nl n (fup f 25 P) ni).1 ∧ (mAS p P nl n (fup f 25 P) ni).1 ≤ nl + ni := hle
    have e20 : (mAS p P nl n (fup f 25 P) ni).2.2 20 = upd (f 20) p ((mAS p P nl n (fup f 25 P) ni).2.2 20 p) := by
      funext x
      by_cases e : x = p
      · rw [e, xupd_i]
      · rw [xud e]; exact g4 x e
    have hne : ¬ f 20 p = 0 := fun z => by rw [z, i32_z] at h0'; omega
    have hzu := zc_up (np := np) e20
    refine ⟨JG_c g1 rfl rfl rfl rfl rfl rfl rfl rfl rfl rfl rfl rfl rfl e15, ?_, fun hz => ?_, g4⟩
    · by_cases hb : (mAS p P nl n (fup f 25 P) ni).2.2 20 p = 0
      · have := hzu.2.2.1 hb hne hp
        exact Or.inl (by omega)
      · have hlt : zs (fun j => (P j).toInt) ni < (f 20 p).toInt := by
          have : ((mAS p P nl n (fup f 25 P) ni).2.2 20 p).toInt ≠ 0 := fun z => hb (i32_inj z)
          have g2' : ((mAS p P nl n (fup f 25 P) ni).2.2 20 p).toInt = (f 20 p).toInt - zs (fun j => (P j).toInt) ni := g2
          omega
        have hz4 := hzu.2.2.2 hne
        rcases z3 hlt with y | y
        · rw [mAS_0 ni y]
          exact Or.inl (Int.le_refl _)
        · refine Or.inr ⟨by omega, fun j hj => ?_⟩
          have y1 := y j hj
          obtain ⟨k1, k2⟩ := g5 j hj
          have e10 : (mAS p P nl n (fup f 25 P) ni).2.2 10 = f 10 := mAS_o (by decide) ni
          unfold zw at y1 ⊢
          rw [e10]
          split
          · rename_i c
            rw [if_pos c] at y1
            have hm := hG.2.2.2.1.1 j hj
            have hr := i32_rng (f 13 j)
            rw [i32_sub (by omega) (by omega)] at y1
            have k1' : ((mAS p P nl n (fup f 25 P) ni).2.2 13 j).toInt = (f 13 j).toInt - (P j).toInt := k1
            have k2' : (mAS p P nl n (fup f 25 P) ni).2.2 14 j = f 14 j := k2
            rw [i32_sub (by rw [k1', k2']; omega) (by rw [k1', k2']; omega), k1', k2']
            omega
          · rfl
    · have hP0 : ∀ j, j < ni → P j = 0 := fun j hj => by
        have := z1 j hj
        rw [hz j hj] at this
        exact i32_inj (by rw [i32_z]; omega)
      rw [mAS_0 ni hP0]
      exact ⟨rfl, rfl, hz⟩
  · have eM : (mAR ni nl p w n f g).2 = (nl, n, f, g) := by
      unfold mAR
      rw [if_neg h0]
    rw [eM]
    exact ⟨hG, Or.inl (Int.le_refl _), fun hz => ⟨rfl, rfl, hz⟩, fun _ _ => rfl⟩
end JAR
