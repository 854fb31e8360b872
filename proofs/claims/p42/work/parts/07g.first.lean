/-! oldest first: the class's filling is the reference's formula -/
def ahd (f : Nat → Nat → Int32) (i j : Nat) : Prop := f 12 i < f 12 j ∨ f 12 i = f 12 j ∧ i < j
theorem ahd_irr {f : Nat → Nat → Int32} {i : Nat} : ¬ ahd f i i := fun z => z.elim (fun y => by have := i32_lt.mp y; omega) (fun y => absurd y.2 (Nat.lt_irrefl i))
theorem ahd_asym {f : Nat → Nat → Int32} {i j : Nat} (h : ahd f i j) : ¬ ahd f j i := by
  intro h2
  rcases h with h | ⟨h, h'⟩ <;> rcases h2 with k | ⟨k, k'⟩
  · have := i32_lt.mp h; have := i32_lt.mp k; omega
  · have := i32_lt.mp h; rw [k] at this; omega
  · have := i32_lt.mp k; rw [h] at this; omega
  · omega
theorem ahd_tot {f : Nat → Nat → Int32} {i j : Nat} (h : i ≠ j) : ahd f i j ∨ ahd f j i := by
  rcases Int.lt_trichotomy (f 12 i).toInt (f 12 j).toInt with k | k | k
  · exact Or.inl (Or.inl (i32_lt.mpr k))
  · have e : f 12 i = f 12 j := i32_inj k
    rcases Nat.lt_or_gt_of_ne h with q | q
    · exact Or.inl (Or.inr ⟨e, q⟩)
    · exact Or.inr (Or.inr ⟨e.symm, q⟩)
  · exact Or.inr (Or.inl (i32_lt.mpr k))
theorem ahd_tr {f : Nat → Nat → Int32} {i j k : Nat} (h : ahd f i j) (h2 : ahd f j k) : ahd f i k := by
  rcases h with h | ⟨h, h'⟩ <;> rcases h2 with q | ⟨q, q'⟩
  · exact Or.inl (i32_lt.mpr (by have := i32_lt.mp h; have := i32_lt.mp q; omega))
  · exact Or.inl (by rw [← q]; exact h)
  · exact Or.inl (by rw [h]; exact q)
  · exact Or.inr ⟨h.trans q, by omega⟩
/-- what the class's search finds -/
theorem cold_spec {f : Nat → Nat → Int32} {jc : Nat → Nat → Int32} : ∀ k, k ≤ 24 → ((cold f jc k).1 = -1 ∧ ∀ i, i < k → ¬ (0 < jc 3 i ∧ jc 4 i = 0)) ∨ ∃ j, j < k ∧ (cold f jc k).1 = nI j ∧ (cold f jc k).2 = f 12 j ∧ (0 < jc 3 j ∧ jc 4 j = 0) ∧ ∀ i, i < k → 0 < jc 3 i ∧ jc 4 i = 0 → ¬ ahd f i j := by
  intro k
  induction k with
  | zero => intro _; exact Or.inl ⟨rfl, fun i hi => absurd hi (Nat.not_lt_zero i)⟩
  | succ k ih =>
    intro hk
    rw [cold_s]
    rcases ih (by omega) with ⟨h1, h2⟩ | ⟨j, hj, h1, h2, h3, h4⟩
    · by_cases hw : 0 < jc 3 k ∧ jc 4 k = 0
      · rw [if_pos ⟨hw, Or.inl (by rw [h1]; decide)⟩]
        refine Or.inr ⟨k, by omega, rfl, rfl, hw, fun i hi hz => ?_⟩
        by_cases e : i = k
        · rw [e]; exact ahd_irr
        · exact absurd hz (h2 i (by omega))
      · rw [if_neg (fun z => hw z.1)]
        refine Or.inl ⟨h1, fun i hi => ?_⟩
        by_cases e : i = k
        · rw [e]; exact hw
        · exact h2 i (by omega)
    · have hn : ¬ (cold f jc k).1 < 0 := by
        rw [h1]
        exact Int32.not_lt.mpr ((xle (a := 0) (by omega) (by omega)).mpr (Nat.zero_le j))
      by_cases hw : (0 < jc 3 k ∧ jc 4 k = 0) ∧ f 12 k < f 12 j
      · rw [if_pos ⟨hw.1, Or.inr (by rw [h2]; exact hw.2)⟩]
        refine Or.inr ⟨k, by omega, rfl, rfl, hw.1, fun i hi hz => ?_⟩
        by_cases e : i = k
        · rw [e]; exact ahd_irr
        · have h5 := h4 i (by omega) hz
          have hkj : ahd f k j := Or.inl hw.2
          exact fun z => h5 (ahd_tr z hkj)
      · rw [if_neg (fun z => z.2.elim hn (fun q => hw ⟨z.1, by rw [← h2]; exact q⟩))]
        refine Or.inr ⟨j, by omega, h1, h2, h3, fun i hi hz => ?_⟩
        by_cases e : i = k
        · subst e
          intro q
          rcases q with q | ⟨q, q'⟩
          · exact hw ⟨hz, q⟩
          · omega
        · exact h4 i (by omega) hz
/-- a part between nothing and the weight -/
def zcl (x w : Int) : Int := if x ≤ 0 then 0 else if x < w then x else w
theorem zcl_hi {x w : Int} (hw : 0 ≤ w) (h : w ≤ x) : zcl x w = w := by
  unfold zcl
  split
  · omega
  · split <;> omega
theorem zcl_lo {x w : Int} (h : x ≤ 0) : zcl x w = 0 := if_pos h
/-- the weight, and what is ahead -/
def zw (ni : Nat) (f : Nat → Nat → Int32) (c : Int32) (j : Nat) : Int := if j < ni ∧ f 10 j = c then (f 13 j - f 14 j).toInt else 0
def zah (f : Nat → Nat → Int32) (ni : Nat) (c : Int32) (w j : Nat) : Int := (xahd f c w j).toInt
theorem zah_t {f : Nat → Nat → Int32} {ni : Nat} {c : Int32} {w j : Nat} (hj : j < ni) (h : ahd f j w) : zah f ni c w j = zw ni f c j := by
  unfold zah xahd zw
  by_cases h1 : f 10 j = c
  · rw [if_pos ⟨h1, h⟩, if_pos ⟨hj, h1⟩, Int32.toInt_toInt64]
  · rw [if_neg (fun z => h1 z.1), if_neg (fun z => h1 z.2)]; rfl
theorem zah_f {f : Nat → Nat → Int32} {ni : Nat} {c : Int32} {w j : Nat} (h : ¬ ahd f j w) : zah f ni c w j = 0 := by
  unfold zah xahd
  rw [if_neg (fun z => h z.2)]; rfl
section XOF
variable {f jc : Nat → Nat → Int32} {ni : Nat} {c a : Int32}
/-- how the filling stands: still going, or over -/
def cFin (f : Nat → Nat → Int32) (ni : Nat) (c a : Int32) (P : Nat → Int32) : Prop := ∀ j, j < ni → (P j).toInt = zcl (a.toInt - zs (zah f ni c j) ni) (zw ni f c j)
def cGo (f : Nat → Nat → Int32) (ni : Nat) (c a : Int32) (P : Nat → Int32) (r : Int32) (k : Nat) : Prop := 0 < r ∧ (∀ j, j < ni → P j = 0 ∨ ((P j).toInt = zw ni f c j ∧ 0 < zw ni f c j)) ∧ (∀ i j, i < ni → j < ni → ¬ P j = 0 → 0 < zw ni f c i → ahd f i j → ¬ P i = 0) ∧ r.toInt = a.toInt - zs (fun j => (P j).toInt) ni ∧ zs (fun j => if P j = 0 then 0 else 1) ni = (k : Int)
theorem cGo_nn {P : Nat → Int32} {r : Int32} {k : Nat} (h : cGo f ni c a P r k) {j : Nat} (hj : j < ni) : 0 ≤ (P j).toInt := by
  rcases h.2.1 j hj with e | ⟨e, e2⟩
  · rw [e]; exact Int.le_refl _
  · omega
/-- what has its part has all of it -/
theorem cGo_in {P : Nat → Int32} {r : Int32} {k : Nat} (h : cGo f ni c a P r k) (hw : ∀ j, 0 ≤ zw ni f c j) {j : Nat} (hj : j < ni) (hp : ¬ P j = 0) : (P j).toInt = zcl (a.toInt - zs (zah f ni c j) ni) (zw ni f c j) := by
  obtain ⟨h1, h2, h3, h4, h5⟩ := id h
  obtain ⟨e1, e2⟩ := (h2 j hj).resolve_left hp
  have key : zs (fun i => zah f ni c j i + (if i = j then zw ni f c j else 0)) ni ≤ zs (fun i => (P i).toInt) ni := by
    refine zs_le ni fun i hi => ?_
    by_cases e : i = j
    · subst e
      show zah f ni c i i + (if i = i then _ else _) ≤ _
      rw [zah_f ahd_irr, if_pos rfl, e1]
      omega
    · show zah f ni c j i + (if i = j then _ else _) ≤ _
      rw [if_neg e]
      by_cases q : ahd f i j
      · rw [zah_t hi q]
        by_cases q2 : 0 < zw ni f c i
        · obtain ⟨g1, g2⟩ := (h2 i hi).resolve_left (h3 i j hi hj hp q2 q)
          omega
        · have := cGo_nn h hi
          omega
      · rw [zah_f q]
        have := cGo_nn h hi
        omega
  rw [zs_add, zs_one ni hj] at key
  have h6 := i32_lt.mp h1
  rw [i32_z] at h6
  rw [zcl_hi (hw j) (by omega), e1]
/-- what is ahead of the next one is what is filled -/
theorem cGo_nx {P : Nat → Int32} {r : Int32} {k : Nat} (h : cGo f ni c a P r k) (hw : ∀ j, 0 ≤ zw ni f c j) {j : Nat} (hj : j < ni) (hp : P j = 0) (hm : ∀ i, i < ni → 0 < zw ni f c i → P i = 0 → ¬ ahd f i j) (hwj : 0 < zw ni f c j) : zs (zah f ni c j) ni = zs (fun i => (P i).toInt) ni := by
  obtain ⟨h1, h2, h3, h4, h5⟩ := id h
  refine zs_congr ni fun i hi => ?_
  rcases h2 i hi with e | ⟨e1, e2⟩
  · rw [e, i32_z]
    by_cases q : ahd f i j
    · rw [zah_t hi q]
      by_cases q2 : 0 < zw ni f c i
      · exact absurd q (hm i hi q2 e)
      · have := hw i
        omega
    · exact zah_f q
  · have hpi : ¬ P i = 0 := fun z => by rw [z, i32_z] at e1; omega
    have q : ahd f i j := by
      have hne : i ≠ j := fun z => hpi (by rw [z]; exact hp)
      exact (ahd_tot hne).resolve_right (fun z => h3 j i hj hi hpi hwj z hp)
    rw [zah_t hi q, e1]
theorem zw_0 {j : Nat} (h : ni ≤ j) : zw ni f c j = 0 := if_neg (fun z => absurd z.1 (by omega))
/-- a step -/
theorem cS1_go {P : Nat → Int32} {r : Int32} {k : Nat} (hn : ni ≤ 24) (hw : ∀ j, 0 ≤ zw ni f c j) (hj3 : ∀ j, j < ni → (jc 3 j).toInt = zw ni f c j) (h : cGo f ni c a P r k) : cGo f ni c a (cS1 ni f jc (P, r)).1 (cS1 ni f jc (P, r)).2 (k + 1) ∨ (cFin f ni c a (cS1 ni f jc (P, r)).1 ∧ cS1 ni f jc (cS1 ni f jc (P, r)) = cS1 ni f jc (P, r)) := by
  obtain ⟨h1, h2, h3, h4, h5⟩ := id h
  have hr := i32_lt.mp h1
  rw [i32_z] at hr
  have p3 : ∀ j, j < ni → (0 < jc 3 j ↔ 0 < zw ni f c j) := fun j hj => by
    rw [i32_lt, i32_z, hj3 j hj]
  rcases cold_spec (f := f) (jc := fup jc 4 P) ni hn with ⟨g1, g2⟩ | ⟨j, hj, g1, g2, g3, g4⟩
  · have hs : cS1 ni f jc (P, r) = (P, r) := if_neg (fun z => z.2 (by rw [g1]; decide))
    refine Or.inr ⟨?_, by rw [hs]; exact hs⟩
    rw [hs]
    intro j hj
    by_cases hp : P j = 0
    · have : ¬ 0 < zw ni f c j := fun z => g2 j hj ⟨(p3 j hj).mpr z, hp⟩
      have e0 : zw ni f c j = 0 := by have := hw j; omega
      show (P j).toInt = _
      rw [hp, e0, i32_z]
      unfold zcl
      split
      · rfl
      · split <;> omega
    · exact cGo_in h hw hj hp
  · have hjn : ¬ (cold f (fup jc 4 P) ni).1 < 0 := by
      rw [g1]
      exact Int32.not_lt.mpr ((xle (a := 0) (by omega) (by omega)).mpr (Nat.zero_le j))
    have hjc : (cold f (fup jc 4 P) ni).1.toNatClampNeg = j := by rw [g1, nI_clamp (by omega)]
    have hpj : P j = 0 := g3.2
    have hwj : 0 < zw ni f c j := (p3 j hj).mp g3.1
    have hm : ∀ i, i < ni → 0 < zw ni f c i → P i = 0 → ¬ ahd f i j := fun i hi q1 q2 => g4 i hi ⟨(p3 i hi).mpr q1, q2⟩
    have hA := cGo_nx h hw hj hpj hm hwj
    have hs : cS1 ni f jc (P, r) = (upd P j (cmn (jc 3 j) r), r - cmn (jc 3 j) r) := by
      unfold cS1
      rw [if_pos ⟨h1, hjn⟩, hjc]
    rw [hs]
    have e3 := hj3 j hj
    have hup : ∀ i, i ≠ j → upd P j (cmn (jc 3 j) r) i = P i := fun i hi => xud hi
    by_cases hc : r.toInt ≤ zw ni f c j
    · -- it takes all that is left
      have ecm : cmn (jc 3 j) r = r := by
        unfold cmn
        by_cases q : r < jc 3 j
        · rw [if_pos q]
        · rw [if_neg q]
          have q1 := mt i32_lt.mpr q
          exact i32_inj (by omega)
      rw [ecm]
      have e0 : r - r = 0 := Int32.sub_self r
      refine Or.inr ⟨?_, ?_⟩
      · intro i hi
        by_cases e : i = j
        · subst e
          show (upd P i r i).toInt = _
          rw [xupd_i, hA]
          unfold zcl
          rw [if_neg (by omega)]
          split <;> omega
        · show (upd P j r i).toInt = _
          rw [xud e]
          by_cases hp : P i = 0
          · rw [hp, i32_z]
            by_cases hwi : 0 < zw ni f c i
            · -- it comes behind the one that took the rest
              have q : ahd f j i := (ahd_tot e).resolve_left (hm i hi hwi hp)
              have key : zs (fun q => zah f ni c j q + (if q = j then zw ni f c j else 0)) ni ≤ zs (zah f ni c i) ni := by
                refine zs_le ni fun u hu => ?_
                by_cases e' : u = j
                · rw [e']
                  show zah f ni c j j + (if j = j then _ else _) ≤ _
                  rw [zah_f ahd_irr, if_pos rfl, zah_t hj q]
                  omega
                · show zah f ni c j u + (if u = j then _ else _) ≤ _
                  rw [if_neg e']
                  by_cases q5 : ahd f u j
                  · rw [zah_t hu q5, zah_t hu (ahd_tr q5 q)]
                    omega
                  · rw [zah_f q5]
                    by_cases q6 : ahd f u i
                    · rw [zah_t hu q6]
                      have := hw u
                      omega
                    · rw [zah_f q6]
                      omega
              rw [zs_add, zs_one ni hj, hA] at key
              rw [zcl_lo (by omega)]
            · have e7 : zw ni f c i = 0 := by have := hw i; omega
              rw [e7]
              unfold zcl
              split
              · rfl
              · split <;> omega
          · exact cGo_in h hw hi hp
      · show cS1 ni f jc (_, r - r) = (_, r - r)
        rw [e0]
        exact if_neg (fun z => absurd z.1 (show ¬ (0 : Int32) < 0 by decide))
    · have q1 : jc 3 j < r := i32_lt.mpr (by omega)
      have ecm : cmn (jc 3 j) r = jc 3 j := if_neg (fun z => by have := i32_lt.mp z; omega)
      rw [ecm]
      have er : (r - jc 3 j).toInt = r.toInt - (jc 3 j).toInt := by
        have := i32_rng r
        exact i32_sub (by omega) (by omega)
      have hpj' : ¬ upd P j (jc 3 j) j = 0 := by
        rw [xupd_i]
        intro z
        rw [z, i32_z] at e3
        omega
      refine Or.inl ⟨i32_lt.mpr (by rw [i32_z, er]; omega), ?_, ?_, ?_, ?_⟩
      · intro i hi
        by_cases e : i = j
        · subst e
          exact Or.inr ⟨by show (upd P i _ i).toInt = _; rw [xupd_i]; exact e3, hwj⟩
        · show upd P j _ i = 0 ∨ ((upd P j _ i).toInt = _ ∧ _)
          rw [xud e]
          exact h2 i hi
      · intro i i2 hi hi2 hp q5 q6
        show ¬ upd P j _ i = 0
        by_cases e : i = j
        · rw [e]; exact hpj'
        · rw [xud e]
          by_cases e2 : i2 = j
          · subst e2
            exact fun z => hm i hi q5 z q6
          · have hp' : ¬ P i2 = 0 := fun z => hp ((xud e2).trans z)
            exact h3 i i2 hi hi2 hp' q5 q6
      · show (r - jc 3 j).toInt = _
        rw [er, h4, zs_up (t := fun i => (P i).toInt) (s := fun i => (upd P j (jc 3 j) i).toInt) (i := j) (d := (jc 3 j).toInt) ni hj (fun i _ hi => by show (upd P j _ i).toInt = _; rw [xud hi]) (by show (upd P j _ j).toInt = (P j).toInt + _; rw [xupd_i, hpj, i32_z, Int.zero_add])]
        omega
      · rw [zs_up (t := fun i => if P i = 0 then 0 else 1) (s := fun i => if upd P j (jc 3 j) i = 0 then 0 else 1) (i := j) (d := 1) ni hj (fun i _ hi => by show (if upd P j _ i = 0 then (0 : Int) else 1) = _; rw [xud hi]) (by show (if upd P j _ j = 0 then (0 : Int) else 1) = (if P j = 0 then 0 else 1) + 1; rw [if_neg hpj', if_pos hpj]; rfl), h5]
        rfl
/-- the class's parts, in the end -/
theorem cSh_fin (hn : ni ≤ 24) (hw : ∀ j, 0 ≤ zw ni f c j) (hj3 : ∀ j, j < ni → (jc 3 j).toInt = zw ni f c j) (hj4 : ∀ j, j < ni → jc 4 j = 0) (ha : 0 ≤ a.toInt) : cFin f ni c a (cSh ni f jc a ni).1 := by
  have hz : zs (fun j => (jc 4 j).toInt) ni = 0 := by
    rw [zs_congr (s := fun j => if j = ni then (0 : Int) else 0) ni (fun i hi => by show (jc 4 i).toInt = _; rw [hj4 i hi, i32_z, if_neg (by omega)])]
    have := zs_one (i := ni) (x := 0) (ni + 1) (by omega)
    rw [zs_s, if_pos rfl] at this
    omega
  have inv : ∀ k, k ≤ ni → cGo f ni c a (cSh ni f jc a k).1 (cSh ni f jc a k).2 k ∨ (cFin f ni c a (cSh ni f jc a k).1 ∧ cS1 ni f jc (cSh ni f jc a k) = cSh ni f jc a k) := by
    intro k
    induction k with
    | zero =>
      intro _
      by_cases h0 : 0 < a
      · refine Or.inl ⟨h0, fun j hj => Or.inl (hj4 j hj), fun i j _ hj h => absurd (hj4 j hj) h, ?_, ?_⟩
        · show a.toInt = a.toInt - zs (fun j => (jc 4 j).toInt) ni
          rw [hz]; omega
        · show _ = (0 : Int)
          refine Eq.trans (zs_congr (s := fun j => (jc 4 j).toInt) ni fun i hi => ?_) hz
          show (if jc 4 i = 0 then (0 : Int) else 1) = (jc 4 i).toInt
          rw [hj4 i hi]; rfl
      · have e0 : a.toInt = 0 := by
          have := mt i32_lt.mpr h0
          rw [i32_z] at this
          omega
        refine Or.inr ⟨fun j hj => ?_, if_neg (fun z => h0 z.1)⟩
        show (jc 4 j).toInt = _
        have := zs_nn (t := zah f ni c j) ni (fun i hi => by
          by_cases q : ahd f i j
          · rw [zah_t hi q]; exact hw i
          · rw [zah_f q]; exact Int.le_refl _)
        rw [hj4 j hj, i32_z, zcl_lo (by omega)]
    | succ k ih =>
      intro hk
      rcases ih (by omega) with h | ⟨h1, h2⟩
      · exact cS1_go hn hw hj3 h
      · show cGo f ni c a (cS1 ni f jc _).1 (cS1 ni f jc _).2 (k + 1) ∨ (cFin f ni c a (cS1 ni f jc _).1 ∧ cS1 ni f jc (cS1 ni f jc _) = cS1 ni f jc _)
        rw [h2]
        exact Or.inr ⟨h1, h2⟩
  rcases inv ni (Nat.le_refl _) with h | h
  · intro j hj
    refine cGo_in h hw hj fun hp => ?_
    -- all have a part
    have h5 := h.2.2.2.2
    have key : zs (fun i => (if (cSh ni f jc a ni).1 i = 0 then (0 : Int) else 1) + (if i = j then 1 else 0)) ni ≤ ni * 1 := by
      refine zs_bd ni fun i hi => ?_
      by_cases e : i = j
      · subst e
        show (if (cSh ni f jc a ni).1 i = 0 then (0 : Int) else 1) + (if i = i then 1 else 0) ≤ 1
        rw [if_pos hp, if_pos rfl]
        omega
      · show (if (cSh ni f jc a ni).1 i = 0 then (0 : Int) else 1) + (if i = j then 1 else 0) ≤ 1
        rw [if_neg e]
        split <;> omega
    rw [zs_add, zs_one ni hj, h5] at key
    omega
  · exact h.1
end XOF
