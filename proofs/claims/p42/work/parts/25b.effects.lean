/-! what each call of the law does: the others -/
section KEG
variable {nc ni np nl q t p i c : Nat} {n : Nat → Int32} {f f' : Nat → Nat → Int32} {g g' : Nat → Nat → Int64} {O G P M R : Nat → Int32} {a : Int32}
theorem E_charge0 {d : Int32} (h : LSt n f g nc ni np nl q O G P M R) (hq : q ≤ 500) (hc : c < nc) (hd : xokD d) (hs : xsum (xacs f g (nI c)) ni = 0) : o_charge nc ni nl (nI c) d n f g = (-1, nup n 0 0, f, g) ∧ LSt (nup n 0 0) f g nc ni np nl (q + 1) O G P M R := by
  obtain ⟨hJ, hK, hB⟩ := h
  obtain ⟨hI, -, -⟩ := id hJ
  have hxc : xin (nI c) nc := xin_of hc (by have := hI.2.2.2.2.1; omega)
  refine ⟨?_, JI_0 hJ, hK, hB⟩
  unfold o_charge
  rw [if_neg (fun z => z hxc), if_neg (fun z => z hd), hs, if_neg (fun z => absurd z.1 (by decide)), if_pos rfl]
theorem E_charge24 {d : Int32} (h : LSt n f g nc ni np nl q O G P M R) (hc : c < nc) (hd : xokD d) (hs : 0 < xsum (xacs f g (nI c)) ni) (hi : ni = 24) : (o_charge nc ni nl (nI c) d n f g).2.1 0 = 3 := by
  obtain ⟨hJ, hK, hB⟩ := h
  obtain ⟨hI, -, -⟩ := id hJ
  have hxc : xin (nI c) nc := xin_of hc (by have := hI.2.2.2.2.1; omega)
  unfold o_charge
  rw [if_neg (fun z => z hxc), if_neg (fun z => z hd), if_pos ⟨hs, hi⟩]
  rfl
theorem E_charge1 {d : Int32} (h : LSt n f g nc ni np nl q O G P M R) (hq : q ≤ 500) (hc : c < nc) (hd : 0 ≤ d.toInt ∧ d.toInt ≤ 120) (hs : 0 < xsum (xacs f g (nI c)) ni) (hi : ni < 24) : ∃ n' f' g', o_charge nc ni nl (nI c) d n f g = (nI ni, n', f', g') ∧ n' 0 = 0 ∧ n' 1 = n 1 ∧ LSt n' f' g' nc (ni + 1) np (mWl nl (xsum (xacs f g (nI c)) ni)) (q + 1) (upd O ni (nI c)) G P M R ∧ f' 11 ni = xsum (xacs f g (nI c)) ni ∧ f' 16 ni = 1 ∧ xsum (xacs f' g' (nI c)) (ni + 1) = 0 := by
  obtain ⟨hJ, hK, hB⟩ := h
  have hS := S_chargeInterest (w := nI c) (t := d) hJ (by omega)
  obtain ⟨hI, ⟨t, ht, ht2, hG⟩, hL⟩ := id hJ
  obtain ⟨-, -, -, -, b1, b2, b3, b4⟩ := id hI
  have hxc : xin (nI c) nc := xin_of hc (by omega)
  have kD : (120 : Int32).toInt = 120 := rfl
  have hA : xokD d := ⟨i32_le.mpr (by rw [i32_z]; omega), i32_le.mpr (by omega)⟩
  have hbs := xacs_b hG.2.2.2.2 (hB t ht ht2) ht2 b2 (nI c)
  have hs' := i32_lt.mp hs
  rw [i32_z] at hs'
  have hane : ¬ xsum (xacs f g (nI c)) ni = 0 := fun z => by rw [z, i32_z] at hs'; omega
  have hdr := fun (j : Nat) (hj : j < ni) => xdrp_z hG.2.2.2.2 ht2 (c := nI c) hj
  generalize hsm : xsum (xacs f g (nI c)) ni = s at *
  have eo : o_charge nc ni nl (nI c) d n f g = (nI ni, mEn ni nl s (nup n 0 0), mEf ni nl (nI c) s d 1 n f, gup g 15 (xpreL (xdrp f g (nI c)) (g 15) ni)) := by
    unfold o_charge
    rw [if_neg (fun z => z hxc), if_neg (fun z => z hA), hsm, if_neg (fun z => by omega), if_neg hane]
  rw [eo, if_neg hane] at hS
  rw [eo]
  have en1 : mEn ni nl s (nup n 0 0) 1 = n 1 := mEn_1
  have et : (n 1).toInt = t := by rw [ht, nI_toInt (by omega)]
  have o : ∀ {j : Nat}, j ≠ 23 ∧ j ≠ 24 → mEf ni nl (nI c) s d 1 n f j = fup (fup (fup (fup (fup f 10 (upd (f 10) ni (nI c))) 11 (upd (f 11) ni s)) 12 (upd (f 12) ni (n 1 + d))) 13 (upd (f 13) ni s)) 16 (upd (f 16) ni 1) j := fun hj => mWf_o hj.1 hj.2
  have z15 := (hG.2.1.1 ni (Nat.le_refl _)).2.2.2
  have g15 : ∀ j, j < ni → gup g 15 (xpreL (xdrp f g (nI c)) (g 15) ni) 15 j = xdrp f g (nI c) j := fun j hj => if_pos hj
  have g15n : gup g 15 (xpreL (xdrp f g (nI c)) (g 15) ni) 15 ni = 0 := (if_neg (Nat.lt_irrefl ni)).trans z15
  have hJ' := hS.1 (mEn_0 (ni := ni))
  obtain ⟨-, ⟨t2, ht', ht3, hG'⟩, -⟩ := id hJ'
  have hG' : JG nc (ni + 1) np t2 (mEf ni nl (nI c) s d 1 n f) (gup g 15 (xpreL (xdrp f g (nI c)) (g 15) ni)) := hG'
  refine ⟨_, _, _, rfl, mEn_0 (ni := ni), en1, ⟨hJ', ?_, fun t' h1 h2 => ?_⟩, ?_, ?_, ?_⟩
  · rw [show mWl nl s = nl + 1 from if_neg hane]
    refine K_new (c := nI c) (a := s) (d := n 1 + d) (b := 1) hK hG hi hane (o (by decide)) (o (by decide)) (o (by decide)) (o (by decide)) (o (by decide)) ?_ ?_ (fun j hj => ?_) ?_ (fun j hj hz => ?_) g15n
    · unfold mEf mWf; rw [if_neg hane]; rfl
    · unfold mEf mWf; rw [if_neg hane]; rfl
    · rcases hj with rfl | rfl | rfl | rfl | rfl | rfl | rfl <;> exact o (by decide)
    · rw [i32_add (by omega) (by omega)]; omega
    · have e0 := hK.2.2.2.2.2.2.2.1 j hj hz
      have e1 := hdr j hj
      rw [e0, i64_z] at e1
      rw [g15 j hj]
      exact i64_inj (by rw [i64_z]; omega)
  · rw [en1] at h1
    refine kB_new (b := 1) (hB t' h1 h2) (o (j := 11) (by decide)) (o (j := 16) (by decide)) (by omega) (fun z => absurd z (by decide)) (fun j hj => ?_) g15n
    rw [g15 j hj]
    exact (hdr j hj).2
  · rw [o (j := 11) (by decide)]
    exact xupd_i
  · rw [o (j := 16) (by decide)]
    exact xupd_i
  · have hall : ∀ j, j < ni + 1 → xacs (mEf ni nl (nI c) s d 1 n f) (gup g 15 (xpreL (xdrp f g (nI c)) (g 15) ni)) (nI c) j = 0 := fun j hj => by
      have e10 : mEf ni nl (nI c) s d 1 n f 10 = upd (f 10) ni (nI c) := o (by decide)
      have e7 : mEf ni nl (nI c) s d 1 n f 7 = f 7 := o (by decide)
      unfold xacs
      by_cases z : mEf ni nl (nI c) s d 1 n f 10 j = nI c
      · rw [if_pos z]
        refine i32_inj ?_
        rw [xac_e hG'.2.2.2.2 (by omega) hj, i32_z]
        by_cases e : j = ni
        · rw [e, g15n, i64_z, Int.zero_ediv]
        · have hj' : j < ni := by omega
          have hz10 : f 10 j = nI c := by rw [e10, xud e] at z; exact z
          have ew' : xow (mEf ni nl (nI c) s d 1 n f) j = c := by unfold xow; rw [z]; exact nI_clamp (by omega)
          have ew : xow f j = c := by unfold xow; rw [hz10]; exact nI_clamp (by omega)
          have hx := xac_z hG.2.2.2.2 ht2 hj'
          have hxe := xac_e hG.2.2.2.2 ht2 hj'
          have hg := hG.2.2.2.2.1 j hj'
          have hu := xun_z (f 7 c)
          rw [ew', e7, g15 j hj']
          rw [ew] at hx hxe
          have em : ((xac f g j).toInt64 * xun (f 7 c)).toInt = (xac f g j).toInt * (xun (f 7 c)).toInt := by
            rw [i64_mul (by rw [Int32.toInt_toInt64]; omega) (by rw [Int32.toInt_toInt64]; omega), Int32.toInt_toInt64]
          have ed : (xdrp f g (nI c) j).toInt = (g 15 j).toInt - (xac f g j).toInt * (xun (f 7 c)).toInt := by
            unfold xdrp
            rw [if_pos hz10, nI_clamp (by omega), i64_sub (by rw [em]; omega) (by rw [em]; omega), em]
          rw [ed, hxe]
          rcases hu with y | y <;> rw [y] <;> omega
      · exact if_neg z
    have e1 : ∀ k, xsum (fun _ => 0) k = 0 := fun k => by
      induction k with
      | zero => rfl
      | succ k ih => rw [xsum_one (v := 0) rfl, ih]; rfl
    rw [xsum_c (ni + 1) hall, e1]
theorem E_rule {v : Nat} (h : LSt n f g nc ni np nl q O G P M R) (hc : c < nc) (hv : v < 3) : o_setRule nc (nI c) (nI v) n f g = (R c, nup n 0 0, fup f 6 (upd (f 6) c (nI v)), g) ∧ LSt (nup n 0 0) (fup f 6 (upd (f 6) c (nI v))) g nc ni np nl (q + 1) O G P M (upd R c (nI v)) := by
  obtain ⟨hJ, hK, hB⟩ := h
  obtain ⟨hI, ⟨t, ht, ht2, hG⟩, hL⟩ := id hJ
  have hn := hI.2.2.2.2.1
  have hxc : xin (nI c) nc := xin_of hc (by omega)
  have hr : xokR (nI v) := ⟨(xle (a := 0) (b := v) (by omega) (by omega)).mpr (Nat.zero_le _), (xle (a := v) (b := 2) (by omega) (by omega)).mpr (by omega)⟩
  have ec : (nI c).toNatClampNeg = c := nI_clamp (by omega)
  have h0 := JI_0 (w := 0) hJ
  refine ⟨?_, ⟨h0.1, ⟨t, ht, ht2, JG_c hG rfl rfl rfl rfl rfl rfl rfl rfl rfl rfl rfl rfl rfl rfl⟩, h0.2.2⟩, K_rule hK ?_, fun t' h1 h2 => kB_c (hB t' h1 h2) rfl rfl rfl⟩
  · unfold o_setRule
    rw [if_neg (fun z => z hxc), if_neg (fun z => z hr), ec, (hK.2.2.2.1 c hc).1]
  · have : v = 0 ∨ v = 1 ∨ v = 2 := by omega
    rcases this with rfl | rfl | rfl
    · exact Or.inl rfl
    · exact Or.inr (Or.inl rfl)
    · exact Or.inr (Or.inr rfl)
theorem E_pause {d : Nat} (h : LSt n f g nc ni np nl q O G P M R) (ht : n 1 = nI t) (ht2 : t ≤ 1460) (hc : c < nc) (hd : d ≤ 200) : o_pause nc (nI c) (nI d) n f g = (nI (t + d), nup n 0 0, fup f 9 (upd (f 9) c (nI (t + d))), g) ∧ LSt (nup n 0 0) (fup f 9 (upd (f 9) c (nI (t + d)))) g nc ni np nl (q + 1) O G P M R := by
  obtain ⟨hJ, hK, hB⟩ := h
  have hS := S_pauseReminders (w := nI c) (v := nI d) hJ (q := q)
  obtain ⟨hI, -, -⟩ := id hJ
  have hn := hI.2.2.2.2.1
  have hxc : xin (nI c) nc := xin_of hc (by omega)
  have hr : 0 ≤ nI d ∧ nI d ≤ 200 := ⟨(xle (a := 0) (b := d) (by omega) (by omega)).mpr (Nat.zero_le _), (xle (a := d) (b := 200) (by omega) (by omega)).mpr hd⟩
  have ec : (nI c).toNatClampNeg = c := nI_clamp (by omega)
  have eo : o_pause nc (nI c) (nI d) n f g = (nI (t + d), nup n 0 0, fup f 9 (upd (f 9) c (nI (t + d))), g) := by
    unfold o_pause
    rw [if_neg (fun z => z hxc), if_neg (fun z => z hr), ec, ht, nI_add]
  refine ⟨eo, ?_, K_pause hK ?_, fun t' h1 h2 => kB_c (hB t' h1 h2) rfl rfl rfl⟩
  · by_cases hq : q ≤ 512
    · have := hS hq
      rw [eo] at this
      exact this.1 rfl
    · obtain ⟨-, ⟨t3, ht3, ht4, hG⟩, hL⟩ := id hJ
      have h0 := JI_0 (w := 0) hJ
      refine ⟨h0.1, ⟨t3, ht3, ht4, ⟨jO_c hG.1 rfl rfl rfl, ⟨hG.2.1.1, fun k hk => ?_, hG.2.1.2.2⟩, jW_c hG.2.2.1 rfl rfl rfl, jM_c hG.2.2.2.1 rfl rfl rfl rfl rfl rfl, jA_c hG.2.2.2.2 rfl rfl rfl⟩⟩, h0.2.2⟩
      show upd (f 9) c _ k = 0
      rw [xud (by omega)]; exact hG.2.1.2.1 k hk
  · rw [nI_toInt (by omega)]; omega
theorem E_release (h : LSt n f g nc ni np nl q O G P M R) (hq : q ≤ 500) (hp : p < np) (hi : i < ni) : ∃ n' f', o_release ni np nl (nI p) (nI i) n f g = (f 22 (24 * p + i), n', f', g) ∧ n' 0 = 0 ∧ n' 1 = n 1 ∧ LSt n' f' g nc ni np (mWl nl (f 22 (24 * (nI p).toNatClampNeg + (nI i).toNatClampNeg))) (q + 1) O G P M R ∧ f' 22 (24 * p + i) = 0 ∧ (f' 20 p).toInt = (f 20 p).toInt + (f 22 (24 * p + i)).toInt ∧ (f' 13 i).toInt = (f 13 i).toInt + (f 22 (24 * p + i)).toInt := by
  obtain ⟨hJ, hK, hB⟩ := h
  have hS := S_release (w := nI p) (u := nI i) hJ (by omega)
  obtain ⟨hI, ⟨t, ht, ht2, hG⟩, hL⟩ := id hJ
  obtain ⟨-, -, -, -, b1, b2, b3, b4⟩ := id hI
  have ep : (nI p).toNatClampNeg = p := nI_clamp (by omega)
  have ei : (nI i).toNatClampNeg = i := nI_clamp (by omega)
  have hx : xin (nI p) np ∧ xin (nI i) ni := ⟨xin_of hp (by omega), xin_of hi (by omega)⟩
  have eo : o_release ni np nl (nI p) (nI i) n f g = (f 22 (24 * p + i), mWn nl (f 22 (24 * p + i)) (nup n 0 0), mBf nl p i f, g) := by
    unfold o_release
    rw [if_neg (fun z => z hx), ep, ei]
  rw [eo, ep, ei] at hS
  rw [eo, ep, ei]
  have hc := jM_cell hG.2.2.2.1 hp hi
  have hr2 := i32_rng (f 11 i)
  have h20 := hG.2.2.2.1.2.2.1 p hp
  have h13 := hG.2.2.2.1.1 i hi
  have r22 : mBf nl p i f 22 = upd (f 22) (24 * p + i) 0 := by unfold mBf; rw [mWf_o (by decide) (by decide)]; rfl
  have r20 : mBf nl p i f 20 = upd (f 20) p (f 20 p + f 22 (24 * p + i)) := by unfold mBf; rw [mWf_o (by decide) (by decide)]; rfl
  have r13 : mBf nl p i f 13 = upd (f 13) i (f 13 i + f 22 (24 * p + i)) := by unfold mBf; rw [mWf_o (by decide) (by decide)]; rfl
  refine ⟨_, _, rfl, mWn_0, mWn_1, ⟨hS.1 mWn_0, K_release hG hK b2 hp hi, fun t' h1 h2 => ?_⟩, by rw [r22, xupd_i], by rw [r20, xupd_i]; exact i32_add (by omega) (by omega), by rw [r13, xupd_i]; exact i32_add (by omega) (by omega)⟩
  rw [mWn_1] at h1
  exact kB_c (hB t' h1 h2) (mBf_o (by decide)) (mBf_o (by decide)) rfl
theorem mVS_sum {n : Nat → Int32} (hG : JG nc ni np t f g) (hn : ni ≤ 24) (hp : p < np) : ∀ k, k ≤ ni → (mVS p nl n f k).1.toInt = zs (fun i => (f 22 (24 * p + i)).toInt) k ∧ ∀ j, k ≤ j → j < 24 → (mVS p nl n f k).2.2.2 22 (24 * p + j) = f 22 (24 * p + j) := by
  have hnn : ∀ i, i < ni → 0 ≤ (f 22 (24 * p + i)).toInt := fun i hi => hG.2.2.2.1.2.2.2.1 p i hp hi
  have hle : zs (fun i => (f 22 (24 * p + i)).toInt) ni ≤ 10000000 := by
    have := hG.2.2.2.1.2.2.1 p hp
    omega
  intro k
  induction k with
  | zero => intro _; exact ⟨rfl, fun _ _ _ => rfl⟩
  | succ k ih =>
    intro hk
    obtain ⟨h1, h2⟩ := ih (by omega)
    have m1 := zs_mono (t := fun i => (f 22 (24 * p + i)).toInt) ni (k := k + 1) (by omega) hnn
    have m0 := zs_nn (t := fun i => (f 22 (24 * p + i)).toInt) k (fun i hi => hnn i (by omega))
    have hk0 := hnn k (by omega)
    rw [zs_s] at m1 ⊢
    refine ⟨?_, fun j hj hj2 => ?_⟩
    · show ((mVS p nl n f k).1 + (mVS p nl n f k).2.2.2 22 (24 * p + k)).toInt = _
      rw [h2 k (Nat.le_refl k) (by omega), i32_add (by omega) (by omega), h1]
    · show mBf (mVS p nl n f k).2.1 p k (mVS p nl n f k).2.2.2 22 (24 * p + j) = _
      unfold mBf
      rw [mWf_o (by decide) (by decide)]
      show upd ((mVS p nl n f k).2.2.2 22) (24 * p + k) 0 (24 * p + j) = _
      rw [xud (by omega)]
      exact h2 j (by omega) hj2
theorem E_reverse (h : LSt n f g nc ni np nl q O G P M R) (hq : q ≤ 500) (hp : p < np) (h21 : ¬ M p = 0) : ∃ v n' f', o_reverse ni np nl (nI p) n f g = (v, n', f', g) ∧ n' 0 = 0 ∧ LSt n' f' g nc ni np ((mVS (nI p).toNatClampNeg nl (nup n 0 0) f ni).2.1) (q + 1) O G P (upd M p 0) R ∧ v.toInt = (M p).toInt - (f 20 p).toInt ∧ f' 20 p = 0 ∧ ∀ j, j < ni → f' 22 (24 * p + j) = 0 := by
  obtain ⟨hJ, hK, hB⟩ := h
  have hS := S_reverse (w := nI p) hJ (by omega)
  obtain ⟨hI, ⟨t, ht, ht2, hG⟩, hL⟩ := id hJ
  obtain ⟨-, -, -, -, b1, b2, b3, b4⟩ := id hI
  have ep : (nI p).toNatClampNeg = p := nI_clamp (by omega)
  have hx : xin (nI p) np := xin_of hp (by omega)
  have hz21 : f 21 p = 0 := (hK.2.2.2.2.1 p hp).mpr h21
  have eo : o_reverse ni np nl (nI p) n f g = ((mVS p nl (nup n 0 0) f ni).1, (mVS p nl (nup n 0 0) f ni).2.2.1, fup (fup (mVS p nl (nup n 0 0) f ni).2.2.2 20 (upd ((mVS p nl (nup n 0 0) f ni).2.2.2 20) p 0)) 21 (upd ((mVS p nl (nup n 0 0) f ni).2.2.2 21) p 1), g) := by
    unfold o_reverse
    rw [if_neg (fun z => z hx), ep, if_neg (fun z => z hz21)]
  rw [eo, ep] at hS
  rw [eo, ep]
  have en0 : (mVS p nl (nup n 0 0) f ni).2.2.1 0 = 0 := mVS_nn (Or.inl rfl) ni
  have en1 : (mVS p nl (nup n 0 0) f ni).2.2.1 1 = n 1 := mVS_nn (Or.inr rfl) ni
  have hz := (mVS_G (nl := nl) (m := nup n 0 0) hG b2 hp hz21 ni (Nat.le_refl _)).2.1
  have hsum := (mVS_sum (nl := nl) (n := nup n 0 0) hG b2 hp ni (Nat.le_refl _)).1
  have hM := hK.1.1.2.1 p hp
  refine ⟨_, _, _, rfl, en0, ⟨hS.1 en0, K_reverse hG hK b2 hp hz21, fun t' h1 h2 => ?_⟩, by omega, ?_, hz⟩
  · rw [en1] at h1
    exact kB_c (hB t' h1 h2) (mVS_o (by decide) ni) (mVS_o (by decide) ni) rfl
  · exact xupd_i
theorem E_allocate (h : LSt n f g nc ni np nl q O G P M R) (hq : q ≤ 500) (hp : p < np) (hi : i < ni) (h20 : 0 < (f 20 p).toInt) (h13 : 0 < (f 13 i).toInt) (how : O i = P p) : ∃ v n' f', o_allocate ni np nl (nI p) (nI i) 1 n f g = (v, n', f', g) ∧ n' 0 = 0 ∧ n' 1 = n 1 ∧ LSt n' f' g nc ni np (mWl nl (-1)) (q + 1) O G P M R ∧ v.toInt = (f 13 i).toInt - 1 ∧ f' 18 i = 0 := by
  obtain ⟨hJ, hK, hB⟩ := h
  have hS := S_allocate (w := nI p) (u := nI i) (a := 1) hJ (by omega)
  obtain ⟨hI, ⟨t, ht, ht2, hG⟩, hL⟩ := id hJ
  obtain ⟨-, -, -, -, b1, b2, b3, b4⟩ := id hI
  have ep : (nI p).toNatClampNeg = p := nI_clamp (by omega)
  have ei : (nI i).toNatClampNeg = i := nI_clamp (by omega)
  have hx : xin (nI p) np ∧ xin (nI i) ni := ⟨xin_of hp (by omega), xin_of hi (by omega)⟩
  have k1 : (1 : Int32).toInt = 1 := rfl
  have hw : f 10 i = f 19 p := by rw [← hK.2.1 i hi, ← hK.2.2.1 p hp]; exact how
  have eo : o_allocate ni np nl (nI p) (nI i) 1 n f g = (f 13 i - 1, mWn nl (-1) (nup n 0 0), mPf nl p i 1 f, g) := by
    unfold o_allocate
    rw [if_neg (fun z => z hx), if_neg (by decide), ep, ei, if_neg (fun z => by
      rcases z with z | z | z
      · exact z hw
      · have := i32_lt.mp z; omega
      · have := i32_lt.mp z; omega)]
  have hr := i32_rng (f 13 i)
  rw [eo] at hS ⊢
  have en0 : mWn nl (-1) (nup n 0 0) 0 = 0 := mWn_0
  refine ⟨_, _, _, rfl, en0, mWn_1, ⟨hS.1 en0, K_allocate hG hK b2 hp hi (by omega) (by omega) (by omega) hw, fun t' h1 h2 => ?_⟩, ?_, by rw [mPf_18, xupd_i]⟩
  · rw [mWn_1] at h1
    exact kB_c (hB t' h1 h2) (mPf_o (by decide)) (mPf_o (by decide)) rfl
  · rw [i32_sub (by omega) (by omega), k1]
theorem E_settle (h : LSt n f g nc ni np nl q O G P M R) (hq : q ≤ 500) (hi : i < ni) (h14 : ¬ f 14 i = 0) (ha : 0 ≤ a.toInt ∧ a.toInt ≤ (f 14 i).toInt) : ∃ v n' f', o_settle ni nl (nI i) a n f g = (v, n', f', g) ∧ n' 0 = 0 ∧ n' 1 = n 1 ∧ LSt n' f' g nc ni np (mWl nl (-a)) (q + 1) O (upd G i (G i + a)) P M R ∧ v.toInt = (f 13 i).toInt - a.toInt ∧ f' 14 i = 0 := by
  obtain ⟨hJ, hK, hB⟩ := h
  have hS := S_settle (w := nI i) (a := a) hJ (by omega)
  obtain ⟨hI, ⟨t, ht, ht2, hG⟩, hL⟩ := id hJ
  obtain ⟨-, -, -, -, b1, b2, b3, b4⟩ := id hI
  have ei : (nI i).toNatClampNeg = i := nI_clamp (by omega)
  have hx : xin (nI i) ni := xin_of hi (by omega)
  have hm := hG.2.2.2.1.1 i hi
  have hr := i32_rng (f 13 i)
  have hA : 0 ≤ a ∧ a ≤ f 14 i := ⟨i32_le.mpr (by rw [i32_z]; omega), i32_le.mpr ha.2⟩
  have eo : o_settle ni nl (nI i) a n f g = (f 13 i - a, mWn nl (-a) (nup n 0 0), mSf nl i a f, g) := by
    unfold o_settle
    rw [if_neg (fun z => z hx), ei, if_neg h14, if_neg (fun z => z hA)]
  have key : ∀ {j : Nat}, j ≠ 13 ∧ j ≠ 14 ∧ j ≠ 17 ∧ j ≠ 18 ∧ j ≠ 23 ∧ j ≠ 24 → mSf nl i a f j = f j := fun {j} hj => by
    unfold mSf
    rw [mWf_o hj.2.2.2.2.1 hj.2.2.2.2.2]
    split
    · rw [fup_n hj.2.2.2.1, fup_n hj.2.2.1, fup_n hj.2.1, fup_n hj.1]
    · rw [fup_n hj.2.1, fup_n hj.1]
  rw [eo] at hS ⊢
  refine ⟨_, _, _, rfl, mWn_0, mWn_1, ⟨hS.1 mWn_0, K_settle hG hK b2 hi ha.1 ha.2, fun t' h1 h2 => ?_⟩, i32_sub (by omega) (by omega), ?_⟩
  · rw [mWn_1] at h1
    exact kB_c (hB t' h1 h2) (key (by decide)) (key (by decide)) rfl
  · unfold mSf
    rw [mWf_o (by decide) (by decide)]
    split <;> exact xupd_i
theorem E_customer {r v w : Int32} (h : LSt n f g nc ni np nl q O G P M R) (hq : q ≤ 500) (hc : nc < 6) (hr : r = 0 ∨ r = 1 ∨ r = 2) (hv : xokR v) (hw : xokT w) : ∃ n' f', o_addCustomer nc r v w n f g = (nI nc, n', f', g) ∧ n' 0 = 0 ∧ LSt n' f' g (nc + 1) ni np nl (q + 1) O G P M (upd R nc r) := by
  obtain ⟨hJ, hK, hB⟩ := h
  have hS := S_addCustomer (w := r) (u := v) (v := w) hJ (by omega)
  obtain ⟨hI, ⟨t, ht, ht2, hG⟩, hL⟩ := id hJ
  have hA : xokR r ∧ xokR v ∧ xokT w := ⟨by rcases hr with rfl | rfl | rfl <;> decide, hv, hw⟩
  have eo : o_addCustomer nc r v w n f g = (nI nc, nup (nup n 0 0) 2 (nI (nc + 1)), fup (fup (fup f 6 (upd (f 6) nc r)) 7 (upd (f 7) nc v)) 8 (upd (f 8) nc w), g) := by
    unfold o_addCustomer
    rw [if_neg (fun z => z hA), if_neg (by omega)]
  rw [eo] at hS ⊢
  exact ⟨_, _, rfl, rfl, hS.1 rfl, K_customer hK hG hr, fun t' h1 h2 => kB_c (hB t' h1 h2) rfl rfl rfl⟩
end KEG
