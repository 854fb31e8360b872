/-! what each call of the law does -/
section KEF
variable {nc ni np nl q t p i c : Nat} {n : Nat → Int32} {f f' : Nat → Nat → Int32} {g g' : Nat → Nat → Int64} {O G P M R : Nat → Int32} {a : Int32}
/-- where the law stands between two calls -/
def LSt (n : Nat → Int32) (f : Nat → Nat → Int32) (g : Nat → Nat → Int64) (nc ni np nl q : Nat) (O G P M R : Nat → Int32) : Prop := JI n f g nc ni np nl q ∧ kK nc ni np nl f g O G P M R ∧ ∀ t, n 1 = nI t → t ≤ 1460 → kB ni t f g
theorem LSt_q (h : LSt n f g nc ni np nl q O G P M R) {q' : Nat} (hq : q ≤ q') : LSt n f g nc ni np nl q' O G P M R := by
  obtain ⟨⟨h1, h2, h3⟩, hK, hB⟩ := h
  refine ⟨⟨h1, h2, ?_⟩, hK, hB⟩
  unfold jL at h3 ⊢
  omega
theorem xold_spec {c : Int32} (hn : ni ≤ 24) : (xold f c ni = -1 ∧ ∀ i, i < ni → ¬ 0 < zw ni f c i) ∨ ∃ j, j < ni ∧ xold f c ni = nI j ∧ 0 < zw ni f c j ∧ ∀ i, i < ni → 0 < zw ni f c i → ¬ ahd f i j := by
  have h := cold_spec (f := f) (jc := xWJ f c (fun _ _ => 0) ni) ni hn
  rw [(cold_xold (f := f) (c := c) (jc := fun _ _ => 0) hn ni (Nat.le_refl _)).1] at h
  have e : ∀ i, i < ni → (0 < xWJ f c (fun _ _ => 0) ni 3 i ∧ xWJ f c (fun _ _ => 0) ni 4 i = 0 ↔ 0 < zw ni f c i) := fun i hi => by
    rw [i32_lt, i32_z, xWJ_z (f := f) (c := c) (jc := fun _ _ => 0) hn (by omega)]
    exact ⟨fun z => z.1, fun z => ⟨z, xWJ_4 (by omega)⟩⟩
  rcases h with ⟨h1, h2⟩ | ⟨j, hj, h1, h2, h3, h4⟩
  · exact Or.inl ⟨h1, fun i hi z => h2 i hi ((e i hi).mpr z)⟩
  · exact Or.inr ⟨j, hj, h1, (e j hj).mp h3, fun i hi z => h4 i hi ((e i hi).mpr z)⟩
theorem E_pay (h : LSt n f g nc ni np nl q O G P M R) (hq : q ≤ 500) (hc : c < nc) (ha : 1 ≤ a.toInt ∧ a.toInt ≤ 10000000) (hp : np < 24) : ∃ n' f' g', o_postPayment nc ni np nl (nI c) a n f g = (nI np, n', f', g') ∧ n' 0 = 0 ∧ LSt n' f' g' nc ni (np + 1) (mAR ni nl np (nI c).toNatClampNeg (nup (nup n 0 0) 4 (nI (np + 1))) (fup (fup f 19 (upd (f 19) np (nI c))) 20 (upd (f 20) np a)) g).2.1 (q + 1) O G (upd P np (nI c)) (upd M np a) R ∧
    ∃ S : Int, 0 ≤ S ∧ S ≤ a.toInt ∧ S ≤ zs (zw ni f (nI c)) ni ∧ (f 6 c = 0 ∨ f 6 c = 1 → S < a.toInt → S = zs (zw ni f (nI c)) ni) ∧ (f 6 c = 2 → S = 0) ∧ (f' 20 np).toInt = a.toInt - S ∧ zs (zw ni f' (nI c)) ni = zs (zw ni f (nI c)) ni - S ∧ (f 6 c = 0 → ∀ j, j < ni → (∀ i, i < ni → 0 < zw ni f (nI c) i → ¬ ahd f i j) → (f' 22 (24 * np + j)).toInt = if a.toInt < zw ni f (nI c) j then a.toInt else zw ni f (nI c) j) := by
  obtain ⟨hJ, hK, hB⟩ := h
  have hS := S_postPayment (w := nI c) (a := a) hJ (by omega)
  obtain ⟨hI, ⟨t, ht, ht2, hG⟩, hL⟩ := id hJ
  obtain ⟨-, -, -, -, b1, b2, b3, b4⟩ := id hI
  have ec : (nI c).toNatClampNeg = c := nI_clamp (by omega)
  have hxc : xin (nI c) nc := xin_of hc (by omega)
  have k0 : (1 : Int32).toInt = 1 := rfl
  have kA : (10000000 : Int32).toInt = 10000000 := rfl
  have hA : xokA a := ⟨i32_le.mpr (by omega), i32_le.mpr (by omega)⟩
  have eo : o_postPayment nc ni np nl (nI c) a n f g = (nI np, (mAR ni nl np (nI c).toNatClampNeg (nup (nup n 0 0) 4 (nI (np + 1))) (fup (fup f 19 (upd (f 19) np (nI c))) 20 (upd (f 20) np a)) g).2.2) := by
    unfold o_postPayment
    rw [if_neg (fun z => z hxc), if_neg (fun z => z hA), if_neg (by omega)]
  have hane : ¬ a = 0 := fun z => by rw [z, i32_z] at ha; omega
  have hGn := (JG_newp (k := c) (a := a) hG b2 hc (by omega)).1
  have hKn := K_newp (c := c) (a := a) hK hG b2 hane
  have h6 := hK.2.2.2.1 c hc
  rw [eo, ec] at hS
  rw [eo, ec]
  obtain ⟨q1, sh, r1, r2, r3, r4, r5, r6, r7, r8, r9, r10, r11, r12, r13⟩ := mAR_E (n := nup (nup n 0 0) 4 (nI (np + 1))) (nl := nl) (p := np) (w := c) hGn b2 (Nat.lt_succ_self np) (show upd (f 19) np (nI c) np = nI c from xupd_i) hKn.1
  have hGr := (JAR (n := nup (nup n 0 0) 4 (nI (np + 1))) (nl := nl) (p := np) (w := c) hGn b2 (Nat.lt_succ_self np)).1
  have en0 : (mAR ni nl np c (nup (nup n 0 0) 4 (nI (np + 1))) (fup (fup f 19 (upd (f 19) np (nI c))) 20 (upd (f 20) np a)) g).2.2.1 0 = 0 := mAR_nn (Or.inl rfl)
  have en1 : (mAR ni nl np c (nup (nup n 0 0) 4 (nI (np + 1))) (fup (fup f 19 (upd (f 19) np (nI c))) 20 (upd (f 20) np a)) g).2.2.1 1 = n 1 := mAR_nn (Or.inr rfl)
  generalize hF : fup (fup f 19 (upd (f 19) np (nI c))) 20 (upd (f 20) np a) = F at *
  have F20 : F 20 np = a := by rw [← hF]; exact xupd_i
  have Fo : ∀ j, j ≠ 19 → j ≠ 20 → F j = f j := fun j h1 h2 => by rw [← hF, fup_n h2, fup_n h1]
  have ezw : ∀ j, zw ni F (nI c) j = zw ni f (nI c) j := fun j => by unfold zw; rw [Fo 10 (by decide) (by decide), Fo 13 (by decide) (by decide), Fo 14 (by decide) (by decide)]
  generalize mAR ni nl np c (nup (nup n 0 0) 4 (nI (np + 1))) F g = A at *
  have hz := zw_dec (s := fun j => (sh j).toInt) hGn hGr (r11 10 (by decide) (by decide)) r6 r1
  have hsum : zs (zw ni F (nI c)) ni = zs (zw ni f (nI c)) ni := zs_congr ni fun j _ => ezw j
  rw [Fo 6 (by decide) (by decide)] at r8 r9 r10
  rw [F20] at r2 r4 r8 r10
  refine ⟨A.2.2.1, A.2.2.2.1, A.2.2.2.2, rfl, en0, ⟨hS.1 en0, ⟨q1, kT_c hKn.2 (r11 6 (by decide) (by decide)) (r11 9 (by decide) (by decide)) (r11 10 (by decide) (by decide)) (r11 12 (by decide) (by decide)) (r11 16 (by decide) (by decide)) (r11 19 (by decide) (by decide)) (r11 21 (by decide) (by decide)) r12⟩, fun t' h1 h2 => ?_⟩, zs (fun j => (sh j).toInt) ni, zs_nn ni (fun j hj => (r1 j hj).1), r2, ?_, fun hr hlt => ?_, fun hr => ?_, r4, ?_, fun hr j hj hm => ?_⟩
  · rw [en1] at h1
    exact kB_c (hB t' h1 h2) ((r11 11 (by decide) (by decide)).trans (Fo 11 (by decide) (by decide))) ((r11 16 (by decide) (by decide)).trans (Fo 16 (by decide) (by decide))) r12
  · rw [← hsum]
    exact zs_le ni fun j hj => (r1 j hj).2
  · rw [← hsum]
    exact zs_congr ni fun j hj => r8 hr hlt j hj
  · exact zs_all0 fun j hj => by
      show (sh j).toInt = 0
      rw [r9 (fun z => by rw [hr] at z; exact absurd z (by decide)) (fun z => by rw [hr] at z; exact absurd z (by decide)) j hj]; rfl
  · rw [← hsum, ← zs_sub]
    exact zs_congr ni fun j hj => hz j hj
  · have hw := JG_W hG (nI c)
    have e1 := r7 j hj
    rw [Fo 22 (by decide) (by decide), hG.2.1.2.2.2 np j (by omega) (Or.inl (Nat.le_refl np)), show (0 : Int32) + sh j = sh j by grind] at e1
    have e0 : zs (zah F ni (nI c) j) ni = 0 := zs_all0 fun i hi => by
      by_cases y : ahd F i j
      · rw [zah_t hi y, ezw]
        have hy : ahd f i j := by unfold ahd at y ⊢; rw [Fo 12 (by decide) (by decide)] at y; exact y
        have h1 := hw i
        have h2 : ¬ 0 < zw ni f (nI c) i := fun z => hm i hi z hy
        omega
      · exact zah_f y
    rw [e1, r10 hr (by omega) j hj, e0, Int.sub_zero, ezw]
    unfold zcl
    rw [if_neg (by omega)]
theorem E_invoice {d : Int32} (h : LSt n f g nc ni np nl q O G P M R) (hq : q ≤ 500) (hc : c < nc) (ha : 1 ≤ a.toInt ∧ a.toInt ≤ 10000) (hd : 0 ≤ d.toInt ∧ d.toInt ≤ 120) (hi : ni < 24) : ∃ n' f' g', o_postInvoice nc ni nl (nI c) a d n f g = (nI ni, n', f', g') ∧ n' 0 = 0 ∧ LSt n' f' g' nc (ni + 1) np (mWl nl a) (q + 1) (upd O ni (nI c)) G P M R := by
  obtain ⟨hJ, hK, hB⟩ := h
  have hS := S_postInvoice (w := nI c) (a := a) (t := d) hJ (by omega)
  obtain ⟨hI, ⟨t, ht, ht2, hG⟩, hL⟩ := id hJ
  obtain ⟨-, -, -, -, b1, b2, b3, b4⟩ := id hI
  have hxc : xin (nI c) nc := xin_of hc (by omega)
  have k0 : (1 : Int32).toInt = 1 := rfl
  have kA : (10000000 : Int32).toInt = 10000000 := rfl
  have kD : (120 : Int32).toInt = 120 := rfl
  have hA : xokA a ∧ xokD d := ⟨⟨i32_le.mpr (by omega), i32_le.mpr (by omega)⟩, i32_le.mpr (by rw [i32_z]; omega), i32_le.mpr (by omega)⟩
  have eo : o_postInvoice nc ni nl (nI c) a d n f g = (nI ni, mEn ni nl a (nup n 0 0), mEf ni nl (nI c) a d 0 n f, g) := by
    unfold o_postInvoice
    rw [if_neg (fun z => z hxc), if_neg (fun z => z hA), if_neg (by omega)]
  have hane : ¬ a = 0 := fun z => by rw [z, i32_z] at ha; omega
  rw [eo] at hS ⊢
  have en1 : mEn ni nl a (nup n 0 0) 1 = n 1 := mEn_1
  have et : (n 1).toInt = t := by rw [ht, nI_toInt (by omega)]
  have o : ∀ {j : Nat}, j ≠ 23 ∧ j ≠ 24 → mEf ni nl (nI c) a d 0 n f j = fup (fup (fup (fup (fup f 10 (upd (f 10) ni (nI c))) 11 (upd (f 11) ni a)) 12 (upd (f 12) ni (n 1 + d))) 13 (upd (f 13) ni a)) 16 (upd (f 16) ni 0) j := fun hj => mWf_o hj.1 hj.2
  have z15 := (hG.2.1.1 ni (Nat.le_refl _)).2.2.2
  refine ⟨_, _, _, rfl, mEn_0 (ni := ni), hS.1 (mEn_0 (ni := ni)), ?_, fun t' h1 h2 => ?_⟩
  · rw [show mWl nl a = nl + 1 from if_neg hane]
    refine K_new (c := nI c) (a := a) (d := n 1 + d) (b := 0) hK hG hi hane (o (by decide)) (o (by decide)) (o (by decide)) (o (by decide)) (o (by decide)) ?_ ?_ (fun j hj => ?_) ?_ hK.2.2.2.2.2.2.2.1 z15
    · unfold mEf mWf; rw [if_neg hane]; rfl
    · unfold mEf mWf; rw [if_neg hane]; rfl
    · rcases hj with rfl | rfl | rfl | rfl | rfl | rfl | rfl <;> exact o (by decide)
    · rw [i32_add (by omega) (by omega)]; omega
  · rw [en1] at h1
    exact kB_new (b := 0) (hB t' h1 h2) (o (j := 11) (by decide)) (o (j := 16) (by decide)) (by omega) (fun _ => ha.2) (fun i _ => Int.le_refl _) z15
theorem E_pass {d : Nat} (h : LSt n f g nc ni np nl q O G P M R) (hq : q ≤ 500) (ht : n 1 = nI t) (hd : 1 ≤ d ∧ d ≤ 400) (hl : t + d ≤ 1460) : ∃ n' f' g', o_passDays ni (nI d) n f g = (nI (t + d), n', f', g') ∧ n' 0 = 0 ∧ n' 1 = nI (t + d) ∧ LSt n' f' g' nc ni np nl (q + 1) O G P M R := by
  obtain ⟨hJ, hK, hB⟩ := h
  have hS := S_passDays (d := nI d) hJ (by omega)
  obtain ⟨hI, ⟨t2, ht', ht2, hG⟩, hL⟩ := id hJ
  obtain ⟨-, -, -, -, b1, b2, b3, b4⟩ := id hI
  have ett : t2 = t := by
    have := congrArg Int32.toInt (ht'.symm.trans ht)
    rw [nI_toInt (by omega), nI_toInt (by omega)] at this
    omega
  subst ett
  have e1 : (n 1).toNatClampNeg = t2 := by rw [ht]; exact nI_clamp (by omega)
  have e2 : (nI d).toNatClampNeg = d := nI_clamp (by omega)
  have c1 : 1 ≤ nI d ∧ nI d ≤ 400 := ⟨(xle (a := 1) (b := d) (by omega) (by omega)).mpr hd.1, (xle (a := d) (b := 400) (by omega) (by omega)).mpr hd.2⟩
  have c2 : n 1 + nI d ≤ 1460 := by
    rw [ht, nI_add]
    exact (xle (a := t2 + d) (b := 1460) (by omega) (by omega)).mpr hl
  have eo : o_passDays ni (nI d) n f g = (nI (t2 + d), mDays ni t2 (nup n 0 0, f, g) d) := by
    unfold o_passDays
    rw [if_neg (fun z => z c1), if_neg (fun z => z c2), e1, e2]
  have m0 : ∀ k, (mDays ni t2 (nup n 0 0, f, g) k).1 0 = 0 := fun k => by
    induction k with
    | zero => rfl
    | succ k ih => exact ih
  have m1 : (mDays ni t2 (nup n 0 0, f, g) d).1 1 = nI (t2 + d) := by
    obtain ⟨e, rfl⟩ : ∃ e, d = e + 1 := ⟨d - 1, by omega⟩
    rfl
  rw [eo] at hS ⊢
  refine ⟨_, _, _, rfl, m0 d, m1, hS.1 (m0 d), K_days hK d, fun t' h1 h2 => ?_⟩
  have et' : t' = t2 + d := by
    have := congrArg Int32.toInt (h1.symm.trans m1)
    rw [nI_toInt (by omega), nI_toInt (by omega)] at this
    omega
  subst et'
  exact mDays_B hG (hB t2 ht ht2) b1 d hl
theorem E_disputeAll (h : LSt n f g nc ni np nl q O G P M R) (hq : q ≤ 500) (hc : c < nc) (ha : 1 ≤ a.toInt) (hl : a.toInt ≤ zs (zw ni f (nI c)) ni) : ∃ v n' f' g', o_disputeAll nc ni (nI c) a n f g = (v, n', f', g') ∧ n' 0 = 0 ∧ LSt n' f' g' nc ni np nl (q + 1) O G P M R ∧ 1 ≤ v.toInt ∧ v.toInt ≤ a.toInt ∧ n' 1 = n 1 ∧ zs (zw ni f' (nI c)) ni = zs (zw ni f (nI c)) ni - a.toInt := by
  obtain ⟨hJ, hK, hB⟩ := h
  have hS := S_disputeAll (w := nI c) (a := a) hJ (by omega)
  obtain ⟨hI, ⟨t, ht, ht2, hG⟩, hL⟩ := id hJ
  obtain ⟨-, -, -, -, b1, b2, b3, b4⟩ := id hI
  have hxc : xin (nI c) nc := xin_of hc (by omega)
  have k0 : (1 : Int32).toInt = 1 := rfl
  have hx := (xall_z (f := f) (c := nI c) b2).1
  have eo : o_disputeAll nc ni (nI c) a n f g = (xsum (xcnt (mDF ni (nI c) a f g)) ni, nup n 0 0, fup (mDF ni (nI c) a f g) 14 (xpre (xdis (mDF ni (nI c) a f g)) (f 14) ni), gup g 26 (xspl ni (nI c) a f g).2) := by
    unfold o_disputeAll
    rw [if_neg (fun z => z hxc), if_neg (fun z => by have := i32_lt.mp z; omega), if_neg (fun z => by have := i64_lt.mp z; rw [hx, Int32.toInt_toInt64] at this; omega)]
  obtain ⟨z1, z2⟩ := cspl_z (f := f) (jc := fun _ _ => 0) (g := g) (jr := fun _ => 0) (c := nI c) (a := a) b2 (JG_W hG (nI c)) (by omega) hl
  have z3 : ∀ j, j < ni → 0 ≤ ((xspl ni (nI c) a f g).1 j).toInt ∧ ((xspl ni (nI c) a f g).1 j).toInt ≤ zw ni f (nI c) j := fun j hj => by rw [← (z1 j hj).1]; exact (z1 j hj).2
  have z4 : zs (fun j => ((xspl ni (nI c) a f g).1 j).toInt) ni = a.toInt := by
    rw [← z2]
    exact zs_congr ni fun j hj => by rw [(z1 j hj).1]
  rw [eo] at hS ⊢
  have hJ' := hS.1 rfl
  obtain ⟨-, ⟨t2, ht', -, hG'⟩, -⟩ := id hJ'
  have hb : ∀ j, j < ni → 0 ≤ (xcnt (mDF ni (nI c) a f g) j).toInt ∧ (xcnt (mDF ni (nI c) a f g) j).toInt ≤ ((xspl ni (nI c) a f g).1 j).toInt ∧ (0 < ((xspl ni (nI c) a f g).1 j).toInt → 1 ≤ (xcnt (mDF ni (nI c) a f g) j).toInt) := fun j hj => by
    have h1 := z3 j hj
    show 0 ≤ (if 0 < (xspl ni (nI c) a f g).1 j then (1 : Int32) else 0).toInt ∧ (if 0 < (xspl ni (nI c) a f g).1 j then (1 : Int32) else 0).toInt ≤ _ ∧ (_ → 1 ≤ (if 0 < (xspl ni (nI c) a f g).1 j then (1 : Int32) else 0).toInt)
    by_cases z : 0 < (xspl ni (nI c) a f g).1 j
    · rw [if_pos z]
      have := i32_lt.mp z
      rw [i32_z] at this
      exact ⟨by decide, by omega, fun _ => by decide⟩
    · rw [if_neg z]
      have := mt i32_lt.mpr z
      rw [i32_z] at this
      exact ⟨by decide, by rw [i32_z]; omega, fun y => absurd y (by omega)⟩
  have hb2 : ∀ j, j < ni → (xcnt (mDF ni (nI c) a f g) j).toInt ≤ 1 := fun j hj => by
    show (if 0 < (xspl ni (nI c) a f g).1 j then (1 : Int32) else 0).toInt ≤ 1
    split <;> decide
  have s1 := zs_bd (t := fun j => (xcnt (mDF ni (nI c) a f g) j).toInt) (B := 1) ni hb2
  have s2 := xsum_z (t := xcnt (mDF ni (nI c) a f g)) ni (fun j hj => (hb j hj).1) (by omega)
  have s3 : zs (fun j => (xcnt (mDF ni (nI c) a f g) j).toInt) ni ≤ a.toInt := by
    rw [← z4]
    exact zs_le ni fun j hj => (hb j hj).2.1
  have s4 : 1 ≤ zs (fun j => (xcnt (mDF ni (nI c) a f g) j).toInt) ni := by
    obtain ⟨j, hj, hp⟩ := zs_pos (t := fun j => ((xspl ni (nI c) a f g).1 j).toInt) (n := ni) (by rw [z4]; omega)
    have h1 := zs_mem (t := fun j => (xcnt (mDF ni (nI c) a f g) j).toInt) ni (fun j hj => (hb j hj).1) hj
    have h2 := (hb j hj).2.2 hp
    exact Int.le_trans h2 h1
  refine ⟨_, _, _, _, rfl, rfl, ⟨hJ', K_disputed hK rfl, fun t' h1 h2 => kB_c (hB t' h1 h2) rfl rfl rfl⟩, by rw [s2]; exact s4, by rw [s2]; exact s3, rfl, ?_⟩
  have hz : ∀ j, j < ni → zw ni (fup (mDF ni (nI c) a f g) 14 (xpre (xdis (mDF ni (nI c) a f g)) (f 14) ni)) (nI c) j = zw ni f (nI c) j - ((xspl ni (nI c) a f g).1 j).toInt := fun j hj => by
    have h1 := z3 j hj
    by_cases e : f 10 j = nI c
    · rw [zw_of hG hj e] at h1 ⊢
      rw [zw_of hG' hj e]
      have hr := i32_rng (f 13 j)
      have hm := hG.2.2.2.1.1 j hj
      show (f 13 j).toInt - (xpre (xdis (mDF ni (nI c) a f g)) (f 14) ni j).toInt = _
      rw [xpre_lt hj]
      show (f 13 j).toInt - (f 14 j + (xspl ni (nI c) a f g).1 j).toInt = _
      rw [i32_add (by omega) (by omega)]
      omega
    · rw [zw_no e] at h1 ⊢
      rw [zw_no (f := fup (mDF ni (nI c) a f g) 14 (xpre (xdis (mDF ni (nI c) a f g)) (f 14) ni)) (show ¬ f 10 j = nI c from e)]
      omega
  rw [← z4, ← zs_sub]
  exact zs_congr ni hz
theorem E_rest (h : LSt n f g nc ni np nl q O G P M R) (hq : q ≤ 500) (hc : c < nc) : ∃ v n' f' g', o_allocateRest nc ni np nl (nI c) n f g = (v, n', f', g') ∧ n' 0 = 0 ∧ LSt n' f' g' nc ni np ((mRS ni nl (nI c).toNatClampNeg (nup n 0 0) f g np).2.1) (q + 1) O G P M R ∧ 0 ≤ v.toInt ∧ (∀ p, p < np → f' 19 p = nI c → eDn ni c f' p) ∧ ((∀ p, p < np → f 19 p = nI c → eDn ni c f p) → v = 0) := by
  obtain ⟨hJ, hK, hB⟩ := h
  have hS := S_allocateRest (w := nI c) hJ (by omega)
  have hb := JI_b hJ (by omega)
  obtain ⟨hI, ⟨t, ht, ht2, hG⟩, hL⟩ := id hJ
  obtain ⟨-, -, -, -, b1, b2, b3, b4⟩ := id hI
  have hxc : xin (nI c) nc := xin_of hc (by omega)
  have ec : (nI c).toNatClampNeg = c := nI_clamp (by omega)
  have eo : o_allocateRest nc ni np nl (nI c) n f g = ((mRS ni nl c (nup n 0 0) f g np).1, (mRS ni nl c (nup n 0 0) f g np).2.2) := by
    unfold o_allocateRest
    rw [if_neg (fun z => z hxc), ec]
  rw [eo, ec] at hS
  rw [eo, ec]
  have en0 : (mRS ni nl c (nup n 0 0) f g np).2.2.1 0 = 0 := mRS_nn (Or.inl rfl) np
  have en1 : (mRS ni nl c (nup n 0 0) f g np).2.2.1 1 = n 1 := mRS_nn (Or.inr rfl) np
  have o : ∀ {j : Nat}, (j ≠ 23 ∧ j ≠ 24 ∧ j ≠ 22 ∧ j ≠ 20 ∧ j ≠ 13 ∧ j ≠ 14 ∧ j ≠ 18 ∧ j ≠ 17) → j ≠ 25 → (mRS ni nl c (nup n 0 0) f g np).2.2.2.1 j = f j := fun h1 h2 => mRS_o h1 h2 np
  obtain ⟨k1, k2, k3, k4⟩ := mRS_E (n := nup n 0 0) (w := c) hG b2 hb hK.1 np (Nat.le_refl _)
  refine ⟨_, _, _, _, rfl, en0, ⟨hS.1 en0, ⟨k1, kT_c hK.2 (o (by decide) (by decide)) (o (by decide) (by decide)) (o (by decide) (by decide)) (o (by decide) (by decide)) (o (by decide) (by decide)) (o (by decide) (by decide)) (o (by decide) (by decide)) k4⟩, fun t' h1 h2 => ?_⟩, ?_, fun p hp hw => k3 p hp (by rw [← o (j := 19) (by decide) (by decide)]; exact hw), fun hd => (mRS_0 (n := nup n 0 0) (w := c) hG b2 hb hK.1 hd np (Nat.le_refl _)).1⟩
  · rw [en1] at h1
    exact kB_c (hB t' h1 h2) (o (by decide) (by decide)) (o (by decide) (by decide)) k4
  · rcases k2 with k2 | k2
    · exact k2.1
    · omega
end KEF
