/-! the calls keep it -/
/-- a call's end keeps the invariant: answered, or refused -/
def sP (n : Nat → Int32) (f : Nat → Nat → Int32) (g : Nat → Nat → Int64) (nc ni np nl q nc' ni' np' nl' : Nat) (o : Int32 × mS) : Prop := (o.2.1 0 = 0 → JI o.2.1 o.2.2.1 o.2.2.2 nc' ni' np' nl' (q + 1)) ∧ (¬ o.2.1 0 = 0 → o.2.2.1 = f ∧ o.2.2.2 = g ∧ o.2.1 1 = n 1 ∧ JI o.2.1 f g nc ni np nl (q + 1))
section JCALLS
variable {n : Nat → Int32} {f : Nat → Nat → Int32} {g : Nat → Nat → Int64} {nc ni np nl q nc' ni' np' nl' : Nat}
theorem sP_no {k : Int32} (h : JI n f g nc ni np nl q) (hk : k ≠ 0) : sP n f g nc ni np nl q nc' ni' np' nl' (oNo k n f g) := ⟨fun z => absurd z hk, fun _ => ⟨rfl, rfl, rfl, JI_0 h⟩⟩
theorem sP_rd {p : Prop} [Decidable p] {v : Int32} (h : JI n f g nc ni np nl q) : sP n f g nc ni np nl q nc ni np nl (oRd p v n f g) := by
  unfold oRd
  by_cases hp : p
  · rw [if_pos hp]
    exact ⟨fun _ => JI_0 h, fun z => absurd rfl z⟩
  · rw [if_neg hp]
    exact sP_no h (by decide)
theorem sP_ok {o : Int32 × mS} (h0 : o.2.1 0 = 0) (h : JI o.2.1 o.2.2.1 o.2.2.2 nc' ni' np' nl' (q + 1)) : sP n f g nc ni np nl q nc' ni' np' nl' o := ⟨fun _ => h, fun z => absurd h0 z⟩
theorem jL_s {np nl q nl' : Nat} {f f' : Nat → Nat → Int32} (h : jL np nl q f) (hz : zc f' np ≤ zc f np) (hl : nl' ≤ nl + 25) : jL np nl' (q + 1) f' := by
  unfold jL at h ⊢
  omega
theorem mWl_1 {nl : Nat} {a : Int32} : mWl nl a ≤ nl + 1 ∧ nl ≤ mWl nl a := by
  unfold mWl
  split <;> omega
theorem xin_j {w : Int32} {c : Nat} (h : xin w c) (hc : c ≤ 24) : w.toNatClampNeg < c := by
  obtain ⟨j, hj, rfl⟩ := xin_nI h (by omega)
  rw [nI_clamp (by omega)]
  exact hj
theorem xin_e {w : Int32} {c : Nat} (h : xin w c) (hc : c ≤ 24) : w = nI w.toNatClampNeg := by
  obtain ⟨j, hj, rfl⟩ := xin_nI h (by omega)
  rw [nI_clamp (by omega)]
theorem S_addCustomer {w u v : Int32} (h : JI n f g nc ni np nl q) (hq : q ≤ 512) : sP n f g nc ni np nl q (nc + 1) ni np nl (o_addCustomer nc w u v n f g) := by
  obtain ⟨h1, ⟨t, ht, ht2, hG⟩, h7⟩ := id h
  unfold o_addCustomer
  by_cases c1 : xokR w ∧ xokR u ∧ xokT v
  · rw [if_neg (fun z => z c1)]
    by_cases c2 : nc = 6
    · rw [if_pos c2]; exact sP_no h (by decide)
    · rw [if_neg c2]
      refine sP_ok rfl ⟨⟨rfl, h1.2.1, h1.2.2.1, h1.2.2.2.1, by have := h1.2.2.2.2.1; omega, h1.2.2.2.2.2⟩, ⟨t, ht, ht2, ?_, ?_, hG.2.2.1, hG.2.2.2.1, hG.2.2.2.2⟩, jL_s (f := f) h7 (Int.le_refl _) (by omega)⟩
      · obtain ⟨g1, g2, g3⟩ := hG.1
        refine ⟨fun i hi => ?_, fun p hp => ?_, fun k hk => ?_⟩
        · obtain ⟨k, k1, k2⟩ := g1 i hi
          exact ⟨k, by omega, k2⟩
        · obtain ⟨k, k1, k2⟩ := g2 p hp
          exact ⟨k, by omega, k2⟩
        · show 0 ≤ (upd (f 8) nc v k).toInt ∧ (upd (f 8) nc v k).toInt ≤ 3000
          by_cases e : k = nc
          · rw [e, xupd_i]
            exact ⟨i32_le.mp c1.2.2.1, i32_le.mp c1.2.2.2⟩
          · rw [xud e]; exact g3 k (by omega)
      · obtain ⟨g1, g2, g3, g4⟩ := hG.2.1
        exact ⟨g1, fun k hk => g2 k (by omega), g3, g4⟩
  · rw [if_pos c1]; exact sP_no h (by decide)
theorem S_setRule {w v : Int32} (h : JI n f g nc ni np nl q) (hq : q ≤ 512) : sP n f g nc ni np nl q nc ni np nl (o_setRule nc w v n f g) := by
  obtain ⟨h1, ⟨t, ht, ht2, hG⟩, h7⟩ := id h
  unfold o_setRule
  by_cases c1 : xin w nc
  · rw [if_neg (fun z => z c1)]
    by_cases c2 : xokR v
    · rw [if_neg (fun z => z c2)]
      exact sP_ok rfl ⟨xI_0 h1, ⟨t, ht, ht2, hG⟩, jL_s (f := f) h7 (Int.le_refl _) (by omega)⟩
    · rw [if_pos c2]; exact sP_no h (by decide)
  · rw [if_pos c1]; exact sP_no h (by decide)
theorem S_setRate {w v : Int32} (h : JI n f g nc ni np nl q) (hq : q ≤ 512) : sP n f g nc ni np nl q nc ni np nl (o_setRate nc w v n f g) := by
  obtain ⟨h1, ⟨t, ht, ht2, hG⟩, h7⟩ := id h
  unfold o_setRate
  by_cases c1 : xin w nc
  · rw [if_neg (fun z => z c1)]
    by_cases c2 : xokT v
    · rw [if_neg (fun z => z c2)]
      refine sP_ok rfl ⟨xI_0 h1, ⟨t, ht, ht2, ⟨hG.1.1, hG.1.2.1, fun k hk => ?_⟩, hG.2⟩, jL_s (f := f) h7 (Int.le_refl _) (by omega)⟩
      show 0 ≤ (upd (f 8) w.toNatClampNeg v k).toInt ∧ (upd (f 8) w.toNatClampNeg v k).toInt ≤ 3000
      by_cases e : k = w.toNatClampNeg
      · rw [e, xupd_i]
        exact ⟨i32_le.mp c2.1, i32_le.mp c2.2⟩
      · rw [xud e]; exact hG.1.2.2 k hk
    · rw [if_pos c2]; exact sP_no h (by decide)
  · rw [if_pos c1]; exact sP_no h (by decide)
theorem S_pauseReminders {w v : Int32} (h : JI n f g nc ni np nl q) (hq : q ≤ 512) : sP n f g nc ni np nl q nc ni np nl (o_pause nc w v n f g) := by
  obtain ⟨h1, ⟨t, ht, ht2, hG⟩, h7⟩ := id h
  unfold o_pause
  by_cases c1 : xin w nc
  · rw [if_neg (fun z => z c1)]
    by_cases c2 : 0 ≤ v ∧ v ≤ 200
    · rw [if_neg (fun z => z c2)]
      refine sP_ok rfl ⟨xI_0 h1, ⟨t, ht, ht2, hG.1, ⟨hG.2.1.1, fun k hk => ?_, hG.2.1.2.2⟩, hG.2.2⟩, jL_s (f := f) h7 (Int.le_refl _) (by omega)⟩
      show upd (f 9) w.toNatClampNeg (n 1 + v) k = 0
      have := xin_j c1 (by have := h1.2.2.2.2.1; omega)
      rw [xud (by omega)]; exact hG.2.1.2.1 k hk
    · rw [if_pos c2]; exact sP_no h (by decide)
  · rw [if_pos c1]; exact sP_no h (by decide)
theorem S_allocate {w u a : Int32} (h : JI n f g nc ni np nl q) (hq : q ≤ 512) : sP n f g nc ni np nl q nc ni np (mWl nl (-a)) (o_allocate ni np nl w u a n f g) := by
  have hnl := JI_nl h hq
  obtain ⟨h1, ⟨t, ht, ht2, hG⟩, h7⟩ := id h
  obtain ⟨-, -, -, -, b1, b2, b3, b4⟩ := id h1
  unfold o_allocate
  by_cases c1 : xin w np ∧ xin u ni
  · rw [if_neg (fun z => z c1)]
    by_cases c2 : a < 1
    · rw [if_pos c2]; exact sP_no h (by decide)
    · rw [if_neg c2]
      by_cases c3 : ¬ f 10 u.toNatClampNeg = f 19 w.toNatClampNeg ∨ f 20 w.toNatClampNeg < a ∨ f 13 u.toNatClampNeg < a
      · rw [if_pos c3]; exact sP_no h (by decide)
      · rw [if_neg c3]
        have k1 := mt i32_lt.mpr c2
        have k0 : (1 : Int32).toInt = 1 := rfl
        have k2 := mt i32_lt.mpr (fun z => c3 (Or.inr (Or.inl z)))
        have k3 := mt i32_lt.mpr (fun z => c3 (Or.inr (Or.inr z)))
        obtain ⟨g1, g2, -⟩ := JG_pay (nl := nl) (a := a) hG b2 (xin_j c1.1 b3) (xin_j c1.2 b2) (by omega) (by omega) (by omega)
        exact sP_ok mWn_0 ⟨xI_W (xI_0 h1) (by omega), ⟨t, mWn_1.trans ht, ht2, g1⟩, jL_s h7 g2 (by have := (mWl_1 (nl := nl) (a := -a)).1; omega)⟩
  · rw [if_pos c1]; exact sP_no h (by decide)
theorem S_release {w u : Int32} (h : JI n f g nc ni np nl q) (hq : q ≤ 512) : sP n f g nc ni np nl q nc ni np (mWl nl (f 22 (24 * w.toNatClampNeg + u.toNatClampNeg))) (o_release ni np nl w u n f g) := by
  have hnl := JI_nl h hq
  obtain ⟨h1, ⟨t, ht, ht2, hG⟩, h7⟩ := id h
  obtain ⟨-, -, -, -, b1, b2, b3, b4⟩ := id h1
  unfold o_release
  by_cases c1 : xin w np ∧ xin u ni
  · rw [if_neg (fun z => z c1)]
    obtain ⟨g1, g2⟩ := JG_back (nl := nl) hG b2 (xin_j c1.1 b3) (xin_j c1.2 b2)
    refine sP_ok mWn_0 ⟨xI_W (xI_0 h1) (by omega), ⟨t, mWn_1.trans ht, ht2, g1⟩, ?_⟩
    have := (mWl_1 (nl := nl) (a := f 22 (24 * w.toNatClampNeg + u.toNatClampNeg))).1
    unfold jL at h7 ⊢
    show ((mWl nl (f 22 (24 * w.toNatClampNeg + u.toNatClampNeg)) : Nat) : Int) + 24 * zc (mBf nl w.toNatClampNeg u.toNatClampNeg f) np ≤ _
    omega
  · rw [if_pos c1]; exact sP_no h (by decide)
theorem S_dispute {w a : Int32} (h : JI n f g nc ni np nl q) (hq : q ≤ 512) : sP n f g nc ni np nl q nc ni np nl (o_dispute ni w a n f g) := by
  obtain ⟨h1, ⟨t, ht, ht2, hG⟩, h7⟩ := id h
  obtain ⟨-, -, -, -, b1, b2, b3, b4⟩ := id h1
  unfold o_dispute
  by_cases c1 : xin w ni
  · rw [if_neg (fun z => z c1)]
    by_cases c2 : a < 1
    · rw [if_pos c2]; exact sP_no h (by decide)
    · rw [if_neg c2]
      by_cases c3 : f 13 w.toNatClampNeg - f 14 w.toNatClampNeg < a
      · rw [if_pos c3]; exact sP_no h (by decide)
      · rw [if_neg c3]
        have hi := xin_j c1 b2
        have k1 := mt i32_lt.mpr c2
        have k0 : (1 : Int32).toInt = 1 := rfl
        have k2 := mt i32_lt.mpr c3
        have k3 := hG.2.2.2.1.1 _ hi
        have k4 := i32_rng (f 13 w.toNatClampNeg)
        rw [i32_sub (by omega) (by omega)] at k2
        have k5 : (f 14 w.toNatClampNeg + a).toInt = (f 14 w.toNatClampNeg).toInt + a.toInt := i32_add (by omega) (by omega)
        obtain ⟨g1, g2⟩ := JG_inv (i := w.toNatClampNeg) (f' := fup f 14 (upd (f 14) w.toNatClampNeg (f 14 w.toNatClampNeg + a))) (o := f 13 w.toNatClampNeg) (u := f 14 w.toNatClampNeg + a) (w := f 17 w.toNatClampNeg) (x := f 18 w.toNatClampNeg) hG b2 hi rfl rfl rfl rfl xud_self.symm rfl rfl rfl rfl rfl rfl xud_self.symm xud_self.symm (Or.inr ⟨rfl, rfl⟩) (Int.le_refl _) (by omega)
        exact sP_ok rfl ⟨xI_0 h1, ⟨t, ht, ht2, g1⟩, jL_s h7 (by rw [g2]; exact Int.le_refl _) (by omega)⟩
  · rw [if_pos c1]; exact sP_no h (by decide)
theorem S_settle {w a : Int32} (h : JI n f g nc ni np nl q) (hq : q ≤ 512) : sP n f g nc ni np nl q nc ni np (mWl nl (-a)) (o_settle ni nl w a n f g) := by
  have hnl := JI_nl h hq
  obtain ⟨h1, ⟨t, ht, ht2, hG⟩, h7⟩ := id h
  obtain ⟨-, -, -, -, b1, b2, b3, b4⟩ := id h1
  unfold o_settle
  by_cases c1 : xin w ni
  · rw [if_neg (fun z => z c1)]
    by_cases c2 : f 14 w.toNatClampNeg = 0
    · rw [if_pos c2]; exact sP_no h (by decide)
    · rw [if_neg c2]
      by_cases c3 : 0 ≤ a ∧ a ≤ f 14 w.toNatClampNeg
      · rw [if_neg (fun z => z c3)]
        have hi := xin_j c1 b2
        have k1 := i32_le.mp c3.1
        have k2 := i32_le.mp c3.2
        rw [i32_z] at k1
        have k3 := hG.2.2.2.1.1 _ hi
        have k4 := i32_rng (f 13 w.toNatClampNeg)
        have k5 : (f 13 w.toNatClampNeg - a).toInt = (f 13 w.toNatClampNeg).toInt - a.toInt := i32_sub (by omega) (by omega)
        have key : JG nc ni np t (mSf nl w.toNatClampNeg a f) g ∧ zc (mSf nl w.toNatClampNeg a f) np = zc f np := by
          unfold mSf
          by_cases c4 : f 13 w.toNatClampNeg - a = 0
          · rw [if_pos c4]
            obtain ⟨g1, g2⟩ := JG_inv (i := w.toNatClampNeg) (f' := fup (fup (fup (fup f 13 (upd (f 13) w.toNatClampNeg (f 13 w.toNatClampNeg - a))) 14 (upd (f 14) w.toNatClampNeg 0)) 17 (upd (f 17) w.toNatClampNeg 0)) 18 (upd (f 18) w.toNatClampNeg 0)) (o := f 13 w.toNatClampNeg - a) (u := 0) (w := 0) (x := 0) hG b2 hi rfl rfl rfl rfl rfl rfl rfl rfl rfl rfl rfl rfl rfl (Or.inl rfl) (by omega) (by rw [i32_z]; omega)
            exact ⟨JG_w g1, (zc_c (mWf_o (by decide) (by decide))).trans g2⟩
          · rw [if_neg c4]
            obtain ⟨g1, g2⟩ := JG_inv (i := w.toNatClampNeg) (f' := fup (fup f 13 (upd (f 13) w.toNatClampNeg (f 13 w.toNatClampNeg - a))) 14 (upd (f 14) w.toNatClampNeg 0)) (o := f 13 w.toNatClampNeg - a) (u := 0) (w := f 17 w.toNatClampNeg) (x := f 18 w.toNatClampNeg) hG b2 hi rfl rfl rfl rfl rfl rfl rfl rfl rfl rfl rfl xud_self.symm xud_self.symm (Or.inr ⟨rfl, rfl⟩) (by omega) (by rw [i32_z]; omega)
            exact ⟨JG_w g1, (zc_c (mWf_o (by decide) (by decide))).trans g2⟩
        exact sP_ok mWn_0 ⟨xI_W (xI_0 h1) (by omega), ⟨t, mWn_1.trans ht, ht2, key.1⟩, jL_s h7 (by rw [key.2]; exact Int.le_refl _) (by have := (mWl_1 (nl := nl) (a := -a)).1; omega)⟩
      · rw [if_pos c3]; exact sP_no h (by decide)
  · rw [if_pos c1]; exact sP_no h (by decide)
/-- a new invoice -/
theorem JG_new {t k : Nat} {f' : Nat → Nat → Int32} {a b : Int32} (hG : JG nc ni np t f g) (hi : ni < 24) (hk : k < nc) (e8 : f' 8 = f 8) (e9 : f' 9 = f 9) (e10 : f' 10 = upd (f 10) ni (nI k)) (e11 : f' 11 = upd (f 11) ni a) (e13 : f' 13 = upd (f 13) ni a) (e14 : f' 14 = f 14) (e16 : f' 16 = upd (f 16) ni b) (e17 : f' 17 = f 17) (e18 : f' 18 = f 18) (e19 : f' 19 = f 19) (e20 : f' 20 = f 20) (e21 : f' 21 = f 21) (e22 : f' 22 = f 22) (ha : 0 ≤ a.toInt) (hb : b = bI (¬ b = 0)) (hab : b = 0 → a.toInt ≤ 10000000) : JG nc (ni + 1) np t f' g := by
  obtain ⟨⟨o1, o2, o3⟩, ⟨z1, z2, z3, z4⟩, ⟨w1, w2⟩, ⟨m1, m2, m3, m4, m5⟩, a1, a2⟩ := hG
  obtain ⟨y14, y17, y18, y15⟩ := z1 ni (Nat.le_refl _)
  refine ⟨⟨fun i hj => ?_, by rw [e19]; exact o2, by rw [e8]; exact o3⟩, ⟨fun i hj => by rw [e14, e17, e18]; exact z1 i (by omega), by rw [e9]; exact z2, by rw [e21]; exact z3, fun p i hj hq => by rw [e22]; exact z4 p i hj (by omega)⟩, ⟨fun i hj h4 => ?_, fun i hj => ?_⟩, ⟨fun i hj => ?_, fun i hj => ?_, fun p hp => ?_, fun p i hp hj => ?_, fun p hp hp2 => ?_⟩, fun i hj => ?_, fun i hj h16 => ?_⟩
  · rw [e10]
    by_cases e : i = ni
    · rw [e, xupd_i]; exact ⟨k, hk, rfl⟩
    · rw [xud e]; exact o1 i (by omega)
  · rw [e17] at h4 ⊢
    rw [e18]
    by_cases e : i = ni
    · rw [e, y18]; exact ⟨0, rfl, xpn_pos _⟩
    · exact w1 i (by omega) h4
  · rw [e16]
    by_cases e : i = ni
    · rw [e, xupd_i]; exact hb
    · rw [xud e]; exact w2 i (by omega)
  · rw [e14, e13]
    by_cases e : i = ni
    · rw [e, xupd_i, y14, i32_z]; exact ⟨Int.le_refl _, ha⟩
    · rw [xud e]; exact m1 i (by omega)
  · rw [e13, e11, e22]
    by_cases e : i = ni
    · have e0 : zs (fun p => (f 22 (24 * p + i)).toInt) np ≤ np * 0 := zs_bd np (fun p _ => by show (f 22 (24 * p + i)).toInt ≤ 0; rw [z4 p i (by omega) (by omega)]; exact Int.le_refl _)
      rw [e, xupd_i, xupd_i]
      rw [e] at e0
      omega
    · rw [xud e, xud e]; exact m2 i (by omega)
  · rw [e20, e22, zs_s, z4 p ni hi (by omega), i32_z, Int.add_zero]
    exact m3 p hp
  · rw [e22]
    by_cases e : i = ni
    · rw [e, z4 p ni hi (by omega), i32_z]; exact Int.le_refl _
    · exact m4 p i hp (by omega)
  · rw [e21] at hp2
    rw [e20, e22]
    obtain ⟨k1, k2⟩ := m5 p hp hp2
    refine ⟨k1, fun i hj => ?_⟩
    by_cases e : i = ni
    · rw [e]; exact z4 p ni hi (by omega)
    · exact k2 i (by omega)
  · by_cases e : i = ni
    · rw [e, y15, i64_z]; exact ⟨Int.le_refl _, by omega⟩
    · exact a1 i (by omega)
  · rw [e16] at h16
    rw [e11]
    by_cases e : i = ni
    · rw [e, xupd_i] at h16
      rw [e, xupd_i]; exact hab h16
    · rw [xud e] at h16
      rw [xud e]; exact a2 i (by omega) h16
theorem S_postInvoice {w a t : Int32} (h : JI n f g nc ni np nl q) (hq : q ≤ 512) : sP n f g nc ni np nl q nc (ni + 1) np (mWl nl a) (o_postInvoice nc ni nl w a t n f g) := by
  have hnl := JI_nl h hq
  obtain ⟨h1, ⟨t0, ht, ht2, hG⟩, h7⟩ := id h
  obtain ⟨x2, x3, x4, x5, b1, b2, b3, b4⟩ := id h1
  unfold o_postInvoice
  by_cases c1 : xin w nc
  · rw [if_neg (fun z => z c1)]
    by_cases c2 : xokA a ∧ xokD t
    · rw [if_neg (fun z => z c2)]
      by_cases c3 : ni = 24
      · rw [if_pos c3]; exact sP_no h (by decide)
      · rw [if_neg c3]
        have k1 := i32_le.mp c2.1.1
        have k2 := i32_le.mp c2.1.2
        have k0 : (1 : Int32).toInt = 1 := rfl
        have kA : (10000000 : Int32).toInt = 10000000 := rfl
        have g1 := JG_new (f' := (fup (fup (fup (fup (fup f 10 (upd (f 10) ni w)) 11 (upd (f 11) ni a)) 12 (upd (f 12) ni (n 1 + t))) 13 (upd (f 13) ni a)) 16 (upd (f 16) ni 0))) (a := a) (b := 0) hG (by omega) (xin_j c1 (by omega)) rfl rfl (congrArg (upd (f 10) ni) (xin_e c1 (by omega))) rfl rfl rfl rfl rfl rfl rfl rfl rfl rfl (by omega) (by decide) (fun _ => by omega)
        have hx := xI_W (a := a) (xI_0 (w := 0) h1) (by omega : nl < 16000)
        obtain ⟨q2, q3, q4, q5, -⟩ := hx
        refine sP_ok (mEn_0 (ni := ni)) ⟨⟨q2, (show nup (mWn nl a (nup n 0 0)) 3 (nI (ni + 1)) 3 = nI (ni + 1) from nup_s), q4, q5, b1, by omega, b3, by have := (mWl_1 (nl := nl) (a := a)).1; omega⟩, ⟨t0, (mEn_1 (ni := ni)).trans ht, ht2, JG_w g1⟩, jL_s (f := f) h7 (by rw [zc_c (f := f) (show mEf ni nl w a t 0 n f 20 = f 20 from mWf_o (by decide) (by decide))]; exact Int.le_refl _) (by have := (mWl_1 (nl := nl) (a := a)).1; omega)⟩
    · rw [if_pos c2]; exact sP_no h (by decide)
  · rw [if_pos c1]; exact sP_no h (by decide)
end JCALLS
