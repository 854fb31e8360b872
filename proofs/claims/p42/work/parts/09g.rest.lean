section JREST
variable {n : Nat → Int32} {f : Nat → Nat → Int32} {g : Nat → Nat → Int64} {nc ni np nl q t : Nat}
theorem JG_all (hG : JG nc ni np t f g) (hn : ni ≤ 24) (c : Int32) : ∀ i, i < ni → ¬ xclr f c i = 0 → ¬ xall f c ni = 0 := fun i hi hz hT => by
  have hw := JG_W hG
  have e1 := (xall_z (f := f) (c := c) hn).1
  rw [hT, i64_z] at e1
  have e2 := zs_mem (t := zw ni f c) ni (fun i _ => hw c i) hi
  have e3 := hw c i
  exact hz (i64_inj (by rw [zw_xclr hi, i64_z]; omega))
theorem mAok_of {p w : Nat} (hG : JG nc ni np t f g) (hn : ni ≤ 24) (hl : nl + ni < 16000) : mAok ni nl p w n f g := fun _ => ⟨JG_all hG hn (nI w), fun k hk _ => by
  unfold mAst
  rw [← (cMv_mAS k).1]
  have := cMv_le (p := p) (nl := nl) (sh := mAsh ni p w f g 25) (f := mAsh ni p w f g) k
  omega⟩
/-- a new payment -/
theorem JG_newp {k : Nat} {a : Int32} (hG : JG nc ni np t f g) (hn : ni ≤ 24) (hk : k < nc) (ha : 0 < a.toInt ∧ a.toInt ≤ 10000000) : JG nc ni (np + 1) t (fup (fup f 19 (upd (f 19) np (nI k))) 20 (upd (f 20) np a)) g ∧ zc (fup (fup f 19 (upd (f 19) np (nI k))) 20 (upd (f 20) np a)) (np + 1) = zc f np + 1 := by
  obtain ⟨⟨o1, o2, o3⟩, ⟨z1, z2, z3, z4⟩, w1, ⟨m1, m2, m3, m4, m5⟩, a1⟩ := hG
  refine ⟨⟨⟨o1, fun p hp => ?_, o3⟩, ⟨z1, z2, fun p hp => z3 p (by omega), fun p i hi hz => z4 p i hi (by omega)⟩, w1, ⟨m1, fun i hi => ?_, fun p hp => ?_, fun p i hp hi => ?_, fun p hp hr => ?_⟩, a1⟩, ?_⟩
  · show ∃ j, j < nc ∧ upd (f 19) np (nI k) p = nI j
    by_cases e : p = np
    · exact ⟨k, hk, by rw [e, xupd_i]⟩
    · rw [xud e]; exact o2 p (by omega)
  · show (f 13 i).toInt + zs (fun p => (f 22 (24 * p + i)).toInt) (np + 1) ≤ (f 11 i).toInt
    rw [zs_s, z4 np i (by omega) (Or.inl (Nat.le_refl np)), i32_z, Int.add_zero]
    exact m2 i hi
  · show 0 ≤ (upd (f 20) np a p).toInt ∧ (upd (f 20) np a p).toInt + zs (fun i => (f 22 (24 * p + i)).toInt) ni ≤ 10000000
    by_cases e : p = np
    · have e0 : zs (fun i => (f 22 (24 * np + i)).toInt) ni ≤ ni * 0 := zs_bd ni (fun i hi => by show (f 22 (24 * np + i)).toInt ≤ 0; rw [z4 np i (by omega) (Or.inl (Nat.le_refl np))]; exact Int.le_refl _)
      rw [e, xupd_i]
      omega
    · rw [xud e]; exact m3 p (by omega)
  · show 0 ≤ (f 22 (24 * p + i)).toInt
    by_cases e : p = np
    · rw [e, z4 np i (by omega) (Or.inl (Nat.le_refl np)), i32_z]; exact Int.le_refl _
    · exact m4 p i (by omega) hi
  · have e : p ≠ np := fun z => hr (by rw [z]; exact z3 np (Nat.le_refl np))
    show upd (f 20) np a p = 0 ∧ _
    rw [xud e]
    exact m5 p (by omega) hr
  · have hane : ¬ a = 0 := fun z => by rw [z, i32_z] at ha; omega
    show zs (fun p => if upd (f 20) np a p = 0 then (0 : Int) else 1) (np + 1) = zc f np + 1
    rw [zs_s, xupd_i, if_neg hane]
    have : zs (fun p => if upd (f 20) np a p = 0 then (0 : Int) else 1) np = zc f np := zs_congr np (fun i hi => by show (if upd (f 20) np a i = 0 then (0 : Int) else 1) = _; rw [xud (by omega)])
    rw [this]
theorem S_postPayment {w a : Int32} (h : JI n f g nc ni np nl q) (hq : q ≤ 512) : sP n f g nc ni np nl q nc ni (np + 1) (mAR ni nl np w.toNatClampNeg (nup (nup n 0 0) 4 (nI (np + 1))) (fup (fup f 19 (upd (f 19) np w)) 20 (upd (f 20) np a)) g).2.1 (o_postPayment nc ni np nl w a n f g) := by
  have hnl := JI_nl h hq
  obtain ⟨h1, ⟨t, ht, ht2, hG⟩, h7⟩ := id h
  obtain ⟨x2, x3, x4, x5, b1, b2, b3, b4⟩ := id h1
  unfold o_postPayment
  by_cases c1 : xin w nc
  · rw [if_neg (fun z => z c1)]
    by_cases c2 : xokA a
    · rw [if_neg (fun z => z c2)]
      by_cases c3 : np = 24
      · rw [if_pos c3]; exact sP_no h (by decide)
      · rw [if_neg c3]
        have k1 := i32_le.mp c2.1
        have k2 := i32_le.mp c2.2
        have k0 : (1 : Int32).toInt = 1 := rfl
        have kA : (10000000 : Int32).toInt = 10000000 := rfl
        have ew := xin_e c1 (by omega)
        have hnew := JG_newp (k := w.toNatClampNeg) (a := a) hG b2 (xin_j c1 (by omega)) (by omega)
        rw [← ew] at hnew
        obtain ⟨g1, g2⟩ := hnew
        have hx0 : xI (nup (nup n 0 0) 4 (nI (np + 1))) nc ni (np + 1) nl := ⟨x2, x3, nup_s, x5, b1, b2, by omega, b4⟩
        have hx := mAR_I hx0 (mAok_of (n := (nup (nup n 0 0) 4 (nI (np + 1)))) (nl := nl) (p := np) (w := w.toNatClampNeg) g1 b2 (by omega))
        obtain ⟨r1, r2, -, -⟩ := JAR (n := (nup (nup n 0 0) 4 (nI (np + 1)))) (nl := nl) (p := np) (w := w.toNatClampNeg) g1 b2 (Nat.lt_succ_self np)
        refine sP_ok (mAR_nn (Or.inl rfl)) ⟨hx, ⟨t, (mAR_nn (n := (nup (nup n 0 0) 4 (nI (np + 1)))) (Or.inr rfl)).trans ht, ht2, r1⟩, ?_⟩
        unfold jL at h7 ⊢
        show (((mAR ni nl np w.toNatClampNeg (nup (nup n 0 0) 4 (nI (np + 1))) (fup (fup f 19 (upd (f 19) np w)) 20 (upd (f 20) np a)) g).2.1 : Nat) : Int) + 24 * zc (mAR ni nl np w.toNatClampNeg (nup (nup n 0 0) 4 (nI (np + 1))) (fup (fup f 19 (upd (f 19) np w)) 20 (upd (f 20) np a)) g).2.2.2.1 (np + 1) ≤ _
        rw [g2] at r2
        rcases r2 with r2 | r2 <;> omega
    · rw [if_pos c2]; exact sP_no h (by decide)
  · rw [if_pos c1]; exact sP_no h (by decide)
/-- the rests of the first k payments of a customer -/
theorem mRS_G {w : Nat} (hG : JG nc ni np t f g) (hn : ni ≤ 24) (hb : (nl : Int) + 24 * zc f np ≤ 13376) : ∀ k, k ≤ np → JG nc ni np t (mRS ni nl w n f g k).2.2.2.1 (mRS ni nl w n f g k).2.2.2.2 ∧ ((((mRS ni nl w n f g k).2.1 : Nat) : Int) + 24 * zc (mRS ni nl w n f g k).2.2.2.1 np ≤ nl + 24 * zc f np ∨ ((((mRS ni nl w n f g k).2.1 : Nat) : Int) + 24 * zc (mRS ni nl w n f g k).2.2.2.1 np ≤ nl + 24 * zc f np + 24 ∧ ∀ j, j < ni → zw ni (mRS ni nl w n f g k).2.2.2.1 (nI w) j = 0)) := by
  intro k
  induction k with
  | zero => intro _; exact ⟨hG, Or.inl (Int.le_refl _)⟩
  | succ k ih =>
    intro hk
    obtain ⟨h1, h2⟩ := ih (by omega)
    by_cases hs : f 19 k = nI w
    · rw [mRS_t hs]
      obtain ⟨r1, r2, r3, -⟩ := JAR (n := (mRS ni nl w n f g k).2.2.1) (nl := (mRS ni nl w n f g k).2.1) (p := k) (w := w) h1 hn (by omega : k < np)
      refine ⟨r1, ?_⟩
      show (((mAR ni (mRS ni nl w n f g k).2.1 k w (mRS ni nl w n f g k).2.2.1 (mRS ni nl w n f g k).2.2.2.1 (mRS ni nl w n f g k).2.2.2.2).2.1 : Nat) : Int) + 24 * zc (mAR ni (mRS ni nl w n f g k).2.1 k w (mRS ni nl w n f g k).2.2.1 (mRS ni nl w n f g k).2.2.2.1 (mRS ni nl w n f g k).2.2.2.2).2.2.2.1 np ≤ _ ∨ ((((mAR ni (mRS ni nl w n f g k).2.1 k w (mRS ni nl w n f g k).2.2.1 (mRS ni nl w n f g k).2.2.2.1 (mRS ni nl w n f g k).2.2.2.2).2.1 : Nat) : Int) + 24 * zc (mAR ni (mRS ni nl w n f g k).2.1 k w (mRS ni nl w n f g k).2.2.1 (mRS ni nl w n f g k).2.2.2.1 (mRS ni nl w n f g k).2.2.2.2).2.2.2.1 np ≤ _ ∧ ∀ j, j < ni → zw ni (mAR ni (mRS ni nl w n f g k).2.1 k w (mRS ni nl w n f g k).2.2.1 (mRS ni nl w n f g k).2.2.2.1 (mRS ni nl w n f g k).2.2.2.2).2.2.2.1 (nI w) j = 0)
      rcases h2 with h2 | ⟨h2, h3⟩
      · rcases r2 with r2 | ⟨r2, r4⟩
        · exact Or.inl (by omega)
        · exact Or.inr ⟨by omega, r4⟩
      · obtain ⟨q1, q2, q3⟩ := r3 h3
        exact Or.inr ⟨by rw [q1, q2]; exact h2, q3⟩
    · rw [mRS_f hs]
      exact ⟨h1, h2⟩
theorem mRS_nl {w : Nat} (hG : JG nc ni np t f g) (hn : ni ≤ 24) (hb : (nl : Int) + 24 * zc f np ≤ 13376) {k : Nat} (hk : k ≤ np) : (mRS ni nl w n f g k).2.1 + ni < 16000 := by
  have h := (mRS_G (n := n) (w := w) hG hn hb k hk).2
  have h0 := (zc_b (mRS ni nl w n f g k).2.2.2.1 np).1
  rcases h with h | h <;> omega
theorem mRok_of {w : Nat} (hG : JG nc ni np t f g) (hn : ni ≤ 24) (hb : (nl : Int) + 24 * zc f np ≤ 13376) : mRok ni np nl w n f g := fun k hk _ => mAok_of (mRS_G (n := n) (w := w) hG hn hb k (by omega)).1 hn (mRS_nl hG hn hb (by omega))
theorem cRok_of {w : Nat} (hG : JG nc ni np t f g) (hn : ni ≤ 24) (hb : (nl : Int) + 24 * zc f np ≤ 13376) : cRok ni np nl w n f g := fun k hk => by
  have h := (mRS_G (n := n) (w := w) hG hn hb k hk).1
  refine ⟨JG_W h, fun p hp => ⟨(h.2.2.2.1.2.2.1 p hp).1, fun hr => ?_⟩, mRS_nl hG hn hb hk⟩
  exact (h.2.2.2.1.2.2.2.2 p hp (fun z => hr ((congrFun (mRS_o (by decide) (by decide) k) p).symm.trans z))).1
theorem S_allocateRest {w : Int32} (h : JI n f g nc ni np nl q) (hq : q ≤ 512) : sP n f g nc ni np nl q nc ni np (mRS ni nl w.toNatClampNeg (nup n 0 0) f g np).2.1 (o_allocateRest nc ni np nl w n f g) := by
  have hnl := JI_nl h hq
  obtain ⟨h1, ⟨t, ht, ht2, hG⟩, h7⟩ := id h
  obtain ⟨x2, x3, x4, x5, b1, b2, b3, b4⟩ := id h1
  have hb : (nl : Int) + 24 * zc f np ≤ 13376 := by
    unfold jL at h7
    omega
  unfold o_allocateRest
  by_cases c1 : xin w nc
  · rw [if_neg (fun z => z c1)]
    have hx := mRS_I (xI_0 (w := 0) h1) (mRok_of (n := nup n 0 0) (w := w.toNatClampNeg) hG b2 hb) np (Nat.le_refl _)
    obtain ⟨g1, g2⟩ := mRS_G (n := nup n 0 0) (w := w.toNatClampNeg) hG b2 hb np (Nat.le_refl _)
    refine sP_ok (mRS_nn (Or.inl rfl) np) ⟨hx, ⟨t, (mRS_nn (n := nup n 0 0) (Or.inr rfl) np).trans ht, ht2, g1⟩, ?_⟩
    unfold jL at h7 ⊢
    show (((mRS ni nl w.toNatClampNeg (nup n 0 0) f g np).2.1 : Nat) : Int) + 24 * zc (mRS ni nl w.toNatClampNeg (nup n 0 0) f g np).2.2.2.1 np ≤ _
    rcases g2 with g2 | g2 <;> omega
  · rw [if_pos c1]; exact sP_no h (by decide)
theorem JI_b (h : JI n f g nc ni np nl q) (hq : q ≤ 512) : (nl : Int) + 24 * zc f np ≤ 13376 := by
  obtain ⟨h1, -, h7⟩ := h
  have := h1.2.2.2.2.2.2.1
  unfold jL at h7
  omega
end JREST
