/-! each call keeps the law's own books -/
section KCK
variable {nc ni np nl t p i : Nat} {n : Nat → Int32} {f f' : Nat → Nat → Int32} {g g' : Nat → Nat → Int64} {O G P M R : Nat → Int32} {a : Int32}
def kT (nc ni np : Nat) (f : Nat → Nat → Int32) (g : Nat → Nat → Int64) (O G P M R : Nat → Int32) : Prop :=
  (∀ i, i < ni → O i = f 10 i) ∧ (∀ p, p < np → P p = f 19 p) ∧ (∀ c, c < nc → R c = f 6 c ∧ (f 6 c = 0 ∨ f 6 c = 1 ∨ f 6 c = 2)) ∧ (∀ p, p < np → (f 21 p = 0 ↔ ¬ M p = 0)) ∧ (∀ i, i < ni → 0 ≤ (f 12 i).toInt ∧ (f 12 i).toInt ≤ 1580) ∧ (∀ c, c < nc → 0 ≤ (f 9 c).toInt ∧ (f 9 c).toInt ≤ 1660) ∧ (∀ i, i < ni → ¬ f 16 i = 0 → g 15 i = 0) ∧ ∀ i, ni ≤ i → G i = 0
def kK (nc ni np nl : Nat) (f : Nat → Nat → Int32) (g : Nat → Nat → Int64) (O G P M R : Nat → Int32) : Prop := kX ni np nl f G M ∧ kT nc ni np f g O G P M R
theorem kT_c (h : kT nc ni np f g O G P M R) (e6 : f' 6 = f 6) (e9 : f' 9 = f 9) (e10 : f' 10 = f 10) (e12 : f' 12 = f 12) (e16 : f' 16 = f 16) (e19 : f' 19 = f 19) (e21 : f' 21 = f 21) (e15 : g' 15 = g 15) : kT nc ni np f' g' O G P M R := by
  unfold kT at h ⊢
  rw [e6, e9, e10, e12, e16, e19, e21, e15]
  exact h
theorem kM_c (h : kM ni np f G M) (e10 : f' 10 = f 10) (e11 : f' 11 = f 11) (e13 : f' 13 = f 13) (e19 : f' 19 = f 19) (e20 : f' 20 = f 20) (e22 : f' 22 = f 22) : kM ni np f' G M := by
  unfold kM at h ⊢
  rw [e10, e11, e13, e19, e20, e22]
  exact h
theorem kL_c (h : kL ni nl f) (e13 : f' 13 = f 13) (e23 : f' 23 = f 23) (e24 : f' 24 = f 24) : kL ni nl f' := by
  unfold kL xlin at h ⊢
  rw [e13, e23, e24]
  exact h
theorem K_allocate (hG : JG nc ni np t f g) (h : kK nc ni np nl f g O G P M R) (hn : ni ≤ 24) (hp : p < np) (hi : i < ni) (ha : 0 < a.toInt) (ha1 : a.toInt ≤ (f 20 p).toInt) (ha2 : a.toInt ≤ (f 13 i).toInt) (how : f 10 i = f 19 p) : kK nc ni np (mWl nl (-a)) (mPf nl p i a f) g O G P M R :=
  ⟨kX_put hG h.1 hn hp hi ha ha1 ha2 how, kT_c h.2 (mPf_o (by decide)) (mPf_o (by decide)) (mPf_o (by decide)) (mPf_o (by decide)) (mPf_o (by decide)) (mPf_o (by decide)) (mPf_o (by decide)) rfl⟩
theorem K_release (hG : JG nc ni np t f g) (h : kK nc ni np nl f g O G P M R) (hn : ni ≤ 24) (hp : p < np) (hi : i < ni) : kK nc ni np (mWl nl (f 22 (24 * p + i))) (mBf nl p i f) g O G P M R :=
  ⟨kX_back hG h.1 hn hp hi, kT_c h.2 (mBf_o (by decide)) (mBf_o (by decide)) (mBf_o (by decide)) (mBf_o (by decide)) (mBf_o (by decide)) (mBf_o (by decide)) (mBf_o (by decide)) rfl⟩
theorem K_reverse (hG : JG nc ni np t f g) (h : kK nc ni np nl f g O G P M R) (hn : ni ≤ 24) (hp : p < np) (h21 : f 21 p = 0) : kK nc ni np (mVS p nl n f ni).2.1 (fup (fup (mVS p nl n f ni).2.2.2 20 (upd ((mVS p nl n f ni).2.2.2 20) p 0)) 21 (upd ((mVS p nl n f ni).2.2.2 21) p 1)) g O G P (upd M p 0) R := by
  have hv := mVS_K (n := n) (nl := nl) hG hn hp h21 h.1 ni (Nat.le_refl _)
  have hz := (mVS_G (nl := nl) (m := n) hG hn hp h21 ni (Nat.le_refl _)).2.1
  have o : ∀ {j : Nat}, j ≠ 23 ∧ j ≠ 24 ∧ j ≠ 22 ∧ j ≠ 20 ∧ j ≠ 13 → (mVS p nl n f ni).2.2.2 j = f j := fun hj => mVS_o hj ni
  have h21' : (mVS p nl n f ni).2.2.2 21 = f 21 := o (by decide)
  have hT : kT nc ni np (mVS p nl n f ni).2.2.2 g O G P M R := kT_c h.2 (o (by decide)) (o (by decide)) (o (by decide)) (o (by decide)) (o (by decide)) (o (by decide)) h21' rfl
  generalize (mVS p nl n f ni).2.2.2 = F at *
  obtain ⟨⟨m1, m2, m3⟩, hL, hV⟩ := hv
  obtain ⟨t1, t2, t3, t4, t5, t6, t7, t8⟩ := hT
  refine ⟨⟨⟨m1, fun q hq => ?_, m3⟩, hL, hV⟩, t1, t2, t3, fun q hq => ?_, t5, t6, t7, t8⟩
  · show (upd M p 0 q).toInt = (upd (F 20) p 0 q).toInt + zs (fun i => (F 22 (24 * q + i)).toInt) ni
    by_cases e : q = p
    · rw [e, xupd_i, xupd_i, zs_all0 (fun j hj => by rw [hz j hj]; rfl)]; rfl
    · rw [xud e, xud e]; exact m2 q hq
  · show upd (F 21) p 1 q = 0 ↔ ¬ upd M p 0 q = 0
    by_cases e : q = p
    · rw [e, xupd_i, xupd_i]; decide
    · rw [xud e, xud e]; exact t4 q hq
theorem K_settle (hG : JG nc ni np t f g) (h : kK nc ni np nl f g O G P M R) (hn : ni ≤ 24) (hi : i < ni) (ha : 0 ≤ a.toInt) (ha2 : a.toInt ≤ (f 14 i).toInt) : kK nc ni np (mWl nl (-a)) (mSf nl i a f) g O (upd G i (G i + a)) P M R := by
  obtain ⟨⟨⟨m1, m2, m3⟩, hL, hV⟩, t1, t2, t3, t4, t5, t6, t7, t8⟩ := h
  have h13 := hG.2.2.2.1.1 i hi
  have hr := i32_rng (f 13 i)
  have hr2 := i32_rng (f 11 i)
  have h11 := m1 i hi
  have hz0 := zs_nn (t := fun p => (f 22 (24 * p + i)).toInt) np (fun p hp => hG.2.2.2.1.2.2.2.1 p i hp hi)
  have hm2 := hG.2.2.2.1.2.1 i hi
  have eo : (f 13 i - a).toInt = (f 13 i).toInt - a.toInt := i32_sub (by omega) (by omega)
  have eg : (G i + a).toInt = (G i).toInt + a.toInt := i32_add (by omega) (by omega)
  have key : ∃ F : Nat → Nat → Int32, mSf nl i a f = mWf nl i (-a) F ∧ F 13 = upd (f 13) i (f 13 i - a) ∧ F 17 = upd (f 17) i (if f 13 i - a = 0 then 0 else f 17 i) ∧ ∀ j, j ≠ 13 → j ≠ 14 → j ≠ 17 → j ≠ 18 → F j = f j := by
    unfold mSf
    by_cases z : f 13 i - a = 0
    · rw [if_pos z, if_pos z]
      refine ⟨_, rfl, rfl, rfl, fun j a1 a2 a3 a4 => ?_⟩
      rw [fup_n a4, fup_n a3, fup_n a2, fup_n a1]
    · rw [if_neg z, if_neg z, xud_self]
      refine ⟨_, rfl, rfl, rfl, fun j a1 a2 a3 a4 => ?_⟩
      rw [fup_n a2, fup_n a1]
  obtain ⟨F, k0, k13, k17, ko⟩ := key
  have o : ∀ {j : Nat}, j ≠ 13 ∧ j ≠ 14 ∧ j ≠ 17 ∧ j ≠ 18 ∧ j ≠ 23 ∧ j ≠ 24 → mWf nl i (-a) F j = f j := fun hj => (mWf_o hj.2.2.2.2.1 hj.2.2.2.2.2).trans (ko _ hj.1 hj.2.1 hj.2.2.1 hj.2.2.2.1)
  rw [k0]
  have w13 : mWf nl i (-a) F 13 = upd (f 13) i (f 13 i - a) := (mWf_o (by decide) (by decide)).trans k13
  have w17 : mWf nl i (-a) F 17 = upd (f 17) i (if f 13 i - a = 0 then 0 else f 17 i) := (mWf_o (by decide) (by decide)).trans k17
  refine ⟨⟨⟨fun j hj => ?_, fun q hq => ?_, fun q j hq hj hz => ?_⟩, kL_put hL hn hi (ko 23 (by decide) (by decide) (by decide) (by decide)) (ko 24 (by decide) (by decide) (by decide) (by decide)) k13 xk_sb, kV_put hV w13 w17 rfl⟩, ?_⟩
  · rw [o (j := 11) (by decide), o (j := 22) (by decide), w13]
    by_cases e : j = i
    · subst e
      rw [xupd_i, xupd_i, eo, eg]
      omega
    · rw [xud e, xud e]; exact m1 j hj
  · rw [o (j := 20) (by decide), o (j := 22) (by decide)]; exact m2 q hq
  · rw [o (j := 10) (by decide), o (j := 19) (by decide)] at hz
    rw [o (j := 22) (by decide)]; exact m3 q j hq hj hz
  · have hT : kT nc ni np f g O (upd G i (G i + a)) P M R := ⟨t1, t2, t3, t4, t5, t6, t7, fun j hj => by rw [xud (by omega)]; exact t8 j hj⟩
    exact kT_c hT (o (by decide)) (o (by decide)) (o (by decide)) (o (by decide)) (o (by decide)) (o (by decide)) (o (by decide)) rfl
theorem K_disputed {v w : Nat → Int32} {g1 : Nat → Nat → Int64} (h : kK nc ni np nl f g O G P M R) (e : g1 15 = g 15) : kK nc ni np nl (fup (fup f 25 v) 14 w) g1 O G P M R := ⟨h.1, kT_c h.2 rfl rfl rfl rfl rfl rfl rfl e⟩
theorem K_rule {c : Nat} {v : Int32} (h : kK nc ni np nl f g O G P M R) (hv : v = 0 ∨ v = 1 ∨ v = 2) : kK nc ni np nl (fup f 6 (upd (f 6) c v)) g O G P M (upd R c v) := by
  obtain ⟨hX, t1, t2, t3, t4, t5, t6, t7, t8⟩ := h
  refine ⟨hX, t1, t2, fun k hk => ?_, t4, t5, t6, t7, t8⟩
  show upd R c v k = upd (f 6) c v k ∧ (upd (f 6) c v k = 0 ∨ upd (f 6) c v k = 1 ∨ upd (f 6) c v k = 2)
  by_cases e : k = c
  · rw [e, xupd_i, xupd_i]; exact ⟨rfl, hv⟩
  · rw [xud e, xud e]; exact t3 k hk
theorem K_pause {c : Nat} {v : Int32} (h : kK nc ni np nl f g O G P M R) (hv : 0 ≤ v.toInt ∧ v.toInt ≤ 1660) : kK nc ni np nl (fup f 9 (upd (f 9) c v)) g O G P M R := by
  obtain ⟨hX, t1, t2, t3, t4, t5, t6, t7, t8⟩ := h
  refine ⟨hX, t1, t2, t3, t4, t5, fun k hk => ?_, t7, t8⟩
  show 0 ≤ (upd (f 9) c v k).toInt ∧ (upd (f 9) c v k).toInt ≤ 1660
  by_cases e : k = c
  · rw [e, xupd_i]; exact hv
  · rw [xud e]; exact t6 k hk
theorem K_customer {r v w : Int32} (h : kK nc ni np nl f g O G P M R) (hG : JG nc ni np t f g) (hr : r = 0 ∨ r = 1 ∨ r = 2) : kK (nc + 1) ni np nl (fup (fup (fup f 6 (upd (f 6) nc r)) 7 (upd (f 7) nc v)) 8 (upd (f 8) nc w)) g O G P M (upd R nc r) := by
  obtain ⟨hX, t1, t2, t3, t4, t5, t6, t7, t8⟩ := h
  refine ⟨hX, t1, t2, fun k hk => ?_, t4, t5, fun k hk => ?_, t7, t8⟩
  · show upd R nc r k = upd (f 6) nc r k ∧ (upd (f 6) nc r k = 0 ∨ upd (f 6) nc r k = 1 ∨ upd (f 6) nc r k = 2)
    by_cases e : k = nc
    · rw [e, xupd_i, xupd_i]; exact ⟨rfl, hr⟩
    · rw [xud e, xud e]; exact t3 k (by omega)
  · show 0 ≤ (f 9 k).toInt ∧ (f 9 k).toInt ≤ 1660
    by_cases e : k = nc
    · rw [e, hG.2.1.2.1 nc (Nat.le_refl _)]; decide
    · exact t6 k (by omega)
/-- a new invoice -/
theorem K_new {c a d b : Int32} (h : kK nc ni np nl f g O G P M R) (hG : JG nc ni np t f g) (hn : ni < 24) (ha : ¬ a = 0) (e10 : f' 10 = upd (f 10) ni c) (e11 : f' 11 = upd (f 11) ni a) (e12 : f' 12 = upd (f 12) ni d) (e13 : f' 13 = upd (f 13) ni a) (e16 : f' 16 = upd (f 16) ni b) (e23 : f' 23 = upd (f 23) nl (nI ni)) (e24 : f' 24 = upd (f 24) nl a) (eo : ∀ j, j = 6 ∨ j = 9 ∨ j = 17 ∨ j = 19 ∨ j = 20 ∨ j = 21 ∨ j = 22 → f' j = f j) (hd : 0 ≤ d.toInt ∧ d.toInt ≤ 1580) (h15 : ∀ i, i < ni → ¬ f 16 i = 0 → g' 15 i = 0) (h15n : g' 15 ni = 0) : kK nc (ni + 1) np (nl + 1) f' g' (upd O ni c) G P M R := by
  obtain ⟨⟨⟨m1, m2, m3⟩, ⟨l1, l2⟩, hV⟩, t1, t2, t3, t4, t5, t6, t7, t8⟩ := h
  have zc22 : ∀ p, f 22 (24 * p + ni) = 0 := fun p => hG.2.1.2.2.2 p ni hn (Or.inr (Nat.le_refl _))
  have z17 := (hG.2.1.1 ni (Nat.le_refl _)).2.1
  have e22 := eo 22 (by decide)
  have e19 := eo 19 (by decide)
  refine ⟨⟨⟨fun j hj => ?_, fun q hq => ?_, fun q j hq hj hz => ?_⟩, ⟨fun j hj => ?_, fun j hj => ?_⟩, fun j hj => ?_⟩, fun j hj => ?_, fun q hq => ?_, fun k hk => ?_, fun q hq => ?_, fun j hj => ?_, fun k hk => ?_, fun j hj hz => ?_, fun j hj => t8 j (by omega)⟩
  · rw [e11, e13, e22]
    by_cases e : j = ni
    · subst e
      rw [xupd_i, xupd_i, t8 j (Nat.le_refl _), zs_all0 (fun p _ => by rw [zc22 p]; rfl), i32_z]
      omega
    · rw [xud e, xud e]; exact m1 j (by omega)
  · rw [eo 20 (by decide), e22, zs_s, zc22 q, i32_z, Int.add_zero]
    exact m2 q hq
  · rw [e22]
    by_cases e : j = ni
    · rw [e]; exact zc22 q
    · rw [e10, e19, xud e] at hz
      exact m3 q j hq (by omega) hz
  · have ex : ∀ k, k < nl → xlin f' (nI j) k = xlin f (nI j) k := fun k hk => by
      unfold xlin
      rw [e23, e24, xud (by omega), xud (by omega)]
    have ex2 : xlin f' (nI j) nl = if nI ni = nI j then a else 0 := by
      unfold xlin
      rw [e23, e24, xupd_i, xupd_i]
    rw [xsum_one ex2, xsum_c nl ex, e13]
    by_cases e : j = ni
    · subst e
      have e0 : xsum (xlin f (nI j)) nl = xsum (fun _ => 0) nl := xsum_c nl fun k hk => by
        unfold xlin
        obtain ⟨q, hq, hq2⟩ := l2 k hk
        exact if_neg (fun z => by rw [hq2] at z; have := (nI_eq (by omega) (by omega)).mp z; omega)
      have e1 : ∀ k, xsum (fun _ => 0) k = 0 := fun k => by
        induction k with
        | zero => rfl
        | succ k ih => rw [xsum_one (v := 0) rfl, ih]; rfl
      rw [if_pos rfl, xupd_i, e0, e1]
      grind
    · rw [if_neg (fun z => e ((nI_eq (by omega) (by omega)).mp z).symm), xud e, l1 j (by omega)]
      grind
  · rw [e23]
    by_cases e : j = nl
    · rw [e, xupd_i]; exact ⟨ni, by omega, rfl⟩
    · rw [xud e]
      obtain ⟨q, hq, hq2⟩ := l2 j (by omega)
      exact ⟨q, by omega, hq2⟩
  · rw [eo 17 (by decide), e13]
    by_cases e : j = ni
    · subst e
      rw [z17, xupd_i]
      exact ⟨by decide, by decide, fun z => absurd z ha⟩
    · rw [xud e]; exact hV j (by omega)
  · rw [e10]
    by_cases e : j = ni
    · rw [e, xupd_i, xupd_i]
    · rw [xud e, xud e]; exact t1 j (by omega)
  · rw [e19]; exact t2 q hq
  · rw [eo 6 (by decide)]; exact t3 k hk
  · rw [eo 21 (by decide)]; exact t4 q hq
  · rw [e12]
    by_cases e : j = ni
    · rw [e, xupd_i]; exact hd
    · rw [xud e]; exact t5 j (by omega)
  · rw [eo 9 (by decide)]; exact t6 k hk
  · by_cases e : j = ni
    · rw [e]; exact h15n
    · rw [e16, xud e] at hz
      exact h15 j (by omega) hz
/-- a new payment, ahead of its rule -/
theorem K_newp {c : Nat} {a : Int32} (h : kK nc ni np nl f g O G P M R) (hG : JG nc ni np t f g) (hn : ni ≤ 24) (ha : ¬ a = 0) : kK nc ni (np + 1) nl (fup (fup f 19 (upd (f 19) np (nI c))) 20 (upd (f 20) np a)) g O G (upd P np (nI c)) (upd M np a) R := by
  obtain ⟨⟨⟨m1, m2, m3⟩, hL, hV⟩, t1, t2, t3, t4, t5, t6, t7, t8⟩ := h
  have z22 : ∀ j, j < ni → f 22 (24 * np + j) = 0 := fun j hj => hG.2.1.2.2.2 np j (by omega) (Or.inl (Nat.le_refl _))
  refine ⟨⟨⟨fun j hj => ?_, fun q hq => ?_, fun q j hq hj hz => ?_⟩, hL, hV⟩, t1, fun q hq => ?_, t3, fun q hq => ?_, t5, t6, t7, t8⟩
  · show (f 11 j).toInt = (G j).toInt + (f 13 j).toInt + zs (fun p => (f 22 (24 * p + j)).toInt) (np + 1)
    rw [zs_s, z22 j hj, i32_z, Int.add_zero]
    exact m1 j hj
  · show (upd M np a q).toInt = (upd (f 20) np a q).toInt + zs (fun i => (f 22 (24 * q + i)).toInt) ni
    by_cases e : q = np
    · rw [e, xupd_i, xupd_i, zs_all0 (fun j hj => by rw [z22 j hj]; rfl)]
      omega
    · rw [xud e, xud e]; exact m2 q (by omega)
  · show f 22 (24 * q + j) = 0
    by_cases e : q = np
    · rw [e]; exact z22 j hj
    · refine m3 q j (by omega) hj (fun z => hz ?_)
      show f 10 j = upd (f 19) np (nI c) q
      rw [xud e]; exact z
  · show upd P np (nI c) q = upd (f 19) np (nI c) q
    by_cases e : q = np
    · rw [e, xupd_i, xupd_i]
    · rw [xud e, xud e]; exact t2 q (by omega)
  · show f 21 q = 0 ↔ ¬ upd M np a q = 0
    by_cases e : q = np
    · rw [e, xupd_i]
      exact ⟨fun _ => ha, fun _ => hG.2.1.2.2.1 np (Nat.le_refl _)⟩
    · rw [xud e]; exact t4 q (by omega)
/-- days -/
theorem mDS_K {n : Nat → Int32} {s : Nat} (hV : kV ni f) (h7 : ∀ i, i < ni → ¬ f 16 i = 0 → g 15 i = 0) : ∀ k, k ≤ ni → kV ni (mDS n s f g k).1 ∧ ∀ i, i < ni → ¬ f 16 i = 0 → (mDS n s f g k).2 15 i = 0 := by
  intro k
  induction k with
  | zero => intro _; exact ⟨hV, h7⟩
  | succ k ih =>
    intro hk
    obtain ⟨k1, k2⟩ := ih (by omega)
    have e16 : (mDS n s f g k).1 16 = f 16 := mDS_o (by decide) (by decide) k
    show kV ni (mDf n k (mDS n s f g k).1) ∧ ∀ i, i < ni → ¬ f 16 i = 0 → mDg n s k (mDS n s f g k).1 (mDS n s f g k).2 15 i = 0
    generalize (mDS n s f g k).1 = F at *
    generalize (mDS n s f g k).2 = H at *
    refine ⟨fun j hj => ?_, fun j hj hz => ?_⟩
    · unfold mDf
      split
      · rename_i c
        split
        · show 0 ≤ (upd (F 17) k (F 17 k + 1) j).toInt ∧ (upd (F 17) k (F 17 k + 1) j).toInt ≤ 4 ∧ (F 13 j = 0 → upd (F 17) k (F 17 k + 1) j = 0)
          by_cases e : j = k
          · subst e
            have h4 := i32_lt.mp c.2.1.1
            have h0 := i32_lt.mp c.2.1.2.1
            have k4 : (4 : Int32).toInt = 4 := rfl
            have k5 : (1 : Int32).toInt = 1 := rfl
            rw [i32_z] at h0
            have hv := k1 j hj
            rw [xupd_i, i32_add (by omega) (by omega)]
            exact ⟨by omega, by omega, fun z => by rw [z, i32_z] at h0; omega⟩
          · rw [xud e]; exact k1 j hj
        · exact k1 j hj
      · exact k1 j hj
    · unfold mDg
      split
      · rename_i c
        show vp_updL (H 15) k _ j = 0
        unfold vp_updL
        by_cases e : j = k
        · rw [← e, e16] at c
          exact absurd c.2 hz
        · rw [if_neg e]; exact k2 j hj hz
      · exact k2 j hj hz
theorem mDays_K {n0 : Nat → Int32} (hV : kV ni f) (h7 : ∀ i, i < ni → ¬ f 16 i = 0 → g 15 i = 0) : ∀ k, kV ni (mDays ni t (n0, f, g) k).2.1 ∧ ∀ i, i < ni → ¬ f 16 i = 0 → (mDays ni t (n0, f, g) k).2.2 15 i = 0 := by
  intro k
  induction k with
  | zero => exact ⟨hV, h7⟩
  | succ k ih =>
    have e16 : (mDays ni t (n0, f, g) k).2.1 16 = f 16 := mDays_o (s := (n0, f, g)) (by decide) (by decide) k
    have := mDS_K (n := (mDays ni t (n0, f, g) k).1) (s := t + k) ih.1 (fun i hi hz => ih.2 i hi (by rw [← e16]; exact hz)) ni (Nat.le_refl _)
    exact ⟨this.1, fun i hi hz => this.2 i hi (by rw [e16]; exact hz)⟩
theorem K_days {n0 : Nat → Int32} (h : kK nc ni np nl f g O G P M R) (k : Nat) : kK nc ni np nl (mDays ni t (n0, f, g) k).2.1 (mDays ni t (n0, f, g) k).2.2 O G P M R := by
  have o : ∀ {j : Nat}, j ≠ 17 ∧ j ≠ 18 → (mDays ni t (n0, f, g) k).2.1 j = f j := fun hj => mDays_o (s := (n0, f, g)) hj.1 hj.2 k
  obtain ⟨v1, v2⟩ := mDays_K (t := t) (n0 := n0) h.1.2.2 h.2.2.2.2.2.2.2.1 k
  obtain ⟨⟨hM, hL, hV⟩, t1, t2, t3, t4, t5, t6, t7, t8⟩ := h
  generalize (mDays ni t (n0, f, g) k).2.1 = F at *
  generalize (mDays ni t (n0, f, g) k).2.2 = H at *
  refine ⟨⟨kM_c hM (o (by decide)) (o (by decide)) (o (by decide)) (o (by decide)) (o (by decide)) (o (by decide)), kL_c hL (o (by decide)) (o (by decide)) (o (by decide)), v1⟩, ?_⟩
  unfold kT
  rw [o (j := 6) (by decide), o (j := 9) (by decide), o (j := 10) (by decide), o (j := 12) (by decide), o (j := 16) (by decide), o (j := 19) (by decide), o (j := 21) (by decide)]
  exact ⟨t1, t2, t3, t4, t5, t6, v2, t8⟩
end KCK
