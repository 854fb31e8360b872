/-! one effect each -/
section JONE
variable {f : Nat → Nat → Int32} {g : Nat → Nat → Int64} {nc ni np nl t p i : Nat} {a : Int32}
theorem JG_c {f' : Nat → Nat → Int32} {g' : Nat → Nat → Int64} (h : JG nc ni np t f g) (e8 : f' 8 = f 8) (e9 : f' 9 = f 9) (e10 : f' 10 = f 10) (e11 : f' 11 = f 11) (e13 : f' 13 = f 13) (e14 : f' 14 = f 14) (e16 : f' 16 = f 16) (e17 : f' 17 = f 17) (e18 : f' 18 = f 18) (e19 : f' 19 = f 19) (e20 : f' 20 = f 20) (e21 : f' 21 = f 21) (e22 : f' 22 = f 22) (e15 : g' 15 = g 15) : JG nc ni np t f' g' := ⟨jO_c h.1 e10 e19 e8, jZ_c h.2.1 e14 e17 e18 e9 e21 e22 e15, jW_c h.2.2.1 e16 e17 e18, jM_c h.2.2.2.1 e11 e13 e14 e20 e21 e22, jA_c h.2.2.2.2 e16 e11 e15⟩
theorem JG_w (h : JG nc ni np t f g) : JG nc ni np t (mWf nl i a f) g := JG_c h (mWf_o (by decide) (by decide)) (mWf_o (by decide) (by decide)) (mWf_o (by decide) (by decide)) (mWf_o (by decide) (by decide)) (mWf_o (by decide) (by decide)) (mWf_o (by decide) (by decide)) (mWf_o (by decide) (by decide)) (mWf_o (by decide) (by decide)) (mWf_o (by decide) (by decide)) (mWf_o (by decide) (by decide)) (mWf_o (by decide) (by decide)) (mWf_o (by decide) (by decide)) (mWf_o (by decide) (by decide)) rfl
theorem xpn_pos (m : Int32) : 0 < xpn m := by
  unfold xpn
  split
  · omega
  · split <;> omega
/-- waits: one invoice waits no more -/
theorem jW_0 {f' : Nat → Nat → Int32} {u : Int32} (h : jW ni f) (e16 : f' 16 = f 16) (e18 : f' 18 = upd (f 18) i 0) (e17 : f' 17 = upd (f 17) i u) : jW ni f' := by
  unfold jW xWok at h ⊢
  rw [e16]
  refine ⟨fun j hj h4 => ?_, h.2⟩
  rw [e17] at h4 ⊢
  rw [e18]
  by_cases e : j = i
  · subst e
    rw [xupd_i]
    exact ⟨0, rfl, xpn_pos _⟩
  · rw [xud e] at h4 ⊢
    rw [xud e]
    exact h.1 j hj h4
theorem jZ_one {f' : Nat → Nat → Int32} {u14 u17 u18 c : Int32} (h : jZ nc ni np f g) (hi : i < ni) (hp : p < np) (hn : ni ≤ 24) (e14 : f' 14 = upd (f 14) i u14) (e17 : f' 17 = upd (f 17) i u17) (e18 : f' 18 = upd (f 18) i u18) (e9 : f' 9 = f 9) (e21 : f' 21 = f 21) (e22 : f' 22 = upd (f 22) (24 * p + i) c) : jZ nc ni np f' g := by
  obtain ⟨h1, h2, h3, h4⟩ := h
  refine ⟨fun j hj => ?_, by rw [e9]; exact h2, by rw [e21]; exact h3, fun q j hj hq => ?_⟩
  · rw [e14, e17, e18, xud (by omega), xud (by omega), xud (by omega)]
    exact h1 j hj
  · rw [e22, xud (by omega)]
    exact h4 q j hj hq
theorem mPf_22 : mPf nl p i a f 22 = upd (f 22) (24 * p + i) (f 22 (24 * p + i) + a) := by unfold mPf; rw [mWf_o (by decide) (by decide)]; rfl
theorem mPf_r20 : mPf nl p i a f 20 = upd (f 20) p (f 20 p - a) := by unfold mPf; rw [mWf_o (by decide) (by decide)]; rfl
theorem mPf_r13 : mPf nl p i a f 13 = upd (f 13) i (f 13 i - a) := by unfold mPf; rw [mWf_o (by decide) (by decide)]; rfl
theorem mPf_14 : mPf nl p i a f 14 = upd (f 14) i (if f 13 i - a < f 14 i then f 13 i - a else f 14 i) := by unfold mPf; rw [mWf_o (by decide) (by decide)]; rfl
theorem mPf_18 : mPf nl p i a f 18 = upd (f 18) i 0 := by unfold mPf; rw [mWf_o (by decide) (by decide)]; rfl
theorem mPf_17 : mPf nl p i a f 17 = upd (f 17) i (if f 13 i - a = 0 then 0 else f 17 i) := by unfold mPf; rw [mWf_o (by decide) (by decide)]; rfl
/-- a is paid from p to i -/
theorem JG_pay (h : JG nc ni np t f g) (hn : ni ≤ 24) (hp : p < np) (hi : i < ni) (ha : 0 < a.toInt) (ha1 : a.toInt ≤ (f 20 p).toInt) (ha2 : a.toInt ≤ (f 13 i).toInt) : JG nc ni np t (mPf nl p i a f) g ∧ zc (mPf nl p i a f) np ≤ zc f np ∧ (a.toInt = (f 20 p).toInt → zc (mPf nl p i a f) np + 1 = zc f np) := by
  have hc := jM_cell h.2.2.2.1 hp hi
  have hr := i32_rng (f 13 i)
  have hr2 := i32_rng (f 11 i)
  have h20 : ¬ f 20 p = 0 := fun z => by rw [z, i32_z] at ha1; omega
  have h21 : f 21 p = 0 := Classical.byContradiction fun z => h20 (h.2.2.2.1.2.2.2.2 p hp z).1
  have h14 := h.2.2.2.1.1 i hi
  have eo : (f 13 i - a).toInt = (f 13 i).toInt - a.toInt := i32_sub (by omega) (by omega)
  have eb : (f 20 p - a).toInt = (f 20 p).toInt - a.toInt := i32_sub (by omega) (by omega)
  have ec : (f 22 (24 * p + i) + a).toInt = (f 22 (24 * p + i)).toInt + a.toInt := i32_add (by omega) (by omega)
  refine ⟨⟨jO_c h.1 (mPf_o (by decide)) (mPf_o (by decide)) (mPf_o (by decide)), jZ_one h.2.1 hi hp hn mPf_14 mPf_17 mPf_18 (mPf_o (by decide)) (mPf_o (by decide)) mPf_22, jW_0 h.2.2.1 (mPf_o (by decide)) mPf_18 mPf_17, jM_pay h.2.2.2.1 hn hp hi mPf_22 mPf_r20 mPf_r13 mPf_14 (mPf_o (by decide)) (mPf_o (by decide)) ec (by omega) eb (by omega) eo ?_ h21, jA_c h.2.2.2.2 (mPf_o (by decide)) (mPf_o (by decide)) rfl⟩, (zc_up mPf_r20).2.2.2 h20, fun e => (zc_up mPf_r20).2.2.1 (i32_inj (by rw [eb, i32_z]; omega)) h20 hp⟩
  by_cases q : f 13 i - a < f 14 i
  · rw [if_pos q]
    have := i32_lt.mp q
    omega
  · rw [if_neg q]
    have := mt i32_lt.mpr q
    omega
/-- what p gave to i is taken back -/
theorem JG_back (h : JG nc ni np t f g) (hn : ni ≤ 24) (hp : p < np) (hi : i < ni) : JG nc ni np t (mBf nl p i f) g ∧ zc (mBf nl p i f) np ≤ zc f np + 1 := by
  have hc := jM_cell h.2.2.2.1 hp hi
  have hr2 := i32_rng (f 11 i)
  have h14 := h.2.2.2.1.1 i hi
  have h3 := h.2.2.2.1.2.2.1 p hp
  by_cases h21 : f 21 p = 0
  · have e1 : (f 20 p + f 22 (24 * p + i)).toInt = (f 20 p).toInt + (f 22 (24 * p + i)).toInt := i32_add (by omega) (by omega)
    have e2 : (f 13 i + f 22 (24 * p + i)).toInt = (f 13 i).toInt + (f 22 (24 * p + i)).toInt := i32_add (by omega) (by omega)
    have r22 : mBf nl p i f 22 = upd (f 22) (24 * p + i) 0 := by unfold mBf; rw [mWf_o (by decide) (by decide)]; rfl
    have r20 : mBf nl p i f 20 = upd (f 20) p (f 20 p + f 22 (24 * p + i)) := by unfold mBf; rw [mWf_o (by decide) (by decide)]; rfl
    have r13 : mBf nl p i f 13 = upd (f 13) i (f 13 i + f 22 (24 * p + i)) := by unfold mBf; rw [mWf_o (by decide) (by decide)]; rfl
    have o : ∀ {j : Nat}, j ≠ 23 ∧ j ≠ 24 ∧ j ≠ 22 ∧ j ≠ 20 ∧ j ≠ 13 → mBf nl p i f j = f j := fun hj => mBf_o hj
    refine ⟨⟨jO_c h.1 (o (by decide)) (o (by decide)) (o (by decide)), jZ_one (u14 := f 14 i) (u17 := f 17 i) (u18 := f 18 i) h.2.1 hi hp hn ((o (by decide)).trans xud_self.symm) ((o (by decide)).trans xud_self.symm) ((o (by decide)).trans xud_self.symm) (o (by decide)) (o (by decide)) r22, jW_c h.2.2.1 (o (by decide)) (o (by decide)) (o (by decide)), jM_pay (u := f 14 i) (d := -(f 22 (24 * p + i)).toInt) h.2.2.2.1 hn hp hi r22 r20 r13 ((o (by decide)).trans xud_self.symm) (o (by decide)) (o (by decide)) (by rw [i32_z]; omega) (by rw [i32_z]; exact Int.le_refl _) (by omega) (by omega) (by omega) (by omega) h21, jA_c h.2.2.2.2 (o (by decide)) (o (by decide)) rfl⟩, (zc_up r20).1⟩
  · have e0 : f 22 (24 * p + i) = 0 := (h.2.2.2.1.2.2.2.2 p hp h21).2 i hi
    rw [mBf_0 e0]
    exact ⟨h, by omega⟩
/-- nothing of one invoice's money changes but open and disputed -/
theorem JG_inv {f' : Nat → Nat → Int32} {o u w x : Int32} (h : JG nc ni np t f g) (hn : ni ≤ 24) (hi : i < ni) (e8 : f' 8 = f 8) (e9 : f' 9 = f 9) (e10 : f' 10 = f 10) (e11 : f' 11 = f 11) (e13 : f' 13 = upd (f 13) i o) (e14 : f' 14 = upd (f 14) i u) (e16 : f' 16 = f 16) (e19 : f' 19 = f 19) (e20 : f' 20 = f 20) (e21 : f' 21 = f 21) (e22 : f' 22 = f 22) (e17 : f' 17 = upd (f 17) i w) (e18 : f' 18 = upd (f 18) i x) (hx : x = 0 ∨ (x = f 18 i ∧ w = f 17 i)) (ho : o.toInt ≤ (f 13 i).toInt) (hu : 0 ≤ u.toInt ∧ u.toInt ≤ o.toInt) : JG nc ni np t f' g ∧ zc f' np = zc f np := by
  refine ⟨⟨jO_c h.1 e10 e19 e8, ?_, ?_, jM_inv h.2.2.2.1 e22 e20 e13 e14 e11 e21 ho hu, jA_c h.2.2.2.2 e16 e11 rfl⟩, zc_c e20⟩
  · obtain ⟨h1, h2, h3, h4⟩ := h.2.1
    refine ⟨fun j hj => ?_, by rw [e9]; exact h2, by rw [e21]; exact h3, by rw [e22]; exact h4⟩
    rw [e14, e17, e18, xud (by omega), xud (by omega), xud (by omega)]
    exact h1 j hj
  · rcases hx with rfl | ⟨rfl, rfl⟩
    · exact jW_0 h.2.2.1 e16 e18 e17
    · rw [xud_self] at e17 e18
      exact jW_c h.2.2.1 e16 e17 e18
end JONE
