/-! what stays true of the book -/
def jM (ni np : Nat) (f : Nat → Nat → Int32) : Prop :=
  (∀ i, i < ni → 0 ≤ (f 14 i).toInt ∧ (f 14 i).toInt ≤ (f 13 i).toInt) ∧
  (∀ i, i < ni → (f 13 i).toInt + zs (fun p => (f 22 (24 * p + i)).toInt) np ≤ (f 11 i).toInt) ∧
  (∀ p, p < np → 0 ≤ (f 20 p).toInt ∧ (f 20 p).toInt + zs (fun i => (f 22 (24 * p + i)).toInt) ni ≤ 10000000) ∧
  (∀ p i, p < np → i < ni → 0 ≤ (f 22 (24 * p + i)).toInt) ∧
  (∀ p, p < np → ¬ f 21 p = 0 → f 20 p = 0 ∧ ∀ i, i < ni → f 22 (24 * p + i) = 0)
theorem jM_c {ni np : Nat} {f f' : Nat → Nat → Int32} (h : jM ni np f) (h11 : f' 11 = f 11) (h13 : f' 13 = f 13) (h14 : f' 14 = f 14) (h20 : f' 20 = f 20) (h21 : f' 21 = f 21) (h22 : f' 22 = f 22) : jM ni np f' := by
  unfold jM at h ⊢
  rw [h11, h13, h14, h20, h21, h22]
  exact h
theorem jM_cell {ni np : Nat} {f : Nat → Nat → Int32} (h : jM ni np f) {p i : Nat} (hp : p < np) (hi : i < ni) : 0 ≤ (f 22 (24 * p + i)).toInt ∧ (f 22 (24 * p + i)).toInt ≤ 10000000 ∧ (f 20 p).toInt + (f 22 (24 * p + i)).toInt ≤ 10000000 ∧ (f 13 i).toInt + (f 22 (24 * p + i)).toInt ≤ (f 11 i).toInt := by
  obtain ⟨h1, h2, h3, h4, h5⟩ := h
  have e1 := zs_mem (t := fun i => (f 22 (24 * p + i)).toInt) ni (fun j hj => h4 p j hp hj) hi
  have e2 := h3 p hp
  have e3 := h4 p i hp hi
  have e4 := zs_mem (t := fun p => (f 22 (24 * p + i)).toInt) np (fun j hj => h4 j i hj hi) hp
  have e5 := h2 i hi
  have e1' : (f 22 (24 * p + i)).toInt ≤ zs (fun i => (f 22 (24 * p + i)).toInt) ni := e1
  have e4' : (f 22 (24 * p + i)).toInt ≤ zs (fun p => (f 22 (24 * p + i)).toInt) np := e4
  omega
/-- a cell changes by d, with the rest and the open amount -/
theorem jM_pay {ni np p i : Nat} {f f' : Nat → Nat → Int32} {c b o u : Int32} {d : Int} (h : jM ni np f) (hn : ni ≤ 24) (hp : p < np) (hi : i < ni) (e22 : f' 22 = upd (f 22) (24 * p + i) c) (e20 : f' 20 = upd (f 20) p b) (e13 : f' 13 = upd (f 13) i o) (e14 : f' 14 = upd (f 14) i u) (e11 : f' 11 = f 11) (e21 : f' 21 = f 21) (hc : c.toInt = (f 22 (24 * p + i)).toInt + d) (hc0 : 0 ≤ c.toInt) (hb : b.toInt = (f 20 p).toInt - d) (hb0 : 0 ≤ b.toInt) (ho : o.toInt = (f 13 i).toInt - d) (hu : 0 ≤ u.toInt ∧ u.toInt ≤ o.toInt) (h21 : f 21 p = 0) : jM ni np f' := by
  obtain ⟨h1, h2, h3, h4, h5⟩ := h
  unfold jM
  rw [e22, e20, e13, e14, e11, e21]
  have hne : ∀ q j : Nat, j < 24 → ¬ (q = p ∧ j = i) → 24 * q + j ≠ 24 * p + i := fun q j hj z => by omega
  refine ⟨fun j hj => ?_, fun j hj => ?_, fun q hq => ?_, fun q j hq hj => ?_, fun q hq hq2 => ?_⟩
  · by_cases e : j = i
    · rw [e, xupd_i, xupd_i]; exact hu
    · rw [xud e, xud e]; exact h1 j hj
  · by_cases e : j = i
    · subst e
      rw [xupd_i, zs_up (t := fun q => (f 22 (24 * q + j)).toInt) (i := p) (d := d) np hp (fun q _ hq => by show (upd _ _ _ (24 * q + j)).toInt = _; rw [xud (hne q j (by omega) (fun z => hq z.1))]) (by show (upd _ _ _ (24 * p + j)).toInt = _; rw [xupd_i, hc])]
      have := h2 j hj
      omega
    · rw [xud e, zs_congr (s := fun q => (f 22 (24 * q + j)).toInt) np (fun q _ => by show (upd _ _ _ (24 * q + j)).toInt = _; rw [xud (hne q j (by omega) (fun z => e z.2))])]
      exact h2 j hj
  · by_cases e : q = p
    · subst e
      rw [xupd_i, zs_up (t := fun j => (f 22 (24 * q + j)).toInt) (i := i) (d := d) ni hi (fun j hj hj2 => by show (upd _ _ _ (24 * q + j)).toInt = _; rw [xud (hne q j (by omega) (fun z => hj2 z.2))]) (by show (upd _ _ _ (24 * q + i)).toInt = _; rw [xupd_i, hc])]
      have := h3 q hq
      omega
    · rw [xud e, zs_congr (s := fun j => (f 22 (24 * q + j)).toInt) ni (fun j hj => by show (upd _ _ _ (24 * q + j)).toInt = _; rw [xud (hne q j (by omega) (fun z => e z.1))])]
      exact h3 q hq
  · by_cases e : q = p ∧ j = i
    · obtain ⟨rfl, rfl⟩ := e
      rw [xupd_i]; exact hc0
    · rw [xud (hne q j (by omega) e)]; exact h4 q j hq hj
  · have e : q ≠ p := fun z => hq2 (by rw [z]; exact h21)
    obtain ⟨g1, g2⟩ := h5 q hq hq2
    refine ⟨by rw [xud e]; exact g1, fun j hj => ?_⟩
    rw [xud (hne q j (by omega) (fun z => e z.1))]
    exact g2 j hj
/-- only the open and disputed amounts of one invoice change -/
theorem jM_inv {ni np i : Nat} {f f' : Nat → Nat → Int32} {o u : Int32} (h : jM ni np f) (e22 : f' 22 = f 22) (e20 : f' 20 = f 20) (e13 : f' 13 = upd (f 13) i o) (e14 : f' 14 = upd (f 14) i u) (e11 : f' 11 = f 11) (e21 : f' 21 = f 21) (ho : o.toInt ≤ (f 13 i).toInt) (hu : 0 ≤ u.toInt ∧ u.toInt ≤ o.toInt) : jM ni np f' := by
  obtain ⟨h1, h2, h3, h4, h5⟩ := h
  unfold jM
  rw [e22, e20, e13, e14, e11, e21]
  refine ⟨fun j hj => ?_, fun j hj => ?_, h3, h4, h5⟩
  · by_cases e : j = i
    · rw [e, xupd_i, xupd_i]; exact hu
    · rw [xud e, xud e]; exact h1 j hj
  · by_cases e : j = i
    · subst e
      rw [xupd_i]
      have := h2 j hj
      omega
    · rw [xud e]; exact h2 j hj
def jZ (nc ni np : Nat) (f : Nat → Nat → Int32) (g : Nat → Nat → Int64) : Prop := (∀ i, ni ≤ i → f 14 i = 0 ∧ f 17 i = 0 ∧ f 18 i = 0 ∧ g 15 i = 0) ∧ (∀ k, nc ≤ k → f 9 k = 0) ∧ (∀ p, np ≤ p → f 21 p = 0) ∧ ∀ p i, i < 24 → (np ≤ p ∨ ni ≤ i) → f 22 (24 * p + i) = 0
def jO (nc ni np : Nat) (f : Nat → Nat → Int32) : Prop := (∀ i, i < ni → ∃ k, k < nc ∧ f 10 i = nI k) ∧ (∀ p, p < np → ∃ k, k < nc ∧ f 19 p = nI k) ∧ ∀ k, k < nc → 0 ≤ (f 8 k).toInt ∧ (f 8 k).toInt ≤ 3000
def jW (ni : Nat) (f : Nat → Nat → Int32) : Prop := xWok ni f ∧ ∀ i, i < ni → f 16 i = bI (¬ f 16 i = 0)
def jA (ni t : Nat) (f : Nat → Nat → Int32) (g : Nat → Nat → Int64) : Prop := (∀ i, i < ni → 0 ≤ (g 15 i).toInt ∧ (g 15 i).toInt ≤ 90000000000 * t) ∧ ∀ i, i < ni → f 16 i = 0 → (f 11 i).toInt ≤ 10000000
def zc (f : Nat → Nat → Int32) (np : Nat) : Int := zs (fun p => if f 20 p = 0 then 0 else 1) np
def jL (np nl q : Nat) (f : Nat → Nat → Int32) : Prop := (nl : Int) + 24 * zc f np ≤ 25 * q + 24 * np
def JG (nc ni np t : Nat) (f : Nat → Nat → Int32) (g : Nat → Nat → Int64) : Prop := jO nc ni np f ∧ jZ nc ni np f g ∧ jW ni f ∧ jM ni np f ∧ jA ni t f g
def JI (n : Nat → Int32) (f : Nat → Nat → Int32) (g : Nat → Nat → Int64) (nc ni np nl q : Nat) : Prop := xI n nc ni np nl ∧ (∃ t, n 1 = nI t ∧ t ≤ 1460 ∧ JG nc ni np t f g) ∧ jL np nl q f
theorem jZ_c {nc ni np : Nat} {f f' : Nat → Nat → Int32} {g g' : Nat → Nat → Int64} (h : jZ nc ni np f g) (h14 : f' 14 = f 14) (h17 : f' 17 = f 17) (h18 : f' 18 = f 18) (h9 : f' 9 = f 9) (h21 : f' 21 = f 21) (h22 : f' 22 = f 22) (h15 : g' 15 = g 15) : jZ nc ni np f' g' := by
  unfold jZ at h ⊢
  rw [h14, h17, h18, h9, h21, h22, h15]
  exact h
theorem jO_c {nc ni np : Nat} {f f' : Nat → Nat → Int32} (h : jO nc ni np f) (h10 : f' 10 = f 10) (h19 : f' 19 = f 19) (h8 : f' 8 = f 8) : jO nc ni np f' := by
  unfold jO at h ⊢
  rw [h10, h19, h8]
  exact h
theorem jW_c {ni : Nat} {f f' : Nat → Nat → Int32} (h : jW ni f) (h16 : f' 16 = f 16) (h17 : f' 17 = f 17) (h18 : f' 18 = f 18) : jW ni f' := by
  unfold jW xWok at h ⊢
  rw [h16, h17, h18]
  exact h
theorem jA_c {ni t : Nat} {f f' : Nat → Nat → Int32} {g g' : Nat → Nat → Int64} (h : jA ni t f g) (h16 : f' 16 = f 16) (h11 : f' 11 = f 11) (h15 : g' 15 = g 15) : jA ni t f' g' := by
  unfold jA at h ⊢
  rw [h16, h11, h15]
  exact h
theorem zc_c {np : Nat} {f f' : Nat → Nat → Int32} (h20 : f' 20 = f 20) : zc f' np = zc f np := by
  unfold zc
  rw [h20]
theorem zc_b (f : Nat → Nat → Int32) (np : Nat) : 0 ≤ zc f np ∧ zc f np ≤ np := by
  unfold zc
  have h1 := zs_nn (t := fun p => if f 20 p = 0 then (0 : Int) else 1) np (fun i _ => by show (0 : Int) ≤ if f 20 i = 0 then 0 else 1; split <;> omega)
  have h2 := zs_bd (t := fun p => if f 20 p = 0 then (0 : Int) else 1) (B := 1) np (fun i _ => by show (if f 20 i = 0 then (0 : Int) else 1) ≤ 1; split <;> omega)
  omega
theorem zc_up {np p : Nat} {f f' : Nat → Nat → Int32} {b : Int32} (e20 : f' 20 = upd (f 20) p b) : zc f' np ≤ zc f np + 1 ∧ (b = 0 → zc f' np ≤ zc f np) ∧ (b = 0 → ¬ f 20 p = 0 → p < np → zc f' np + 1 = zc f np) ∧ (¬ f 20 p = 0 → zc f' np ≤ zc f np) := by
  have key : ∀ d : Int, p < np → (if b = 0 then (0 : Int) else 1) = (if f 20 p = 0 then 0 else 1) + d → zc f' np = zc f np + d := fun d hp hd => by
    unfold zc
    rw [e20]
    exact zs_up (t := fun p => if f 20 p = 0 then (0 : Int) else 1) (i := p) np hp (fun j _ hj => by show (if upd (f 20) p b j = 0 then (0 : Int) else 1) = _; rw [xud hj]) (by show (if upd (f 20) p b p = 0 then (0 : Int) else 1) = _; rw [xupd_i, hd])
  by_cases hp : p < np
  · by_cases h0 : b = 0
    · by_cases h1 : f 20 p = 0
      · have := key 0 hp (by rw [if_pos h0, if_pos h1]; rfl)
        refine ⟨by omega, fun _ => by omega, fun _ z => absurd h1 z, fun z => absurd h1 z⟩
      · have := key (-1) hp (by rw [if_pos h0, if_neg h1]; rfl)
        refine ⟨by omega, fun _ => by omega, fun _ _ _ => by omega, fun _ => by omega⟩
    · by_cases h1 : f 20 p = 0
      · have := key 1 hp (by rw [if_neg h0, if_pos h1]; rfl)
        refine ⟨by omega, fun z => absurd z h0, fun z => absurd z h0, fun z => absurd h1 z⟩
      · have := key 0 hp (by rw [if_neg h0, if_neg h1]; rfl)
        refine ⟨by omega, fun z => absurd z h0, fun z => absurd z h0, fun _ => by omega⟩
  · have e : zc f' np = zc f np := by
      unfold zc
      rw [e20]
      exact zs_congr np (fun j hj => by show (if upd (f 20) p b j = 0 then (0 : Int) else 1) = _; rw [xud (by omega)])
    refine ⟨by omega, fun _ => by omega, fun _ _ z => absurd z hp, fun _ => by omega⟩
/-- from the invariant: what contracts ask -/
theorem JI_nl {n : Nat → Int32} {f : Nat → Nat → Int32} {g : Nat → Nat → Int64} {nc ni np nl q : Nat} (h : JI n f g nc ni np nl q) (hq : q ≤ 512) : nl ≤ 13376 := by
  obtain ⟨h1, -, h7⟩ := h
  have := (zc_b f np).1
  unfold jL at h7
  have := h1.2.2.2.2.2.2.1
  omega
theorem jM_W {f : Nat → Nat → Int32} {ni np : Nat} (h6 : jM ni np f) : ∀ c j, 0 ≤ zw ni f c j := fun c j => by
  unfold zw
  split
  · rename_i z
    have h1 := h6.1 j z.1
    have h2 := i32_rng (f 13 j)
    rw [i32_sub (by omega) (by omega)]
    omega
  · exact Int.le_refl _
/-- nothing but the refusal's code changes -/
theorem JI_0 {n : Nat → Int32} {f : Nat → Nat → Int32} {g : Nat → Nat → Int64} {nc ni np nl q : Nat} {w : Int32} (h : JI n f g nc ni np nl q) : JI (nup n 0 w) f g nc ni np nl (q + 1) := by
  obtain ⟨h1, h2, h7⟩ := h
  refine ⟨xI_0 h1, h2, ?_⟩
  unfold jL at h7 ⊢
  omega
theorem JG_W {f : Nat → Nat → Int32} {g : Nat → Nat → Int64} {nc ni np t : Nat} (h : JG nc ni np t f g) : ∀ c j, 0 ≤ zw ni f c j := jM_W h.2.2.2.1
