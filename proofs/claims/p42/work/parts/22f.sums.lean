/-! accounts add up, in two ways -/
section KAS
variable {nc ni np nl t p i : Nat} {n : Nat → Int32} {f f' : Nat → Nat → Int32} {g g' : Nat → Nat → Int64} {O G P M R : Nat → Int32} {a c : Int32}
def yop (f : Nat → Nat → Int32) (O : Nat → Int32) (c : Int32) : Nat → Int64 := fun j => if O j = c then (f 13 j).toInt64 else 0
def yre (f : Nat → Nat → Int32) (P : Nat → Int32) (c : Int32) : Nat → Int64 := fun j => if P j = c then (f 20 j).toInt64 else 0
def yage (n : Nat → Int32) (f : Nat → Nat → Int32) (c : Int32) (ni : Nat) : Nat → Int64 := fun k => (xsum (xage n f c (nI k)) ni).toInt64
def ysub (s : Int64) (t : Nat → Int64) : Nat → Int64
  | 0 => s
  | k + 1 => ysub s t k - t k
def yadd (s : Int64) (t : Nat → Int64) : Nat → Int64
  | 0 => s
  | k + 1 => yadd s t k + t k
theorem ysub_z {s : Int64} {t : Nat → Int64} (hs : -8589934592 ≤ s.toInt ∧ s.toInt ≤ 8589934592) : ∀ k, k ≤ 24 → (∀ i, i < k → -2147483648 ≤ (t i).toInt ∧ (t i).toInt ≤ 2147483647) → (ysub s t k).toInt = s.toInt - zs (fun i => (t i).toInt) k ∧ -8589934592 - k * 2147483648 ≤ (ysub s t k).toInt ∧ (ysub s t k).toInt ≤ 8589934592 + k * 2147483648 := by
  intro k
  induction k with
  | zero => intro _ _; exact ⟨(Int.sub_zero _).symm, by show _ ≤ s.toInt; omega, by show s.toInt ≤ _; omega⟩
  | succ k ih =>
    intro hk h
    obtain ⟨h1, h2, h3⟩ := ih (by omega) (fun i hi => h i (by omega))
    have h4 := h k (by omega)
    have e : (ysub s t (k + 1)).toInt = (ysub s t k).toInt - (t k).toInt := i64_sub (by omega) (by omega)
    rw [zs_s, e]
    omega
theorem yadd_z {s : Int64} {t : Nat → Int64} (hs : -8589934592 ≤ s.toInt ∧ s.toInt ≤ 8589934592) : ∀ k, k ≤ 24 → (∀ i, i < k → -2147483648 ≤ (t i).toInt ∧ (t i).toInt ≤ 2147483647) → (yadd s t k).toInt = s.toInt + zs (fun i => (t i).toInt) k ∧ -8589934592 - k * 2147483648 ≤ (yadd s t k).toInt ∧ (yadd s t k).toInt ≤ 8589934592 + k * 2147483648 := by
  intro k
  induction k with
  | zero => intro _ _; exact ⟨(Int.add_zero _).symm, by show _ ≤ s.toInt; omega, by show s.toInt ≤ _; omega⟩
  | succ k ih =>
    intro hk h
    obtain ⟨h1, h2, h3⟩ := ih (by omega) (fun i hi => h i (by omega))
    have h4 := h k (by omega)
    have e : (yadd s t (k + 1)).toInt = (yadd s t k).toInt + (t k).toInt := i64_add (by omega) (by omega)
    rw [zs_s, e]
    omega
theorem xsubt_z2 {a : Int32} {t : Nat → Int32} : ∀ n, (∀ i, i < n → 0 ≤ (t i).toInt) → -2147483648 ≤ a.toInt - zs (fun i => (t i).toInt) n → (xsubt a t n).toInt = a.toInt - zs (fun i => (t i).toInt) n := by
  intro n
  induction n with
  | zero => intro _ _; show a.toInt = a.toInt - 0; omega
  | succ n ih =>
    intro h hs
    have h4 := h n (by omega)
    have h5 := zs_nn (t := fun i => (t i).toInt) n (fun i hi => h i (by omega))
    have h6 := i32_rng a
    rw [zs_s] at hs
    have h7 := ih (fun i hi => h i (by omega)) (by omega)
    have e : (xsubt a t (n + 1)).toInt = (xsubt a t n).toInt - (t n).toInt := i32_sub (by omega) (by omega)
    rw [zs_s, e, h7]
    omega
theorem kB_13 (hG : JG nc ni np t f g) (hB : kB ni t f g) {i : Nat} (hi : i < ni) : 0 ≤ (f 13 i).toInt ∧ (f 13 i).toInt ≤ 1000000 ∧ 0 ≤ (f 11 i).toInt := by
  have m1 := hG.2.2.2.1.1 i hi
  have m2 := hG.2.2.2.1.2.1 i hi
  have m4 := zs_nn (t := fun p => (f 22 (24 * p + i)).toInt) np (fun p hp => hG.2.2.2.1.2.2.2.1 p i hp hi)
  have h := (hB i hi).1
  omega
theorem kB_20 (hG : JG nc ni np t f g) {p : Nat} (hp : p < np) : 0 ≤ (f 20 p).toInt ∧ (f 20 p).toInt ≤ 10000000 := by
  have m3 := hG.2.2.2.1.2.2.1 p hp
  have m4 := zs_nn (t := fun i => (f 22 (24 * p + i)).toInt) ni (fun i hi => hG.2.2.2.1.2.2.2.1 p i hp hi)
  omega
theorem yop_z (hO : ∀ i, i < ni → O i = f 10 i) (hn : ni ≤ 24) : (xsumL (yop f O c) ni).toInt = zs (fun i => (xopn f c i).toInt) ni := by
  have hb : ∀ i, i < ni → (yop f O c i).toInt = (xopn f c i).toInt := fun i hi => by
    unfold yop xopn
    rw [hO i hi]
    by_cases e : f 10 i = c
    · rw [if_pos e, if_pos e, Int32.toInt_toInt64]
    · rw [if_neg e, if_neg e]; rfl
  rw [(xsumL_z ni hn (fun i hi => by rw [hb i hi]; exact i32_rng _)).1]
  exact zs_congr ni hb
theorem yre_z (hP : ∀ i, i < np → P i = f 19 i) (hn : np ≤ 24) : (xsumL (yre f P c) np).toInt = zs (fun i => (xrst f c i).toInt) np := by
  have hb : ∀ i, i < np → (yre f P c i).toInt = (xrst f c i).toInt := fun i hi => by
    unfold yre xrst
    rw [hP i hi]
    by_cases e : f 19 i = c
    · rw [if_pos e, if_pos e, Int32.toInt_toInt64]
    · rw [if_neg e, if_neg e]; rfl
  rw [(xsumL_z np hn (fun i hi => by rw [hb i hi]; exact i32_rng _)).1]
  exact zs_congr np hb
theorem xopn_b (hG : JG nc ni np t f g) (hB : kB ni t f g) {i : Nat} (hi : i < ni) : 0 ≤ (xopn f c i).toInt ∧ (xopn f c i).toInt ≤ 1000000 := by
  have h := kB_13 hG hB hi
  unfold xopn
  by_cases e : f 10 i = c
  · rw [if_pos e]; omega
  · rw [if_neg e]; decide
/-- balances -/
theorem A_bal (hG : JG nc ni np t f g) (hB : kB ni t f g) (hO : ∀ i, i < ni → O i = f 10 i) (hP : ∀ i, i < np → P i = f 19 i) (hn : ni ≤ 24) (hp : np ≤ 24) : (xbal f c ni np).toInt64 = xsumL (yop f O c) ni - xsumL (yre f P c) np := by
  have h20 : ∀ i, i < np → 0 ≤ (xrst f c i).toInt ∧ (xrst f c i).toInt ≤ 10000000 := fun i hi => by
    have h := kB_20 hG hi
    unfold xrst
    by_cases e : f 19 i = c
    · rw [if_pos e]; exact h
    · rw [if_neg e]; decide
  have e1 := yop_z (f := f) (c := c) hO hn
  have e2 := yre_z (f := f) (c := c) hP hp
  have b1 := zs_bd (t := fun i => (xopn f c i).toInt) (B := 1000000) ni (fun i hi => (xopn_b hG hB hi).2)
  have b2 := zs_nn (t := fun i => (xopn f c i).toInt) ni (fun i hi => (xopn_b hG hB hi).1)
  have b3 := zs_bd (t := fun i => (xrst f c i).toInt) (B := 10000000) np (fun i hi => (h20 i hi).2)
  have b4 := zs_nn (t := fun i => (xrst f c i).toInt) np (fun i hi => (h20 i hi).1)
  have e3 : (xsum (xopn f c) ni).toInt = zs (fun i => (xopn f c i).toInt) ni := xsum_z ni (fun i hi => (xopn_b hG hB hi).1) (by omega)
  refine i64_inj ?_
  rw [Int32.toInt_toInt64, i64_sub (by omega) (by omega), e1, e2]
  unfold xbal
  rw [xsubt_z2 np (fun i hi => (h20 i hi).1) (by rw [e3]; omega), e3]
theorem xbk_5 (l : Int32) : xbk l = nI 0 ∨ xbk l = nI 1 ∨ xbk l = nI 2 ∨ xbk l = nI 3 ∨ xbk l = nI 4 := by
  unfold xbk
  split
  · exact Or.inl rfl
  split
  · exact Or.inr (Or.inl rfl)
  split
  · exact Or.inr (Or.inr (Or.inl rfl))
  split
  · exact Or.inr (Or.inr (Or.inr (Or.inl rfl)))
  · exact Or.inr (Or.inr (Or.inr (Or.inr rfl)))
/-- buckets -/
theorem A_age (hG : JG nc ni np t f g) (hB : kB ni t f g) (hO : ∀ i, i < ni → O i = f 10 i) (hn : ni ≤ 24) : xsumL (yage n f c ni) 5 = xsumL (yop f O c) ni := by
  have ha : ∀ b i, i < ni → 0 ≤ (xage n f c b i).toInt ∧ (xage n f c b i).toInt ≤ 1000000 := fun b i hi => by
    have h := kB_13 hG hB hi
    unfold xage
    split
    · omega
    · decide
  have hs : ∀ b, (xsum (xage n f c b) ni).toInt = zs (fun i => (xage n f c b i).toInt) ni := fun b => xsum_z ni (fun i hi => (ha b i hi).1) (by
    have := zs_bd (t := fun i => (xage n f c b i).toInt) (B := 1000000) ni (fun i hi => (ha b i hi).2)
    omega)
  refine i64_inj ?_
  rw [(xsumL_z 5 (by decide) (fun i _ => by show -2147483648 ≤ (xsum (xage n f c (nI i)) ni).toInt64.toInt ∧ _; rw [show (yage n f c ni i).toInt = (xsum (xage n f c (nI i)) ni).toInt from Int32.toInt_toInt64 _]; exact ⟨by rw [Int32.toInt_toInt64]; exact (i32_rng _).1, (i32_rng _).2⟩)).1, yop_z hO hn]
  have e : ∀ k, (yage n f c ni k).toInt = zs (fun i => (xage n f c (nI k) i).toInt) ni := fun k => (Int32.toInt_toInt64 _).trans (hs (nI k))
  show ((((0 + (yage n f c ni 0).toInt) + (yage n f c ni 1).toInt) + (yage n f c ni 2).toInt) + (yage n f c ni 3).toInt) + (yage n f c ni 4).toInt = _
  rw [e, e, e, e, e, Int.zero_add, ← zs_add, ← zs_add, ← zs_add, ← zs_add]
  refine zs_congr ni fun j _ => ?_
  show (((xage n f c (nI 0) j).toInt + (xage n f c (nI 1) j).toInt) + (xage n f c (nI 2) j).toInt + (xage n f c (nI 3) j).toInt) + (xage n f c (nI 4) j).toInt = (xopn f c j).toInt
  unfold xage xopn
  by_cases h : f 10 j = c
  · rcases xbk_5 (n 1 - f 12 j) with z | z | z | z | z <;> rw [z] <;> simp [h, show ¬ nI 0 = nI 1 by decide, show ¬ nI 0 = nI 2 by decide, show ¬ nI 0 = nI 3 by decide, show ¬ nI 0 = nI 4 by decide, show ¬ nI 1 = nI 0 by decide, show ¬ nI 1 = nI 2 by decide, show ¬ nI 1 = nI 3 by decide, show ¬ nI 1 = nI 4 by decide, show ¬ nI 2 = nI 0 by decide, show ¬ nI 2 = nI 1 by decide, show ¬ nI 2 = nI 3 by decide, show ¬ nI 2 = nI 4 by decide, show ¬ nI 3 = nI 0 by decide, show ¬ nI 3 = nI 1 by decide, show ¬ nI 3 = nI 2 by decide, show ¬ nI 3 = nI 4 by decide, show ¬ nI 4 = nI 0 by decide, show ¬ nI 4 = nI 1 by decide, show ¬ nI 4 = nI 2 by decide, show ¬ nI 4 = nI 3 by decide]
  · simp [h]
/-- an invoice: its amount less the credited part less the allocations -/
theorem A_sub (hG : JG nc ni np t f g) (hM : kM ni np f G M) (hp : np ≤ 24) (hi : i < ni) : ysub ((f 11 i).toInt64 - (G i).toInt64) (fun k => (f 22 (24 * k + i)).toInt64) np = (f 13 i).toInt64 := by
  have h := hM.1 i hi
  have r1 := i32_rng (f 11 i)
  have r2 := i32_rng (G i)
  have e0 : ((f 11 i).toInt64 - (G i).toInt64).toInt = (f 11 i).toInt - (G i).toInt := by
    rw [i64_sub (by rw [Int32.toInt_toInt64, Int32.toInt_toInt64]; omega) (by rw [Int32.toInt_toInt64, Int32.toInt_toInt64]; omega), Int32.toInt_toInt64, Int32.toInt_toInt64]
  refine i64_inj ?_
  rw [(ysub_z (t := fun k => (f 22 (24 * k + i)).toInt64) (by rw [e0]; omega) np hp (fun k _ => by show _ ≤ (f 22 (24 * k + i)).toInt64.toInt ∧ (f 22 (24 * k + i)).toInt64.toInt ≤ _; rw [Int32.toInt_toInt64]; exact i32_rng _)).1, e0, Int32.toInt_toInt64]
  have ez : zs (fun k => (f 22 (24 * k + i)).toInt64.toInt) np = zs (fun k => (f 22 (24 * k + i)).toInt) np := zs_congr np fun k _ => Int32.toInt_toInt64 _
  show _ - zs (fun k => (f 22 (24 * k + i)).toInt64.toInt) np = _
  rw [ez]
  omega
theorem A_add (hM : kM ni np f G M) (hn : ni ≤ 24) (hp : p < np) : yadd (f 20 p).toInt64 (fun i => (f 22 (24 * p + i)).toInt64) ni = (M p).toInt64 := by
  have h := hM.2.1 p hp
  have r1 := i32_rng (f 20 p)
  refine i64_inj ?_
  rw [(yadd_z (t := fun i => (f 22 (24 * p + i)).toInt64) (by rw [Int32.toInt_toInt64]; omega) ni hn (fun k _ => by show _ ≤ (f 22 (24 * p + k)).toInt64.toInt ∧ (f 22 (24 * p + k)).toInt64.toInt ≤ _; rw [Int32.toInt_toInt64]; exact i32_rng _)).1, Int32.toInt_toInt64, Int32.toInt_toInt64]
  have ez : zs (fun k => (f 22 (24 * p + k)).toInt64.toInt) ni = zs (fun k => (f 22 (24 * p + k)).toInt) ni := zs_congr ni fun k _ => Int32.toInt_toInt64 _
  show _ + zs (fun k => (f 22 (24 * p + k)).toInt64.toInt) ni = _
  rw [ez]
  omega
/-- levels -/
theorem A_lev (hV : kV ni f) (hn : ni ≤ 24) : (xsum (xlev f 0) ni).toInt64 + (xsum (xlev f 1) ni).toInt64 + (xsum (xlev f 2) ni).toInt64 + (xsum (xlev f 3) ni).toInt64 + (xsum (xlev f 4) ni).toInt64 = (nI ni).toInt64 := by
  have hb : ∀ l j, 0 ≤ (xlev f l j).toInt ∧ (xlev f l j).toInt ≤ 1 := fun l j => by
    unfold xlev
    split <;> decide
  have hs : ∀ l, (xsum (xlev f l) ni).toInt64.toInt = zs (fun i => (xlev f l i).toInt) ni ∧ 0 ≤ zs (fun i => (xlev f l i).toInt) ni ∧ zs (fun i => (xlev f l i).toInt) ni ≤ 24 := fun l => by
    have h1 := zs_bd (t := fun i => (xlev f l i).toInt) (B := 1) ni (fun i _ => (hb l i).2)
    have h2 := zs_nn (t := fun i => (xlev f l i).toInt) ni (fun i _ => (hb l i).1)
    exact ⟨(Int32.toInt_toInt64 _).trans (xsum_z ni (fun i _ => (hb l i).1) (by omega)), h2, by omega⟩
  have h0 := hs 0
  have h1 := hs 1
  have h2 := hs 2
  have h3 := hs 3
  have h4 := hs 4
  have key : zs (fun i => (xlev f 0 i).toInt) ni + zs (fun i => (xlev f 1 i).toInt) ni + zs (fun i => (xlev f 2 i).toInt) ni + zs (fun i => (xlev f 3 i).toInt) ni + zs (fun i => (xlev f 4 i).toInt) ni = ni := by
    rw [← zs_add, ← zs_add, ← zs_add, ← zs_add]
    have e : zs (fun i => (xlev f 0 i).toInt + (xlev f 1 i).toInt + (xlev f 2 i).toInt + (xlev f 3 i).toInt + (xlev f 4 i).toInt) ni = zs (fun _ => 1) ni := zs_congr ni fun j hj => by
      show (xlev f 0 j).toInt + (xlev f 1 j).toInt + (xlev f 2 j).toInt + (xlev f 3 j).toInt + (xlev f 4 j).toInt = 1
      have hv := hV j hj
      have h5 : (f 17 j).toInt = 0 ∨ (f 17 j).toInt = 1 ∨ (f 17 j).toInt = 2 ∨ (f 17 j).toInt = 3 ∨ (f 17 j).toInt = 4 := by omega
      unfold xlev
      rcases h5 with z | z | z | z | z
      · rw [show f 17 j = 0 from i32_inj z]; decide
      · rw [show f 17 j = 1 from i32_inj z]; decide
      · rw [show f 17 j = 2 from i32_inj z]; decide
      · rw [show f 17 j = 3 from i32_inj z]; decide
      · rw [show f 17 j = 4 from i32_inj z]; decide
    rw [e]
    have : ∀ m : Nat, zs (fun _ => 1) m = m := fun m => by
      induction m with
      | zero => rfl
      | succ m ih => rw [zs_s, ih]; omega
    exact this ni
  have s1 := i64_add (a := (xsum (xlev f 0) ni).toInt64) (b := (xsum (xlev f 1) ni).toInt64) (by omega) (by omega)
  have s2 := i64_add (a := (xsum (xlev f 0) ni).toInt64 + (xsum (xlev f 1) ni).toInt64) (b := (xsum (xlev f 2) ni).toInt64) (by omega) (by omega)
  have s3 := i64_add (a := (xsum (xlev f 0) ni).toInt64 + (xsum (xlev f 1) ni).toInt64 + (xsum (xlev f 2) ni).toInt64) (b := (xsum (xlev f 3) ni).toInt64) (by omega) (by omega)
  have s4 := i64_add (a := (xsum (xlev f 0) ni).toInt64 + (xsum (xlev f 1) ni).toInt64 + (xsum (xlev f 2) ni).toInt64 + (xsum (xlev f 3) ni).toInt64) (b := (xsum (xlev f 4) ni).toInt64) (by omega) (by omega)
  refine i64_inj ?_
  rw [s4, s3, s2, s1, show (nI ni).toInt64.toInt = ni from (Int32.toInt_toInt64 _).trans (nI_toInt (by omega))]
  omega
/-- days to the next reminder -/
theorem A_rem (hG : JG nc ni np t f g) (ht : n 1 = nI t) (ht2 : t ≤ 1460) (hc : nc ≤ 6) (h12 : ∀ i, i < ni → 0 ≤ (f 12 i).toInt ∧ (f 12 i).toInt ≤ 1580) (h9 : ∀ c, c < nc → 0 ≤ (f 9 c).toInt ∧ (f 9 c).toInt ≤ 1660) (hi : i < ni) (hr : f 17 i < 4 ∧ 0 < f 13 i ∧ f 14 i = 0) : 1 ≤ (xdr n f i).toInt ∧ (f 12 i).toInt - t + 1 ≤ (xdr n f i).toInt ∧ 7 ≤ (xdr n f i).toInt + (f 18 i).toInt := by
  obtain ⟨k, k1, k2⟩ := hG.1.1 i hi
  have ew : xow f i = k := xow_eq k2 (by omega)
  have hp := h9 k k1
  have hd := h12 i hi
  obtain ⟨q, q1, q2⟩ := hG.2.2.1.1 i hi hr.1
  have hx := xpn_le (f 17 i)
  have et : (n 1).toInt = t := by rw [ht, nI_toInt (by omega)]
  have ep : (xpat (f 17 i)).toInt = xpn (f 17 i) := by rw [xpn_eq, nI_toInt (by omega)]
  have eq : (f 18 i).toInt = q := by rw [q1, nI_toInt (by omega)]
  unfold xdr
  rw [if_neg (fun z => z hr), ew]
  have hA : ∃ A : Int32, (if n 1 < f 12 i then f 12 i else n 1) = A ∧ (n 1).toInt ≤ A.toInt ∧ (f 12 i).toInt ≤ A.toInt ∧ A.toInt ≤ 1580 := by
    by_cases z : n 1 < f 12 i
    · have := i32_lt.mp z
      exact ⟨f 12 i, if_pos z, by omega, by omega, by omega⟩
    · have := mt i32_lt.mpr z
      exact ⟨n 1, if_neg z, by omega, by omega, by omega⟩
  obtain ⟨A, a1, a2, a3, a4⟩ := hA
  rw [a1]
  have hC : ∃ C : Int32, (if A < f 9 k then f 9 k else A) = C ∧ A.toInt ≤ C.toInt ∧ C.toInt ≤ 1660 := by
    by_cases z : A < f 9 k
    · have := i32_lt.mp z
      exact ⟨f 9 k, if_pos z, by omega, by omega⟩
    · exact ⟨A, if_neg z, by omega, by omega⟩
  obtain ⟨C, c1, c2, c3⟩ := hC
  rw [c1]
  have s1 := i32_sub (a := C) (b := n 1) (by omega) (by omega)
  have s2 := i32_add (a := C - n 1) (b := xpat (f 17 i)) (by omega) (by omega)
  have s3 := i32_sub (a := C - n 1 + xpat (f 17 i)) (b := f 18 i) (by omega) (by omega)
  rw [s3, s2, s1]
  omega
end KAS
