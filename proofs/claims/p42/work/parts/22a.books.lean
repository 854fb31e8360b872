/-! the law's own books: G what was credited, M the amounts of the payments; lines and open amounts -/
section KBK
variable {nc ni np nl t p i : Nat} {f f' : Nat → Nat → Int32} {g g' : Nat → Nat → Int64} {G M : Nat → Int32} {a : Int32}
def kM (ni np : Nat) (f : Nat → Nat → Int32) (G M : Nat → Int32) : Prop :=
  (∀ i, i < ni → (f 11 i).toInt = (G i).toInt + (f 13 i).toInt + zs (fun p => (f 22 (24 * p + i)).toInt) np) ∧
  (∀ p, p < np → (M p).toInt = (f 20 p).toInt + zs (fun i => (f 22 (24 * p + i)).toInt) ni) ∧
  (∀ p i, p < np → i < ni → ¬ f 10 i = f 19 p → f 22 (24 * p + i) = 0)
def kL (ni nl : Nat) (f : Nat → Nat → Int32) : Prop := (∀ i, i < ni → xsum (xlin f (nI i)) nl = f 13 i) ∧ ∀ j, j < nl → ∃ i, i < ni ∧ f 23 j = nI i
def kV (ni : Nat) (f : Nat → Nat → Int32) : Prop := ∀ i, i < ni → 0 ≤ (f 17 i).toInt ∧ (f 17 i).toInt ≤ 4 ∧ (f 13 i = 0 → f 17 i = 0)
def kX (ni np nl : Nat) (f : Nat → Nat → Int32) (G M : Nat → Int32) : Prop := kM ni np f G M ∧ kL ni nl f ∧ kV ni f
theorem kM_pay {c b o : Int32} {d : Int} (h : kM ni np f G M) (hn : ni ≤ 24) (hp : p < np) (hi : i < ni) (e22 : f' 22 = upd (f 22) (24 * p + i) c) (e20 : f' 20 = upd (f 20) p b) (e13 : f' 13 = upd (f 13) i o) (e11 : f' 11 = f 11) (e10 : f' 10 = f 10) (e19 : f' 19 = f 19) (hc : c.toInt = (f 22 (24 * p + i)).toInt + d) (hb : b.toInt = (f 20 p).toInt - d) (ho : o.toInt = (f 13 i).toInt - d) (how : f 10 i = f 19 p ∨ c = 0) : kM ni np f' G M := by
  obtain ⟨h1, h2, h3⟩ := h
  unfold kM
  rw [e22, e20, e13, e11, e10, e19]
  have hne : ∀ q j : Nat, j < 24 → ¬ (q = p ∧ j = i) → 24 * q + j ≠ 24 * p + i := fun q j hj z => by omega
  refine ⟨fun j hj => ?_, fun q hq => ?_, fun q j hq hj hz => ?_⟩
  · by_cases e : j = i
    · subst e
      rw [xupd_i, zs_up (t := fun q => (f 22 (24 * q + j)).toInt) (i := p) (d := d) np hp (fun q _ hq => by show (upd _ _ _ (24 * q + j)).toInt = _; rw [xud (hne q j (by omega) (fun z => hq z.1))]) (by show (upd _ _ _ (24 * p + j)).toInt = _; rw [xupd_i, hc])]
      have := h1 j hj
      omega
    · rw [xud e, zs_congr (s := fun q => (f 22 (24 * q + j)).toInt) np (fun q _ => by show (upd _ _ _ (24 * q + j)).toInt = _; rw [xud (hne q j (by omega) (fun z => e z.2))])]
      exact h1 j hj
  · by_cases e : q = p
    · subst e
      rw [xupd_i, zs_up (t := fun j => (f 22 (24 * q + j)).toInt) (i := i) (d := d) ni hi (fun j hj hj2 => by show (upd _ _ _ (24 * q + j)).toInt = _; rw [xud (hne q j (by omega) (fun z => hj2 z.2))]) (by show (upd _ _ _ (24 * q + i)).toInt = _; rw [xupd_i, hc])]
      have := h2 q hq
      omega
    · rw [xud e, zs_congr (s := fun j => (f 22 (24 * q + j)).toInt) ni (fun j hj => by show (upd _ _ _ (24 * q + j)).toInt = _; rw [xud (hne q j (by omega) (fun z => e z.1))])]
      exact h2 q hq
  · by_cases e : q = p ∧ j = i
    · obtain ⟨rfl, rfl⟩ := e
      rw [xupd_i]
      rcases how with z | z
      · exact absurd z hz
      · exact z
    · rw [xud (hne q j (by omega) e)]
      exact h3 q j hq hj hz
theorem xk_sb {x y : Int32} : x - y = x + -y := by grind
theorem xsum_one {s : Nat → Int32} {k : Nat} {v : Int32} (h : s k = v) : xsum s (k + 1) = xsum s k + v := by rw [← h]; rfl
/-- a line of the invoice i is written, and its open amount changes as much -/
theorem kL_put {F : Nat → Nat → Int32} {o : Int32} (h : kL ni nl f) (hn : ni ≤ 24) (hi : i < ni) (e23 : F 23 = f 23) (e24 : F 24 = f 24) (e13 : F 13 = upd (f 13) i o) (ho : o = f 13 i + a) : kL ni (mWl nl a) (mWf nl i a F) := by
  obtain ⟨h1, h2⟩ := h
  by_cases ha : a = 0
  · rw [show mWl nl a = nl from if_pos ha, show mWf nl i a F = F from if_pos ha]
    refine ⟨fun j hj => ?_, fun j hj => by rw [e23]; exact h2 j hj⟩
    have e1 : xlin F (nI j) = xlin f (nI j) := by unfold xlin; rw [e23, e24]
    rw [e1, e13]
    by_cases e : j = i
    · subst e
      rw [xupd_i, ho, ha, h1 j hj]
      grind
    · rw [xud e]; exact h1 j hj
  · rw [show mWl nl a = nl + 1 from if_neg ha, show mWf nl i a F = fup (fup F 23 (upd (F 23) nl (nI i))) 24 (upd (F 24) nl a) from if_neg ha]
    have x23 : fup (fup F 23 (upd (F 23) nl (nI i))) 24 (upd (F 24) nl a) 23 = upd (f 23) nl (nI i) := by rw [← e23]; rfl
    have x24 : fup (fup F 23 (upd (F 23) nl (nI i))) 24 (upd (F 24) nl a) 24 = upd (f 24) nl a := by rw [← e24]; rfl
    have x13 : fup (fup F 23 (upd (F 23) nl (nI i))) 24 (upd (F 24) nl a) 13 = upd (f 13) i o := by rw [← e13]; rfl
    refine ⟨fun j hj => ?_, fun j hj => ?_⟩
    · have e1 : ∀ k, k < nl → xlin (fup (fup F 23 (upd (F 23) nl (nI i))) 24 (upd (F 24) nl a)) (nI j) k = xlin f (nI j) k := fun k hk => by
        unfold xlin
        rw [x23, x24, xud (by omega), xud (by omega)]
      have e2 : xlin (fup (fup F 23 (upd (F 23) nl (nI i))) 24 (upd (F 24) nl a)) (nI j) nl = if nI i = nI j then a else 0 := by
        unfold xlin
        rw [x23, x24, xupd_i, xupd_i]
      rw [xsum_one e2, xsum_c nl e1, x13, h1 j hj]
      by_cases e : j = i
      · subst e
        rw [if_pos rfl, xupd_i, ho]
      · rw [if_neg (fun z => e ((nI_eq (by omega) (by omega)).mp z).symm), xud e]
        grind
    · rw [x23]
      by_cases e : j = nl
      · rw [e, xupd_i]; exact ⟨i, hi, rfl⟩
      · rw [xud e]; exact h2 j (by omega)
theorem kV_put {o u : Int32} (h : kV ni f) (e13 : f' 13 = upd (f 13) i o) (e17 : f' 17 = upd (f 17) i u) (hu : u = if o = 0 then 0 else f 17 i) : kV ni f' := by
  intro j hj
  rw [e13, e17]
  by_cases e : j = i
  · subst e
    rw [xupd_i, xupd_i, hu]
    have := h j hj
    by_cases z : o = 0
    · rw [if_pos z]
      exact ⟨by decide, by decide, fun _ => rfl⟩
    · rw [if_neg z]
      exact ⟨this.1, this.2.1, fun y => absurd y z⟩
  · rw [xud e, xud e]; exact h j hj
/-- an amount of p goes to i -/
theorem kX_put (hG : JG nc ni np t f g) (h : kX ni np nl f G M) (hn : ni ≤ 24) (hp : p < np) (hi : i < ni) (ha : 0 < a.toInt) (ha1 : a.toInt ≤ (f 20 p).toInt) (ha2 : a.toInt ≤ (f 13 i).toInt) (how : f 10 i = f 19 p) : kX ni np (mWl nl (-a)) (mPf nl p i a f) G M := by
  obtain ⟨h1, h2, h3⟩ := h
  have hc := jM_cell hG.2.2.2.1 hp hi
  have hr := i32_rng (f 13 i)
  have hr2 := i32_rng (f 11 i)
  refine ⟨kM_pay (d := a.toInt) h1 hn hp hi mPf_22 mPf_r20 mPf_r13 (mPf_o (by decide)) (mPf_o (by decide)) (mPf_o (by decide)) (i32_add (by omega) (by omega)) (i32_sub (by omega) (by omega)) (i32_sub (by omega) (by omega)) (Or.inl how), ?_, kV_put h3 mPf_r13 mPf_17 rfl⟩
  unfold mPf
  exact kL_put h2 hn hi rfl rfl rfl xk_sb
/-- what p gave to i is taken back -/
theorem kX_back (hG : JG nc ni np t f g) (h : kX ni np nl f G M) (hn : ni ≤ 24) (hp : p < np) (hi : i < ni) : kX ni np (mWl nl (f 22 (24 * p + i))) (mBf nl p i f) G M := by
  obtain ⟨h1, h2, h3⟩ := h
  have hc := jM_cell hG.2.2.2.1 hp hi
  have hr2 := i32_rng (f 11 i)
  have h20 := hG.2.2.2.1.2.2.1 p hp
  have h13 := hG.2.2.2.1.1 i hi
  have r22 : mBf nl p i f 22 = upd (f 22) (24 * p + i) 0 := by unfold mBf; rw [mWf_o (by decide) (by decide)]; rfl
  have r20 : mBf nl p i f 20 = upd (f 20) p (f 20 p + f 22 (24 * p + i)) := by unfold mBf; rw [mWf_o (by decide) (by decide)]; rfl
  have r13 : mBf nl p i f 13 = upd (f 13) i (f 13 i + f 22 (24 * p + i)) := by unfold mBf; rw [mWf_o (by decide) (by decide)]; rfl
  have eb : (f 20 p + f 22 (24 * p + i)).toInt = (f 20 p).toInt + (f 22 (24 * p + i)).toInt := i32_add (by omega) (by omega)
  have eo : (f 13 i + f 22 (24 * p + i)).toInt = (f 13 i).toInt + (f 22 (24 * p + i)).toInt := i32_add (by omega) (by omega)
  refine ⟨kM_pay (d := -(f 22 (24 * p + i)).toInt) h1 hn hp hi r22 r20 r13 (mBf_o (by decide)) (mBf_o (by decide)) (mBf_o (by decide)) (by rw [i32_z]; omega) (by omega) (by omega) (Or.inr rfl), ?_, ?_⟩
  · unfold mBf
    exact kL_put h2 hn hi rfl rfl rfl rfl
  · intro j hj
    rw [r13, mBf_o (by decide)]
    by_cases e : j = i
    · subst e
      rw [xupd_i]
      refine ⟨(h3 j hj).1, (h3 j hj).2.1, fun z => (h3 j hj).2.2 ?_⟩
      have := congrArg Int32.toInt z
      rw [eo, i32_z] at this
      exact i32_inj (by rw [i32_z]; omega)
    · rw [xud e]; exact h3 j hj
theorem mAS_K {w : Nat} {n : Nat → Int32} {P : Nat → Int32} {F : Nat → Nat → Int32} (hG : JG nc ni np t F g) (hn : ni ≤ 24) (hp : p < np) (hw : F 19 p = nI w) (hP : ∀ j, j < ni → 0 ≤ (P j).toInt ∧ (P j).toInt ≤ zw ni F (nI w) j) (hS : zs (fun j => (P j).toInt) ni ≤ (F 20 p).toInt) (hK : kX ni np nl F G M) : ∀ k, k ≤ ni → kX ni np (mAS p P nl n F k).1 (mAS p P nl n F k).2.2 G M ∧ ∀ j, j < k → (mAS p P nl n F k).2.2 22 (24 * p + j) = F 22 (24 * p + j) + P j := by
  intro k
  induction k with
  | zero => intro _; exact ⟨hK, fun j hj => absurd hj (Nat.not_lt_zero j)⟩
  | succ k ih =>
    intro hk
    obtain ⟨k1, k2⟩ := ih (by omega)
    obtain ⟨h1, h2, h3, h4, h5⟩ := mAS_G (nl := nl) (n := n) hG hn hp hP hS k (by omega)
    have hPk := hP k (by omega)
    have hmono : zs (fun j => (P j).toInt) (k + 1) ≤ zs (fun j => (P j).toInt) ni := zs_mono ni hk (fun i hi => (hP i hi).1)
    rw [zs_s] at hmono
    by_cases hs : 0 < P k
    · have hs' := i32_lt.mp hs
      rw [i32_z] at hs'
      rw [mAS_t hs]
      have e3 := h3 k (Nat.le_refl k)
      have hown : F 10 k = nI w ∧ zw ni F (nI w) k = (F 13 k - F 14 k).toInt := by
        have h0 : 0 < zw ni F (nI w) k := by omega
        unfold zw at h0 ⊢
        by_cases z : k < ni ∧ F 10 k = nI w
        · exact ⟨z.2, if_pos z⟩
        · rw [if_neg z] at h0; omega
      have hzw := hown.2
      have hm := hG.2.2.2.1.1 k (by omega)
      have hr := i32_rng (F 13 k)
      rw [i32_sub (by omega) (by omega)] at hzw
      have e10 : (mAS p P nl n F k).2.2 10 = F 10 := mAS_o (by decide) k
      have e19 : (mAS p P nl n F k).2.2 19 = F 19 := mAS_o (by decide) k
      refine ⟨kX_put h1 k1 hn hp (by omega) hs' (by rw [h2]; omega) (by rw [e3.1]; omega) (by rw [e10, e19, hown.1, hw]), fun j hj => ?_⟩
      show mPf _ p k (P k) _ 22 (24 * p + j) = _
      rw [mPf_22]
      by_cases e : j = k
      · subst e
        rw [xupd_i]
        have : ∀ m, m ≤ j → (mAS p P nl n F m).2.2 22 (24 * p + j) = F 22 (24 * p + j) := by
          intro m
          induction m with
          | zero => intro _; rfl
          | succ m ihm =>
            intro hm
            by_cases hsm : 0 < P m
            · rw [mAS_t hsm]
              show mPf _ p m (P m) _ 22 (24 * p + j) = _
              rw [mPf_22, xud (by omega)]
              exact ihm (by omega)
            · rw [mAS_f hsm]
              exact ihm (by omega)
        rw [this j (Nat.le_refl j)]
      · rw [xud (by omega)]
        exact k2 j (by omega)
    · rw [mAS_f hs]
      refine ⟨k1, fun j hj => ?_⟩
      by_cases e : j = k
      · subst e
        have h0 : P j = 0 := by
          have := mt i32_lt.mpr hs
          rw [i32_z] at this
          exact i32_inj (by rw [i32_z]; omega)
        have : ∀ m, m ≤ j → (mAS p P nl n F m).2.2 22 (24 * p + j) = F 22 (24 * p + j) := by
          intro m
          induction m with
          | zero => intro _; rfl
          | succ m ihm =>
            intro hm
            by_cases hsm : 0 < P m
            · rw [mAS_t hsm]
              show mPf _ p m (P m) _ 22 (24 * p + j) = _
              rw [mPf_22, xud (by omega)]
              exact ihm (by omega)
            · rw [mAS_f hsm]
              exact ihm (by omega)
        rw [this j (Nat.le_refl j), h0]
        grind
      · exact k2 j (by omega)
theorem mVS_K {n : Nat → Int32} (hG : JG nc ni np t f g) (hn : ni ≤ 24) (hp : p < np) (h21 : f 21 p = 0) (hK : kX ni np nl f G M) : ∀ k, k ≤ ni → kX ni np (mVS p nl n f k).2.1 (mVS p nl n f k).2.2.2 G M := by
  intro k
  induction k with
  | zero => intro _; exact hK
  | succ k ih =>
    intro hk
    exact kX_back (mVS_G (nl := nl) (m := n) hG hn hp h21 k (by omega)).1 (ih (by omega)) hn hp (by omega)
theorem kX_25 {v : Nat → Int32} (h : kX ni np nl f G M) : kX ni np nl (fup f 25 v) G M := h
end KBK
