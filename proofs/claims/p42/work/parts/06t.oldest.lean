theorem xWJ_3 {ni k : Nat} {f : Nat → Nat → Int32} {jc : Nat → Nat → Int32} {c : Int32} (hk : k < ni) (hn : ni ≤ 24) : xWJ f c jc ni 3 k = if f 10 k = c then f 13 k - f 14 k else 0 := by
  show (if k < ni ∧ f 10 k = c then f 13 k - f 14 k else xpre (fun _ => 0) (jc 3) 24 k) = _
  rw [xpre_lt (show k < 24 by omega)]
  by_cases h : f 10 k = c
  · rw [if_pos ⟨hk, h⟩, if_pos h]
  · rw [if_neg (fun z => h z.2), if_neg h]
theorem xWJ_4 {ni k : Nat} {f : Nat → Nat → Int32} {jc : Nat → Nat → Int32} {c : Int32} (hk : k < 24) : xWJ f c jc ni 4 k = 0 := xpre_lt (t := fun _ => 0) (o := jc 4) hk
/-- the oldest that wants a part, at first, is the reference's oldest -/
theorem cold_xold {ni : Nat} {f : Nat → Nat → Int32} {jc : Nat → Nat → Int32} {c : Int32} (hn : ni ≤ 24) : ∀ k, k ≤ ni → (cold f (xWJ f c jc ni) k).1 = xold f c k ∧ (¬ xold f c k = -1 → (cold f (xWJ f c jc ni) k).2 = f 12 (xold f c k).toNatClampNeg) := by
  intro k
  induction k with
  | zero => intro _; exact ⟨rfl, fun z => absurd rfl z⟩
  | succ k ih =>
    intro hk
    obtain ⟨i1, i2⟩ := ih (by omega)
    have hw := xWJ_3 (jc := jc) (f := f) (c := c) (ni := ni) (k := k) (by omega) hn
    have hp := xWJ_4 (jc := jc) (f := f) (c := c) (ni := ni) (k := k) (by omega)
    rw [cold_s, xold_s, hw, hp, i1]
    by_cases h1 : f 10 k = c
    · rw [if_pos h1]
      by_cases h2 : 0 < f 13 k - f 14 k
      · by_cases h3 : xold f c k = -1
        · rw [if_pos ⟨⟨h2, rfl⟩, Or.inl (by rw [h3]; decide)⟩, if_pos ⟨h1, h2, Or.inl h3⟩]
          exact ⟨rfl, fun _ => by rw [nI_clamp (by omega)]⟩
        · obtain ⟨j, hj, ej⟩ := (xold_rng f c k).resolve_left h3
          have h4 : ¬ xold f c k < 0 := by
            rw [ej]
            exact Int32.not_lt.mpr ((xle (a := 0) (by omega) (by omega)).mpr (Nat.zero_le j))
          rw [i2 h3]
          by_cases h5 : f 12 k < f 12 (xold f c k).toNatClampNeg
          · rw [if_pos ⟨⟨h2, rfl⟩, Or.inr h5⟩, if_pos ⟨h1, h2, Or.inr h5⟩]
            exact ⟨rfl, fun _ => by rw [nI_clamp (by omega)]⟩
          · rw [if_neg (fun z => z.2.elim h4 h5), if_neg (fun z => z.2.2.elim h3 h5)]
            exact ⟨i1, i2⟩
      · rw [if_neg (fun z => h2 z.1.1), if_neg (fun z => h2 z.2.1)]
        exact ⟨i1, i2⟩
    · rw [if_neg h1]
      rw [if_neg (fun z => absurd z.1.1 (by decide)), if_neg (fun z => h1 z.1)]
      exact ⟨i1, i2⟩
set_option maxRecDepth 100000 in
set_option maxHeartbeats 4000000 in
theorem m_X6_oldest {l : Launch} {N0 : Nat} {D : va_G} {dT : Nat → ClassId} (hflags : l.stackTraces = false) {h : xH} {nc ni np nl : Nat} {n : Nat → Int32} {f : Nat → Nat → Int32} {g : Nat → Nat → Int64} {jc : Nat → Nat → Int32} {jr : Nat → Int64} (hB : nc ≤ 6 ∧ ni ≤ 24 ∧ np ≤ 24 ∧ nl ≤ 16000) {w : Int32} (hO : ∀ i, i < ni → ∃ k, k < nc ∧ f 10 i = nI k)  : xMet l N0 D dT yX6_oldest cX6_oldest 2 (some FieldType.int) 9 1 6 [.ref 0, .int w] (xC h nc ni np nl (n 1) f g jc jr) xNo (cP h nc ni np nl (oRd (xin w nc) (xold f w ni) n f g)) (cX (xC h nc ni np nl (n 1) f g jc jr) [("java/lang/IndexOutOfBoundsException", (1 : Int32))] (oRd (xin w nc) (xold f w ni) n f g)) := by
  refine xMet_of hflags (by decide +kernel) (fun _ _ h => h) (Nat.le_of_ble_eq_true rfl) ?_
  intro E C I hret hthr
  refine a_loc [(0, .ref 0), (1, .int w)] (xsub_cons rfl (xsub_cons rfl (xsub_nil))) ?_
  obtain ⟨hc6, hi24, hp24, hl16⟩ := id hB
  refine a_aload_n (i := 0) C dX6_oldest_0 rfl rfl ?_
  refine a_aload_n (i := 0) C dX6_oldest_1 rfl rfl ?_
  refine a_iload_n (i := 1) C dX6_oldest_2 rfl rfl ?_
  refine a_callV C dX6_oldest_3 cv_X6_customerAt tb349 (m_X6_customerAt hflags hB) rfl rfl xC_0 rfl (Nat.le_of_ble_eq_true rfl) ⟨Nat.le_of_ble_eq_true rfl, Nat.le_of_ble_eq_true rfl⟩ ⟨Nat.le_of_ble_eq_true rfl, Nat.le_of_ble_eq_true rfl⟩ (fun _ h => h.elim) xav_no (fun _ _ ⟨e1, e2, e3⟩ => by subst e1; subst e2; exact a_out C (fun _ h => nomatch h) (hthr _ _ (cX_rf e3 (List.Mem.head _))) (Nat.le_of_ble_eq_true rfl) (Nat.le_of_ble_eq_true rfl)) (fun r3 hp3 hq3 => ?_)
  obtain ⟨j, hj, rfl, rfl, rfl⟩ := hq3
  refine a_callV C dX6_oldest_6 cv_X6_weighClearAmounts tb576 (m_X6_weighClearAmounts hflags hB hj hO) rfl rfl xC_0 rfl (Nat.le_of_ble_eq_true rfl) ⟨Nat.le_of_ble_eq_true rfl, Nat.le_of_ble_eq_true rfl⟩ ⟨Nat.le_of_ble_eq_true rfl, Nat.le_of_ble_eq_true rfl⟩ (fun _ h => h.elim) xav_no (fun _ _ h => h.elim) (fun r6 hp6 hq6 => ?_)
  obtain ⟨rfl, rfl⟩ := hq6
  refine a_aload_n (i := 0) C dX6_oldest_9 rfl rfl ?_
  refine a_callV C dX6_oldest_10 cv_X6_oldestWithoutPart tb600 (m_X6_oldestWithoutPart hflags hB) rfl rfl xC_0 rfl (Nat.le_of_ble_eq_true rfl) ⟨Nat.le_of_ble_eq_true rfl, Nat.le_of_ble_eq_true rfl⟩ ⟨Nat.le_of_ble_eq_true rfl, Nat.le_of_ble_eq_true rfl⟩ (fun _ h => h.elim) xav_no (fun _ _ h => h.elim) (fun r10 hp10 hq10 => ?_)
  obtain ⟨rfl, rfl⟩ := hq10
  exact a_iret C dX6_oldest_13 (Nat.le_of_ble_eq_true rfl) (Nat.le_of_ble_eq_true rfl) (hret _ _ (cP_rt (xin_of hj (by omega)) (cold_xold hi24 ni (Nat.le_refl _)).1))
