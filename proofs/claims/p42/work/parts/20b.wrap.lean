/-! the law's wrappers of the class's calls -/
theorem bI_L0 {v : Int32} (h : v = 0) : (0 : Int64) = v.toInt64 := by rw [h]; rfl
theorem bI_L1 {n : Nat → Int32} {f : Nat → Nat → Int32} {g : Nat → Nat → Int64} {p r : Prop} [Decidable p] [Decidable r] (h0 : (oRd p (bI r) n f g).2.1 0 = 0) (h : ¬ (oRd p (bI r) n f g).1 = 0) : (1 : Int64) = (oRd p (bI r) n f g).1.toInt64 := by
  unfold oRd at h0 h ⊢
  by_cases hp : p
  · rw [if_pos hp] at h ⊢
    show (1 : Int64) = (bI r).toInt64
    rw [bI_t (bI_n0.mp h)]; rfl
  · rw [if_neg hp] at h0
    exact absurd h0 (show ¬ (1 : Int32) = 0 by decide)
theorem mVS_le {p nl : Nat} {n : Nat → Int32} {f : Nat → Nat → Int32} : ∀ k, (mVS p nl n f k).2.1 ≤ nl + k := by
  intro k
  induction k with
  | zero => exact Nat.le_refl _
  | succ k ih =>
    show mWl (mVS p nl n f k).2.1 _ ≤ nl + (k + 1)
    have := (mWl_1 (nl := (mVS p nl n f k).2.1) (a := (mVS p nl n f k).2.2.2 22 (24 * p + k))).1
    omega
theorem xnwD_ok {a b : Nat} (h : a < 340) (e : a = b) : ¬ xnwD b := xnwD_no h e
theorem xnwB_ok {a b : Nat} (h : a < 16 ∨ (127 < a ∧ a < 300) ∨ 399 < a) (e : a = b) : ¬ xnwB b := fun z => by
  have z1 : (16 ≤ b ∧ b ≤ 127) ∨ (300 ≤ b ∧ b ≤ 399) := z
  omega
set_option maxRecDepth 100000 in
set_option maxHeartbeats 4000000 in
theorem w_customer {l : Launch} {N0 : Nat} {D : va_G} {dT : Nat → ClassId} (hflags : l.stackTraces = false) {h : xH} {n : Nat → Int32} {f : Nat → Nat → Int32} {g : Nat → Nat → Int64} {nc ni np nl q9 : Nat} {jc : Nat → Nat → Int32} {jr : Nat → Int64} {w u v : Int32} (hbs : xBs h) (hJ : JI n f g nc ni np nl q9) (hq : q9 ≤ 500) : xMetN l N0 D dT yL_customer cL_customer 5 (some .long) [(0, 8, 9, 15), (0, 8, 15, 19)] 10 6 61 [.ref 0, .int w, .int u, .int v] (xC h nc ni np nl (n 1) f g jc jr) xnwB (pP h n f g nc ni np nl (nc + 1) ni np nl (o_addCustomer nc w u v n f g) (fun k => if k = 1 then eV else if k = 2 then eN else eP)) := by
  have hnl := JI_nl hJ (by omega)
  obtain ⟨hI, ⟨t9, ht, ht2, hG⟩, hLl⟩ := id hJ
  obtain ⟨-, -, -, -, hc6, hi24, hp24, hl16⟩ := id hI
  have hB : nc ≤ 6 ∧ ni ≤ 24 ∧ np ≤ 24 ∧ nl ≤ 16000 := ⟨hc6, hi24, hp24, hl16⟩
  have h9 := hG.2.1.2.1 nc (Nat.le_refl nc)
  have hOw := xow_lt hG.1.1 hc6
  have hPw := pow_lt hG.1.2.1 hc6
  refine xMetN_of hflags (by decide +kernel) (fun j h1 h2 => by omega) (Nat.le_of_ble_eq_true rfl) ?_
  intro E C hN hret
  refine a_loc [(0, .ref 0), (1, .int w), (2, .int u), (3, .int v)] (xsub_cons rfl (xsub_cons rfl (xsub_cons rfl (xsub_cons rfl (xsub_nil))))) ?_
  refine a_aload_n (i := 0) C dL_customer_0 rfl rfl ?_
  refine a_iload_n (i := 1) C dL_customer_1 rfl rfl ?_
  refine a_iload_n (i := 2) C dL_customer_2 rfl rfl ?_
  refine a_iload_n (i := 3) C dL_customer_3 rfl rfl ?_
  refine a_callV C dL_customer_4 cv_X6_addCustomer tb164 (m_X6_addCustomer hflags (h := h) hB h9 hOw hPw hbs) rfl rfl xC_0 rfl (Nat.le_of_ble_eq_true rfl) ⟨Nat.le_of_ble_eq_true rfl, Nat.le_of_ble_eq_true rfl⟩ ⟨Nat.le_of_eq (Nat.zero_add _), Nat.le_of_eq (Nat.zero_add _)⟩ (fun _ h => h) ⟨fun q hq j hj => (by simp only [List.mem_cons, List.not_mem_nil, or_false] at hq; rcases hq with rfl | rfl | rfl | rfl <;> first | exact Value.noConfusion hj | exact xnwB_ok (by decide) (Value.ref.inj hj)), fun v hv => nomatch hv⟩ (fun u h9 hu => by
      obtain ⟨rfl, hm⟩ := hu
      simp only [List.mem_cons, List.not_mem_nil, or_false, Prod.mk.injEq] at hm
      rcases hm with ⟨rfl, hc⟩ | ⟨rfl, hc⟩
      · exact a_catchRetL C hN (x := "java/lang/IllegalArgumentException") (pre := []) (suf := [⟨0, 8, 15, 19⟩]) (z := ⟨0, 8, 9, 15⟩) (i := 4) (w := 2) (v := eV) rfl (fun w hw => nomatch hw) (by decide) (by decide) tb162 tb173 rfl (Or.inl ⟨dL_customer_9, rfl⟩) (by decide) dL_customer_11 tb339 dL_customer_14 (Nat.le_of_eq (Nat.zero_add _)) (Nat.le_of_eq (Nat.zero_add _)) (hret _ _ ⟨_, _, fun z => absurd (hc.symm.trans z) (by decide), fun _ => ⟨by rw [hc]; rfl, rfl⟩⟩)
      · exact a_catchRetL C hN (x := "java/lang/IllegalStateException") (pre := [⟨0, 8, 9, 15⟩]) (suf := []) (z := ⟨0, 8, 15, 19⟩) (i := 4) (w := 2) (v := eN) rfl (fun w hw => by simp only [List.mem_cons, List.not_mem_nil, or_false] at hw; rcases hw with rfl <;> first | exact Or.inr ⟨by decide, "java/lang/IllegalArgumentException", tb162, by decide +kernel⟩) (by decide) (by decide) tb163 tb244 rfl (Or.inl ⟨dL_customer_15, rfl⟩) (by decide) dL_customer_17 tb340 dL_customer_20 (Nat.le_of_eq (Nat.zero_add _)) (Nat.le_of_eq (Nat.zero_add _)) (hret _ _ ⟨_, _, fun z => absurd (hc.symm.trans z) (by decide), fun _ => ⟨by rw [hc]; rfl, rfl⟩⟩)) (fun r4 hp4 hq4 => ?_)
  obtain ⟨h0, rfl, jc2, jr2, rfl⟩ := hq4
  refine a_i2l C dL_customer_7 ?_
  exact a_lret C dL_customer_8 (Nat.le_of_eq (Nat.zero_add _)) (Nat.le_of_eq (Nat.zero_add _)) (hret _ _ (⟨_, _, fun _ => ⟨rfl, rfl⟩, fun z => absurd h0 z⟩))
set_option maxRecDepth 100000 in
set_option maxHeartbeats 4000000 in
theorem w_rule {l : Launch} {N0 : Nat} {D : va_G} {dT : Nat → ClassId} (hflags : l.stackTraces = false) {h : xH} {n : Nat → Int32} {f : Nat → Nat → Int32} {g : Nat → Nat → Int64} {nc ni np nl q9 : Nat} {jc : Nat → Nat → Int32} {jr : Nat → Int64} {w v : Int32} (hbs : xBs h) (hJ : JI n f g nc ni np nl q9) (hq : q9 ≤ 500) : xMetN l N0 D dT yL_rule cL_rule 4 (some .long) [(0, 7, 8, 27), (0, 7, 13, 15)] 10 2 12 [.ref 0, .int w, .int v] (xC h nc ni np nl (n 1) f g jc jr) xNo (pP h n f g nc ni np nl nc ni np nl (o_setRule nc w v n f g) (fun k => if k = 1 then eP else if k = 2 then eV else eP)) := by
  have hnl := JI_nl hJ (by omega)
  obtain ⟨hI, ⟨t9, ht, ht2, hG⟩, hLl⟩ := id hJ
  obtain ⟨-, -, -, -, hc6, hi24, hp24, hl16⟩ := id hI
  have hB : nc ≤ 6 ∧ ni ≤ 24 ∧ np ≤ 24 ∧ nl ≤ 16000 := ⟨hc6, hi24, hp24, hl16⟩
  refine xMetN_of hflags (by decide +kernel) (fun _ _ h => h) (Nat.le_of_ble_eq_true rfl) ?_
  intro E C hN hret
  refine a_loc [(0, .ref 0), (1, .int w), (2, .int v)] (xsub_cons rfl (xsub_cons rfl (xsub_cons rfl (xsub_nil)))) ?_
  refine a_aload_n (i := 0) C dL_rule_0 rfl rfl ?_
  refine a_iload_n (i := 1) C dL_rule_1 rfl rfl ?_
  refine a_iload_n (i := 2) C dL_rule_2 rfl rfl ?_
  refine a_callV C dL_rule_3 cv_X6_setRule tb345 (m_X6_setRule hflags (h := h) hB ) rfl rfl xC_0 rfl (Nat.le_of_ble_eq_true rfl) ⟨Nat.le_of_ble_eq_true rfl, Nat.le_of_ble_eq_true rfl⟩ ⟨Nat.le_of_eq (Nat.zero_add _), Nat.le_of_eq (Nat.zero_add _)⟩ (fun _ h => h) xav_no (fun u h9 hu => by
      obtain ⟨rfl, hm⟩ := hu
      simp only [List.mem_cons, List.not_mem_nil, or_false, Prod.mk.injEq] at hm
      rcases hm with ⟨rfl, hc⟩ | ⟨rfl, hc⟩
      · exact a_catchRetL C hN (x := "java/lang/IndexOutOfBoundsException") (pre := []) (suf := [⟨0, 7, 13, 15⟩]) (z := ⟨0, 7, 8, 27⟩) (i := 3) (w := 1) (v := eP) rfl (fun w hw => nomatch hw) (by decide) (by decide) tb344 tb358 rfl (Or.inr ⟨⟨_, rfl, dL_rule_8⟩, rfl⟩) (by decide) dL_rule_9 tb386 dL_rule_12 (Nat.le_of_eq (Nat.zero_add _)) (Nat.le_of_eq (Nat.zero_add _)) (hret _ _ ⟨_, _, fun z => absurd (hc.symm.trans z) (by decide), fun _ => ⟨by rw [hc]; rfl, rfl⟩⟩)
      · exact a_catchRetL C hN (x := "java/lang/IllegalArgumentException") (pre := [⟨0, 7, 8, 27⟩]) (suf := []) (z := ⟨0, 7, 13, 15⟩) (i := 3) (w := 1) (v := eV) rfl (fun w hw => by simp only [List.mem_cons, List.not_mem_nil, or_false] at hw; rcases hw with rfl <;> first | exact Or.inr ⟨by decide, "java/lang/IndexOutOfBoundsException", tb344, by decide +kernel⟩) (by decide) (by decide) tb162 tb173 rfl (Or.inr ⟨⟨_, rfl, dL_rule_13⟩, rfl⟩) (by decide) dL_rule_14 tb339 dL_rule_17 (Nat.le_of_eq (Nat.zero_add _)) (Nat.le_of_eq (Nat.zero_add _)) (hret _ _ ⟨_, _, fun z => absurd (hc.symm.trans z) (by decide), fun _ => ⟨by rw [hc]; rfl, rfl⟩⟩)) (fun r3 hp3 hq3 => ?_)
  obtain ⟨h0, rfl, jc2, jr2, rfl⟩ := hq3
  refine a_i2l C dL_rule_6 ?_
  exact a_lret C dL_rule_7 (Nat.le_of_eq (Nat.zero_add _)) (Nat.le_of_eq (Nat.zero_add _)) (hret _ _ (⟨_, _, fun _ => ⟨rfl, rfl⟩, fun z => absurd h0 z⟩))
set_option maxRecDepth 100000 in
set_option maxHeartbeats 4000000 in
theorem w_rate {l : Launch} {N0 : Nat} {D : va_G} {dT : Nat → ClassId} (hflags : l.stackTraces = false) {h : xH} {n : Nat → Int32} {f : Nat → Nat → Int32} {g : Nat → Nat → Int64} {nc ni np nl q9 : Nat} {jc : Nat → Nat → Int32} {jr : Nat → Int64} {w v : Int32} (hbs : xBs h) (hJ : JI n f g nc ni np nl q9) (hq : q9 ≤ 500) : xMetN l N0 D dT yL_rate cL_rate 4 (some .long) [(0, 7, 8, 27), (0, 7, 13, 15)] 10 2 12 [.ref 0, .int w, .int v] (xC h nc ni np nl (n 1) f g jc jr) xNo (pP h n f g nc ni np nl nc ni np nl (o_setRate nc w v n f g) (fun k => if k = 1 then eP else if k = 2 then eV else eP)) := by
  have hnl := JI_nl hJ (by omega)
  obtain ⟨hI, ⟨t9, ht, ht2, hG⟩, hLl⟩ := id hJ
  obtain ⟨-, -, -, -, hc6, hi24, hp24, hl16⟩ := id hI
  have hB : nc ≤ 6 ∧ ni ≤ 24 ∧ np ≤ 24 ∧ nl ≤ 16000 := ⟨hc6, hi24, hp24, hl16⟩
  refine xMetN_of hflags (by decide +kernel) (fun _ _ h => h) (Nat.le_of_ble_eq_true rfl) ?_
  intro E C hN hret
  refine a_loc [(0, .ref 0), (1, .int w), (2, .int v)] (xsub_cons rfl (xsub_cons rfl (xsub_cons rfl (xsub_nil)))) ?_
  refine a_aload_n (i := 0) C dL_rate_0 rfl rfl ?_
  refine a_iload_n (i := 1) C dL_rate_1 rfl rfl ?_
  refine a_iload_n (i := 2) C dL_rate_2 rfl rfl ?_
  refine a_callV C dL_rate_3 cv_X6_setRate tb794 (m_X6_setRate hflags (h := h) hB ) rfl rfl xC_0 rfl (Nat.le_of_ble_eq_true rfl) ⟨Nat.le_of_ble_eq_true rfl, Nat.le_of_ble_eq_true rfl⟩ ⟨Nat.le_of_eq (Nat.zero_add _), Nat.le_of_eq (Nat.zero_add _)⟩ (fun _ h => h) xav_no (fun u h9 hu => by
      obtain ⟨rfl, hm⟩ := hu
      simp only [List.mem_cons, List.not_mem_nil, or_false, Prod.mk.injEq] at hm
      rcases hm with ⟨rfl, hc⟩ | ⟨rfl, hc⟩
      · exact a_catchRetL C hN (x := "java/lang/IndexOutOfBoundsException") (pre := []) (suf := [⟨0, 7, 13, 15⟩]) (z := ⟨0, 7, 8, 27⟩) (i := 3) (w := 1) (v := eP) rfl (fun w hw => nomatch hw) (by decide) (by decide) tb344 tb358 rfl (Or.inr ⟨⟨_, rfl, dL_rate_8⟩, rfl⟩) (by decide) dL_rate_9 tb386 dL_rate_12 (Nat.le_of_eq (Nat.zero_add _)) (Nat.le_of_eq (Nat.zero_add _)) (hret _ _ ⟨_, _, fun z => absurd (hc.symm.trans z) (by decide), fun _ => ⟨by rw [hc]; rfl, rfl⟩⟩)
      · exact a_catchRetL C hN (x := "java/lang/IllegalArgumentException") (pre := [⟨0, 7, 8, 27⟩]) (suf := []) (z := ⟨0, 7, 13, 15⟩) (i := 3) (w := 1) (v := eV) rfl (fun w hw => by simp only [List.mem_cons, List.not_mem_nil, or_false] at hw; rcases hw with rfl <;> first | exact Or.inr ⟨by decide, "java/lang/IndexOutOfBoundsException", tb344, by decide +kernel⟩) (by decide) (by decide) tb162 tb173 rfl (Or.inr ⟨⟨_, rfl, dL_rate_13⟩, rfl⟩) (by decide) dL_rate_14 tb339 dL_rate_17 (Nat.le_of_eq (Nat.zero_add _)) (Nat.le_of_eq (Nat.zero_add _)) (hret _ _ ⟨_, _, fun z => absurd (hc.symm.trans z) (by decide), fun _ => ⟨by rw [hc]; rfl, rfl⟩⟩)) (fun r3 hp3 hq3 => ?_)
  obtain ⟨h0, rfl, jc2, jr2, rfl⟩ := hq3
  refine a_i2l C dL_rate_6 ?_
  exact a_lret C dL_rate_7 (Nat.le_of_eq (Nat.zero_add _)) (Nat.le_of_eq (Nat.zero_add _)) (hret _ _ (⟨_, _, fun _ => ⟨rfl, rfl⟩, fun z => absurd h0 z⟩))
set_option maxRecDepth 100000 in
set_option maxHeartbeats 4000000 in
theorem w_pause {l : Launch} {N0 : Nat} {D : va_G} {dT : Nat → ClassId} (hflags : l.stackTraces = false) {h : xH} {n : Nat → Int32} {f : Nat → Nat → Int32} {g : Nat → Nat → Int64} {nc ni np nl q9 : Nat} {jc : Nat → Nat → Int32} {jr : Nat → Int64} {w v : Int32} (hbs : xBs h) (hJ : JI n f g nc ni np nl q9) (hq : q9 ≤ 500) : xMetN l N0 D dT yL_pause cL_pause 4 (some .long) [(0, 7, 8, 27), (0, 7, 13, 15)] 10 2 12 [.ref 0, .int w, .int v] (xC h nc ni np nl (n 1) f g jc jr) xNo (pP h n f g nc ni np nl nc ni np nl (o_pause nc w v n f g) (fun k => if k = 1 then eP else if k = 2 then eV else eP)) := by
  have hnl := JI_nl hJ (by omega)
  obtain ⟨hI, ⟨t9, ht, ht2, hG⟩, hLl⟩ := id hJ
  obtain ⟨-, -, -, -, hc6, hi24, hp24, hl16⟩ := id hI
  have hB : nc ≤ 6 ∧ ni ≤ 24 ∧ np ≤ 24 ∧ nl ≤ 16000 := ⟨hc6, hi24, hp24, hl16⟩
  refine xMetN_of hflags (by decide +kernel) (fun _ _ h => h) (Nat.le_of_ble_eq_true rfl) ?_
  intro E C hN hret
  refine a_loc [(0, .ref 0), (1, .int w), (2, .int v)] (xsub_cons rfl (xsub_cons rfl (xsub_cons rfl (xsub_nil)))) ?_
  refine a_aload_n (i := 0) C dL_pause_0 rfl rfl ?_
  refine a_iload_n (i := 1) C dL_pause_1 rfl rfl ?_
  refine a_iload_n (i := 2) C dL_pause_2 rfl rfl ?_
  refine a_callV C dL_pause_3 cv_X6_pauseReminders tb390 (m_X6_pauseReminders hflags (h := h) hB ) rfl rfl xC_0 rfl (Nat.le_of_ble_eq_true rfl) ⟨Nat.le_of_ble_eq_true rfl, Nat.le_of_ble_eq_true rfl⟩ ⟨Nat.le_of_eq (Nat.zero_add _), Nat.le_of_eq (Nat.zero_add _)⟩ (fun _ h => h) xav_no (fun u h9 hu => by
      obtain ⟨rfl, hm⟩ := hu
      simp only [List.mem_cons, List.not_mem_nil, or_false, Prod.mk.injEq] at hm
      rcases hm with ⟨rfl, hc⟩ | ⟨rfl, hc⟩
      · exact a_catchRetL C hN (x := "java/lang/IndexOutOfBoundsException") (pre := []) (suf := [⟨0, 7, 13, 15⟩]) (z := ⟨0, 7, 8, 27⟩) (i := 3) (w := 1) (v := eP) rfl (fun w hw => nomatch hw) (by decide) (by decide) tb344 tb358 rfl (Or.inr ⟨⟨_, rfl, dL_pause_8⟩, rfl⟩) (by decide) dL_pause_9 tb386 dL_pause_12 (Nat.le_of_eq (Nat.zero_add _)) (Nat.le_of_eq (Nat.zero_add _)) (hret _ _ ⟨_, _, fun z => absurd (hc.symm.trans z) (by decide), fun _ => ⟨by rw [hc]; rfl, rfl⟩⟩)
      · exact a_catchRetL C hN (x := "java/lang/IllegalArgumentException") (pre := [⟨0, 7, 8, 27⟩]) (suf := []) (z := ⟨0, 7, 13, 15⟩) (i := 3) (w := 1) (v := eV) rfl (fun w hw => by simp only [List.mem_cons, List.not_mem_nil, or_false] at hw; rcases hw with rfl <;> first | exact Or.inr ⟨by decide, "java/lang/IndexOutOfBoundsException", tb344, by decide +kernel⟩) (by decide) (by decide) tb162 tb173 rfl (Or.inr ⟨⟨_, rfl, dL_pause_13⟩, rfl⟩) (by decide) dL_pause_14 tb339 dL_pause_17 (Nat.le_of_eq (Nat.zero_add _)) (Nat.le_of_eq (Nat.zero_add _)) (hret _ _ ⟨_, _, fun z => absurd (hc.symm.trans z) (by decide), fun _ => ⟨by rw [hc]; rfl, rfl⟩⟩)) (fun r3 hp3 hq3 => ?_)
  obtain ⟨h0, rfl, jc2, jr2, rfl⟩ := hq3
  refine a_i2l C dL_pause_6 ?_
  exact a_lret C dL_pause_7 (Nat.le_of_eq (Nat.zero_add _)) (Nat.le_of_eq (Nat.zero_add _)) (hret _ _ (⟨_, _, fun _ => ⟨rfl, rfl⟩, fun z => absurd h0 z⟩))
set_option maxRecDepth 100000 in
set_option maxHeartbeats 4000000 in
theorem w_pass {l : Launch} {N0 : Nat} {D : va_G} {dT : Nat → ClassId} (hflags : l.stackTraces = false) {h : xH} {n : Nat → Int32} {f : Nat → Nat → Int32} {g : Nat → Nat → Int64} {nc ni np nl q9 : Nat} {jc : Nat → Nat → Int32} {jr : Nat → Int64} {d : Int32} (hbs : xBs h) (hJ : JI n f g nc ni np nl q9) (hq : q9 ≤ 500) : xMetN l N0 D dT yL_pass cL_pass 3 (some .long) [(0, 6, 7, 15), (0, 6, 12, 19)] 10 2 12 [.ref 0, .int d] (xC h nc ni np nl (n 1) f g jc jr) xNo (pP h n f g nc ni np nl nc ni np nl (o_passDays ni d n f g) (fun k => if k = 1 then eV else if k = 2 then eN else eP)) := by
  have hnl := JI_nl hJ (by omega)
  obtain ⟨hI, ⟨t9, ht, ht2, hG⟩, hLl⟩ := id hJ
  obtain ⟨-, -, -, -, hc6, hi24, hp24, hl16⟩ := id hI
  have hB : nc ≤ 6 ∧ ni ≤ 24 ∧ np ≤ 24 ∧ nl ≤ 16000 := ⟨hc6, hi24, hp24, hl16⟩
  have hOw := xow_lt hG.1.1 hc6
  have hWx := hG.2.2.1.1
  refine xMetN_of hflags (by decide +kernel) (fun _ _ h => h) (Nat.le_of_ble_eq_true rfl) ?_
  intro E C hN hret
  refine a_loc [(0, .ref 0), (1, .int d)] (xsub_cons rfl (xsub_cons rfl (xsub_nil))) ?_
  refine a_aload_n (i := 0) C dL_pass_0 rfl rfl ?_
  refine a_iload_n (i := 1) C dL_pass_1 rfl rfl ?_
  refine a_callV C dL_pass_2 cv_X6_passDays tb397 (m_X6_passDays hflags (h := h) hB hOw hWx ht ht2) rfl rfl xC_0 rfl (Nat.le_of_ble_eq_true rfl) ⟨Nat.le_of_ble_eq_true rfl, Nat.le_of_ble_eq_true rfl⟩ ⟨Nat.le_of_eq (Nat.zero_add _), Nat.le_of_eq (Nat.zero_add _)⟩ (fun _ h => h) xav_no (fun u h9 hu => by
      obtain ⟨rfl, hm⟩ := hu
      simp only [List.mem_cons, List.not_mem_nil, or_false, Prod.mk.injEq] at hm
      rcases hm with ⟨rfl, hc⟩ | ⟨rfl, hc⟩
      · exact a_catchRetL C hN (x := "java/lang/IllegalArgumentException") (pre := []) (suf := [⟨0, 6, 12, 19⟩]) (z := ⟨0, 6, 7, 15⟩) (i := 2) (w := 1) (v := eV) rfl (fun w hw => nomatch hw) (by decide) (by decide) tb162 tb173 rfl (Or.inr ⟨⟨_, rfl, dL_pass_7⟩, rfl⟩) (by decide) dL_pass_8 tb339 dL_pass_11 (Nat.le_of_eq (Nat.zero_add _)) (Nat.le_of_eq (Nat.zero_add _)) (hret _ _ ⟨_, _, fun z => absurd (hc.symm.trans z) (by decide), fun _ => ⟨by rw [hc]; rfl, rfl⟩⟩)
      · exact a_catchRetL C hN (x := "java/lang/IllegalStateException") (pre := [⟨0, 6, 7, 15⟩]) (suf := []) (z := ⟨0, 6, 12, 19⟩) (i := 2) (w := 1) (v := eN) rfl (fun w hw => by simp only [List.mem_cons, List.not_mem_nil, or_false] at hw; rcases hw with rfl <;> first | exact Or.inr ⟨by decide, "java/lang/IllegalArgumentException", tb162, by decide +kernel⟩) (by decide) (by decide) tb163 tb244 rfl (Or.inr ⟨⟨_, rfl, dL_pass_12⟩, rfl⟩) (by decide) dL_pass_13 tb340 dL_pass_16 (Nat.le_of_eq (Nat.zero_add _)) (Nat.le_of_eq (Nat.zero_add _)) (hret _ _ ⟨_, _, fun z => absurd (hc.symm.trans z) (by decide), fun _ => ⟨by rw [hc]; rfl, rfl⟩⟩)) (fun r2 hp2 hq2 => ?_)
  obtain ⟨h0, rfl, jc2, jr2, rfl⟩ := hq2
  refine a_i2l C dL_pass_5 ?_
  exact a_lret C dL_pass_6 (Nat.le_of_eq (Nat.zero_add _)) (Nat.le_of_eq (Nat.zero_add _)) (hret _ _ (⟨_, _, fun _ => ⟨rfl, rfl⟩, fun z => absurd h0 z⟩))
set_option maxRecDepth 100000 in
set_option maxHeartbeats 4000000 in
theorem w_invoice {l : Launch} {N0 : Nat} {D : va_G} {dT : Nat → ClassId} (hflags : l.stackTraces = false) {h : xH} {n : Nat → Int32} {f : Nat → Nat → Int32} {g : Nat → Nat → Int64} {nc ni np nl q9 : Nat} {jc : Nat → Nat → Int32} {jr : Nat → Int64} {w a t : Int32} (hbs : xBs h) (hJ : JI n f g nc ni np nl q9) (hq : q9 ≤ 500) : xMetN l N0 D dT yL_invoice cL_invoice 5 (some .long) [(0, 8, 9, 27), (0, 8, 15, 15), (0, 8, 21, 19)] 10 (6 + lCel nl (mWl nl a)) (67 + lSlt nl (mWl nl a)) [.ref 0, .int w, .int a, .int t] (xC h nc ni np nl (n 1) f g jc jr) xnwB (pP h n f g nc ni np nl nc (ni + 1) np (mWl nl a) (o_postInvoice nc ni nl w a t n f g) (fun k => if k = 1 then eP else if k = 2 then eV else if k = 3 then eN else eP)) := by
  have hnl := JI_nl hJ (by omega)
  obtain ⟨hI, ⟨t9, ht, ht2, hG⟩, hLl⟩ := id hJ
  obtain ⟨-, -, -, -, hc6, hi24, hp24, hl16⟩ := id hI
  have hB : nc ≤ 6 ∧ ni ≤ 24 ∧ np ≤ 24 ∧ nl ≤ 16000 := ⟨hc6, hi24, hp24, hl16⟩
  obtain ⟨z14, z17, z18, z15⟩ := hG.2.1.1 ni (Nat.le_refl ni)
  have hOe := hG.1.1
  have hPe := hG.1.2.1
  refine xMetN_of hflags (by decide +kernel) (fun j h1 h2 => by omega) (Nat.le_of_ble_eq_true rfl) ?_
  intro E C hN hret
  refine a_loc [(0, .ref 0), (1, .int w), (2, .int a), (3, .int t)] (xsub_cons rfl (xsub_cons rfl (xsub_cons rfl (xsub_cons rfl (xsub_nil))))) ?_
  refine a_aload_n (i := 0) C dL_invoice_0 rfl rfl ?_
  refine a_iload_n (i := 1) C dL_invoice_1 rfl rfl ?_
  refine a_iload_n (i := 2) C dL_invoice_2 rfl rfl ?_
  refine a_iload_n (i := 3) C dL_invoice_3 rfl rfl ?_
  refine a_callV C dL_invoice_4 cv_X6_postInvoice tb450 (m_X6_postInvoice hflags (h := h) hB z14 z17 z18 z15 (by omega) hOe hPe hbs) rfl rfl xC_0 rfl (Nat.le_of_ble_eq_true rfl) ⟨Nat.le_of_ble_eq_true rfl, Nat.le_of_ble_eq_true rfl⟩ ⟨Nat.le_of_eq (Nat.zero_add _), Nat.le_of_eq (Nat.zero_add _)⟩ (fun _ h => h) ⟨fun q hq j hj => (by simp only [List.mem_cons, List.not_mem_nil, or_false] at hq; rcases hq with rfl | rfl | rfl | rfl <;> first | exact Value.noConfusion hj | exact xnwB_ok (by decide) (Value.ref.inj hj)), fun v hv => nomatch hv⟩ (fun u h9 hu => by
      obtain ⟨rfl, hm⟩ := hu
      simp only [List.mem_cons, List.not_mem_nil, or_false, Prod.mk.injEq] at hm
      rcases hm with ⟨rfl, hc⟩ | ⟨rfl, hc⟩ | ⟨rfl, hc⟩
      · exact a_catchRetL C hN (x := "java/lang/IndexOutOfBoundsException") (pre := []) (suf := [⟨0, 8, 15, 15⟩, ⟨0, 8, 21, 19⟩]) (z := ⟨0, 8, 9, 27⟩) (i := 4) (w := 2) (v := eP) rfl (fun w hw => nomatch hw) (by decide) (by decide) tb344 tb358 rfl (Or.inl ⟨dL_invoice_9, rfl⟩) (by decide) dL_invoice_11 tb386 dL_invoice_14 (Nat.le_of_eq (Nat.zero_add _)) (Nat.le_of_eq (Nat.zero_add _)) (hret _ _ ⟨_, _, fun z => absurd (hc.symm.trans z) (by decide), fun _ => ⟨by rw [hc]; rfl, rfl⟩⟩)
      · exact a_catchRetL C hN (x := "java/lang/IllegalArgumentException") (pre := [⟨0, 8, 9, 27⟩]) (suf := [⟨0, 8, 21, 19⟩]) (z := ⟨0, 8, 15, 15⟩) (i := 4) (w := 2) (v := eV) rfl (fun w hw => by simp only [List.mem_cons, List.not_mem_nil, or_false] at hw; rcases hw with rfl <;> first | exact Or.inr ⟨by decide, "java/lang/IndexOutOfBoundsException", tb344, by decide +kernel⟩) (by decide) (by decide) tb162 tb173 rfl (Or.inl ⟨dL_invoice_15, rfl⟩) (by decide) dL_invoice_17 tb339 dL_invoice_20 (Nat.le_of_eq (Nat.zero_add _)) (Nat.le_of_eq (Nat.zero_add _)) (hret _ _ ⟨_, _, fun z => absurd (hc.symm.trans z) (by decide), fun _ => ⟨by rw [hc]; rfl, rfl⟩⟩)
      · exact a_catchRetL C hN (x := "java/lang/IllegalStateException") (pre := [⟨0, 8, 9, 27⟩, ⟨0, 8, 15, 15⟩]) (suf := []) (z := ⟨0, 8, 21, 19⟩) (i := 4) (w := 2) (v := eN) rfl (fun w hw => by simp only [List.mem_cons, List.not_mem_nil, or_false] at hw; rcases hw with rfl | rfl <;> first | exact Or.inr ⟨by decide, "java/lang/IndexOutOfBoundsException", tb344, by decide +kernel⟩ | exact Or.inr ⟨by decide, "java/lang/IllegalArgumentException", tb162, by decide +kernel⟩) (by decide) (by decide) tb163 tb244 rfl (Or.inl ⟨dL_invoice_21, rfl⟩) (by decide) dL_invoice_23 tb340 dL_invoice_26 (Nat.le_of_eq (Nat.zero_add _)) (Nat.le_of_eq (Nat.zero_add _)) (hret _ _ ⟨_, _, fun z => absurd (hc.symm.trans z) (by decide), fun _ => ⟨by rw [hc]; rfl, rfl⟩⟩)) (fun r4 hp4 hq4 => ?_)
  obtain ⟨h0, rfl, jc2, jr2, rfl⟩ := hq4
  refine a_i2l C dL_invoice_7 ?_
  exact a_lret C dL_invoice_8 (Nat.le_of_eq (Nat.zero_add _)) (Nat.le_of_eq (Nat.zero_add _)) (hret _ _ (⟨_, _, fun _ => ⟨rfl, rfl⟩, fun z => absurd h0 z⟩))
set_option maxRecDepth 100000 in
set_option maxHeartbeats 4000000 in
theorem w_pay {l : Launch} {N0 : Nat} {D : va_G} {dT : Nat → ClassId} (hflags : l.stackTraces = false) {h : xH} {n : Nat → Int32} {f : Nat → Nat → Int32} {g : Nat → Nat → Int64} {nc ni np nl q9 : Nat} {jc : Nat → Nat → Int32} {jr : Nat → Int64} {w a : Int32} (hbs : xBs h) (hJ : JI n f g nc ni np nl q9) (hq : q9 ≤ 500) : xMetN l N0 D dT yL_pay cL_pay 4 (some .long) [(0, 7, 8, 27), (0, 7, 13, 15), (0, 7, 18, 19)] 10 (6 + lCel nl (mAR ni nl np w.toNatClampNeg (nup (nup n 0 0) 4 (nI (np + 1))) (fup (fup f 19 (upd (f 19) np w)) 20 (upd (f 20) np a)) g).2.1) (80 + lSlt nl (mAR ni nl np w.toNatClampNeg (nup (nup n 0 0) 4 (nI (np + 1))) (fup (fup f 19 (upd (f 19) np w)) 20 (upd (f 20) np a)) g).2.1) [.ref 0, .int w, .int a] (xC h nc ni np nl (n 1) f g jc jr) xnwB (pP h n f g nc ni np nl nc ni (np + 1) ((mAR ni nl np w.toNatClampNeg (nup (nup n 0 0) 4 (nI (np + 1))) (fup (fup f 19 (upd (f 19) np w)) 20 (upd (f 20) np a)) g).2.1) (o_postPayment nc ni np nl w a n f g) (fun k => if k = 1 then eP else if k = 2 then eV else if k = 3 then eN else eP)) := by
  have hnl := JI_nl hJ (by omega)
  obtain ⟨hI, ⟨t9, ht, ht2, hG⟩, hLl⟩ := id hJ
  obtain ⟨-, -, -, -, hc6, hi24, hp24, hl16⟩ := id hI
  have hB : nc ≤ 6 ∧ ni ≤ 24 ∧ np ≤ 24 ∧ nl ≤ 16000 := ⟨hc6, hi24, hp24, hl16⟩
  have z21 := hG.2.1.2.2.1 np (Nat.le_refl np)
  have z22 : ∀ q, q < 24 → f 22 (24 * np + q) = 0 := fun q hq => hG.2.1.2.2.2 np q hq (Or.inl (Nat.le_refl np))
  have hWz := JG_W hG
  have hOe := hG.1.1
  have hPe := hG.1.2.1
  refine xMetN_of hflags (by decide +kernel) (fun j h1 h2 => by omega) (Nat.le_of_ble_eq_true rfl) ?_
  intro E C hN hret
  refine a_loc [(0, .ref 0), (1, .int w), (2, .int a)] (xsub_cons rfl (xsub_cons rfl (xsub_cons rfl (xsub_nil)))) ?_
  refine a_aload_n (i := 0) C dL_pay_0 rfl rfl ?_
  refine a_iload_n (i := 1) C dL_pay_1 rfl rfl ?_
  refine a_iload_n (i := 2) C dL_pay_2 rfl rfl ?_
  refine a_callV C dL_pay_3 cv_X6_postPayment tb801 (m_X6_postPayment hflags (h := h) hB z21 z22 hWz (by omega) hOe hPe hbs) rfl rfl xC_0 rfl (Nat.le_of_ble_eq_true rfl) ⟨Nat.le_of_ble_eq_true rfl, Nat.le_of_ble_eq_true rfl⟩ ⟨Nat.le_of_eq (Nat.zero_add _), Nat.le_of_eq (Nat.zero_add _)⟩ (fun _ h => h) ⟨fun q hq j hj => (by simp only [List.mem_cons, List.not_mem_nil, or_false] at hq; rcases hq with rfl | rfl | rfl <;> first | exact Value.noConfusion hj | exact xnwB_ok (by decide) (Value.ref.inj hj)), fun v hv => nomatch hv⟩ (fun u h9 hu => by
      obtain ⟨rfl, hm⟩ := hu
      simp only [List.mem_cons, List.not_mem_nil, or_false, Prod.mk.injEq] at hm
      rcases hm with ⟨rfl, hc⟩ | ⟨rfl, hc⟩ | ⟨rfl, hc⟩
      · exact a_catchRetL C hN (x := "java/lang/IndexOutOfBoundsException") (pre := []) (suf := [⟨0, 7, 13, 15⟩, ⟨0, 7, 18, 19⟩]) (z := ⟨0, 7, 8, 27⟩) (i := 3) (w := 1) (v := eP) rfl (fun w hw => nomatch hw) (by decide) (by decide) tb344 tb358 rfl (Or.inr ⟨⟨_, rfl, dL_pay_8⟩, rfl⟩) (by decide) dL_pay_9 tb386 dL_pay_12 (Nat.le_of_eq (Nat.zero_add _)) (Nat.le_of_eq (Nat.zero_add _)) (hret _ _ ⟨_, _, fun z => absurd (hc.symm.trans z) (by decide), fun _ => ⟨by rw [hc]; rfl, rfl⟩⟩)
      · exact a_catchRetL C hN (x := "java/lang/IllegalArgumentException") (pre := [⟨0, 7, 8, 27⟩]) (suf := [⟨0, 7, 18, 19⟩]) (z := ⟨0, 7, 13, 15⟩) (i := 3) (w := 1) (v := eV) rfl (fun w hw => by simp only [List.mem_cons, List.not_mem_nil, or_false] at hw; rcases hw with rfl <;> first | exact Or.inr ⟨by decide, "java/lang/IndexOutOfBoundsException", tb344, by decide +kernel⟩) (by decide) (by decide) tb162 tb173 rfl (Or.inr ⟨⟨_, rfl, dL_pay_13⟩, rfl⟩) (by decide) dL_pay_14 tb339 dL_pay_17 (Nat.le_of_eq (Nat.zero_add _)) (Nat.le_of_eq (Nat.zero_add _)) (hret _ _ ⟨_, _, fun z => absurd (hc.symm.trans z) (by decide), fun _ => ⟨by rw [hc]; rfl, rfl⟩⟩)
      · exact a_catchRetL C hN (x := "java/lang/IllegalStateException") (pre := [⟨0, 7, 8, 27⟩, ⟨0, 7, 13, 15⟩]) (suf := []) (z := ⟨0, 7, 18, 19⟩) (i := 3) (w := 1) (v := eN) rfl (fun w hw => by simp only [List.mem_cons, List.not_mem_nil, or_false] at hw; rcases hw with rfl | rfl <;> first | exact Or.inr ⟨by decide, "java/lang/IndexOutOfBoundsException", tb344, by decide +kernel⟩ | exact Or.inr ⟨by decide, "java/lang/IllegalArgumentException", tb162, by decide +kernel⟩) (by decide) (by decide) tb163 tb244 rfl (Or.inr ⟨⟨_, rfl, dL_pay_18⟩, rfl⟩) (by decide) dL_pay_19 tb340 dL_pay_22 (Nat.le_of_eq (Nat.zero_add _)) (Nat.le_of_eq (Nat.zero_add _)) (hret _ _ ⟨_, _, fun z => absurd (hc.symm.trans z) (by decide), fun _ => ⟨by rw [hc]; rfl, rfl⟩⟩)) (fun r3 hp3 hq3 => ?_)
  obtain ⟨h0, rfl, jc2, jr2, rfl⟩ := hq3
  refine a_i2l C dL_pay_6 ?_
  exact a_lret C dL_pay_7 (Nat.le_of_eq (Nat.zero_add _)) (Nat.le_of_eq (Nat.zero_add _)) (hret _ _ (⟨_, _, fun _ => ⟨rfl, rfl⟩, fun z => absurd h0 z⟩))
set_option maxRecDepth 100000 in
set_option maxHeartbeats 4000000 in
theorem w_allocate {l : Launch} {N0 : Nat} {D : va_G} {dT : Nat → ClassId} (hflags : l.stackTraces = false) {h : xH} {n : Nat → Int32} {f : Nat → Nat → Int32} {g : Nat → Nat → Int64} {nc ni np nl q9 : Nat} {jc : Nat → Nat → Int32} {jr : Nat → Int64} {w u a : Int32} (hbs : xBs h) (hJ : JI n f g nc ni np nl q9) (hq : q9 ≤ 500) : xMetN l N0 D dT yL_allocate cL_allocate 5 (some .long) [(0, 8, 9, 27), (0, 8, 15, 15), (0, 8, 21, 19)] 10 (4 + lCel nl (mWl nl (-a))) (24 + lSlt nl (mWl nl (-a))) [.ref 0, .int w, .int u, .int a] (xC h nc ni np nl (n 1) f g jc jr) xnwD (pP h n f g nc ni np nl nc ni np (mWl nl (-a)) (o_allocate ni np nl w u a n f g) (fun k => if k = 1 then eP else if k = 2 then eV else if k = 3 then eN else eP)) := by
  have hnl := JI_nl hJ (by omega)
  obtain ⟨hI, ⟨t9, ht, ht2, hG⟩, hLl⟩ := id hJ
  obtain ⟨-, -, -, -, hc6, hi24, hp24, hl16⟩ := id hI
  have hB : nc ≤ 6 ∧ ni ≤ 24 ∧ np ≤ 24 ∧ nl ≤ 16000 := ⟨hc6, hi24, hp24, hl16⟩
  have hOe := hG.1.1
  have hPe := hG.1.2.1
  have hRV : ∀ p, p < np → ¬ f 21 p = 0 → f 20 p = 0 := fun p hp z => (hG.2.2.2.1.2.2.2.2 p hp z).1
  refine xMetN_of hflags (by decide +kernel) (fun j h1 h2 => by omega) (Nat.le_of_ble_eq_true rfl) ?_
  intro E C hN hret
  refine a_loc [(0, .ref 0), (1, .int w), (2, .int u), (3, .int a)] (xsub_cons rfl (xsub_cons rfl (xsub_cons rfl (xsub_cons rfl (xsub_nil))))) ?_
  refine a_aload_n (i := 0) C dL_allocate_0 rfl rfl ?_
  refine a_iload_n (i := 1) C dL_allocate_1 rfl rfl ?_
  refine a_iload_n (i := 2) C dL_allocate_2 rfl rfl ?_
  refine a_iload_n (i := 3) C dL_allocate_3 rfl rfl ?_
  refine a_callV C dL_allocate_4 cv_X6_allocate tb526 (m_X6_allocate hflags (h := h) hB hOe hPe hRV (by omega) hbs) rfl rfl xC_0 rfl (Nat.le_of_ble_eq_true rfl) ⟨Nat.le_of_ble_eq_true rfl, Nat.le_of_ble_eq_true rfl⟩ ⟨Nat.le_of_eq (Nat.zero_add _), Nat.le_of_eq (Nat.zero_add _)⟩ (fun _ h => h) ⟨fun q hq j hj => (by simp only [List.mem_cons, List.not_mem_nil, or_false] at hq; rcases hq with rfl | rfl | rfl | rfl <;> first | exact Value.noConfusion hj | exact xnwD_ok (by decide) (Value.ref.inj hj)), fun v hv => nomatch hv⟩ (fun u h9 hu => by
      obtain ⟨rfl, hm⟩ := hu
      simp only [List.mem_cons, List.not_mem_nil, or_false, Prod.mk.injEq] at hm
      rcases hm with ⟨rfl, hc⟩ | ⟨rfl, hc⟩ | ⟨rfl, hc⟩
      · exact a_catchRetL C hN (x := "java/lang/IndexOutOfBoundsException") (pre := []) (suf := [⟨0, 8, 15, 15⟩, ⟨0, 8, 21, 19⟩]) (z := ⟨0, 8, 9, 27⟩) (i := 4) (w := 2) (v := eP) rfl (fun w hw => nomatch hw) (by decide) (by decide) tb344 tb358 rfl (Or.inl ⟨dL_allocate_9, rfl⟩) (by decide) dL_allocate_11 tb386 dL_allocate_14 (Nat.le_of_eq (Nat.zero_add _)) (Nat.le_of_eq (Nat.zero_add _)) (hret _ _ ⟨_, _, fun z => absurd (hc.symm.trans z) (by decide), fun _ => ⟨by rw [hc]; rfl, rfl⟩⟩)
      · exact a_catchRetL C hN (x := "java/lang/IllegalArgumentException") (pre := [⟨0, 8, 9, 27⟩]) (suf := [⟨0, 8, 21, 19⟩]) (z := ⟨0, 8, 15, 15⟩) (i := 4) (w := 2) (v := eV) rfl (fun w hw => by simp only [List.mem_cons, List.not_mem_nil, or_false] at hw; rcases hw with rfl <;> first | exact Or.inr ⟨by decide, "java/lang/IndexOutOfBoundsException", tb344, by decide +kernel⟩) (by decide) (by decide) tb162 tb173 rfl (Or.inl ⟨dL_allocate_15, rfl⟩) (by decide) dL_allocate_17 tb339 dL_allocate_20 (Nat.le_of_eq (Nat.zero_add _)) (Nat.le_of_eq (Nat.zero_add _)) (hret _ _ ⟨_, _, fun z => absurd (hc.symm.trans z) (by decide), fun _ => ⟨by rw [hc]; rfl, rfl⟩⟩)
      · exact a_catchRetL C hN (x := "java/lang/IllegalStateException") (pre := [⟨0, 8, 9, 27⟩, ⟨0, 8, 15, 15⟩]) (suf := []) (z := ⟨0, 8, 21, 19⟩) (i := 4) (w := 2) (v := eN) rfl (fun w hw => by simp only [List.mem_cons, List.not_mem_nil, or_false] at hw; rcases hw with rfl | rfl <;> first | exact Or.inr ⟨by decide, "java/lang/IndexOutOfBoundsException", tb344, by decide +kernel⟩ | exact Or.inr ⟨by decide, "java/lang/IllegalArgumentException", tb162, by decide +kernel⟩) (by decide) (by decide) tb163 tb244 rfl (Or.inl ⟨dL_allocate_21, rfl⟩) (by decide) dL_allocate_23 tb340 dL_allocate_26 (Nat.le_of_eq (Nat.zero_add _)) (Nat.le_of_eq (Nat.zero_add _)) (hret _ _ ⟨_, _, fun z => absurd (hc.symm.trans z) (by decide), fun _ => ⟨by rw [hc]; rfl, rfl⟩⟩)) (fun r4 hp4 hq4 => ?_)
  obtain ⟨h0, rfl, jc2, jr2, rfl⟩ := hq4
  refine a_i2l C dL_allocate_7 ?_
  exact a_lret C dL_allocate_8 (Nat.le_of_eq (Nat.zero_add _)) (Nat.le_of_eq (Nat.zero_add _)) (hret _ _ (⟨_, _, fun _ => ⟨rfl, rfl⟩, fun z => absurd h0 z⟩))
set_option maxRecDepth 100000 in
set_option maxHeartbeats 4000000 in
theorem w_rest {l : Launch} {N0 : Nat} {D : va_G} {dT : Nat → ClassId} (hflags : l.stackTraces = false) {h : xH} {n : Nat → Int32} {f : Nat → Nat → Int32} {g : Nat → Nat → Int64} {nc ni np nl q9 : Nat} {jc : Nat → Nat → Int32} {jr : Nat → Int64} {w : Int32} (hbs : xBs h) (hJ : JI n f g nc ni np nl q9) (hq : q9 ≤ 500) : xMetN l N0 D dT yL_rest cL_rest 3 (some .long) [(0, 6, 7, 27)] 10 (1 + lCel nl ((mRS ni nl w.toNatClampNeg (nup n 0 0) f g np).2.1)) (6 + lSlt nl ((mRS ni nl w.toNatClampNeg (nup n 0 0) f g np).2.1)) [.ref 0, .int w] (xC h nc ni np nl (n 1) f g jc jr) xnwD (pP h n f g nc ni np nl nc ni np ((mRS ni nl w.toNatClampNeg (nup n 0 0) f g np).2.1) (o_allocateRest nc ni np nl w n f g) (fun k => if k = 1 then eP else eP)) := by
  have hnl := JI_nl hJ (by omega)
  obtain ⟨hI, ⟨t9, ht, ht2, hG⟩, hLl⟩ := id hJ
  obtain ⟨-, -, -, -, hc6, hi24, hp24, hl16⟩ := id hI
  have hB : nc ≤ 6 ∧ ni ≤ 24 ∧ np ≤ 24 ∧ nl ≤ 16000 := ⟨hc6, hi24, hp24, hl16⟩
  have hb := JI_b hJ (by omega)
  have hOe := hG.1.1
  have hPe := hG.1.2.1
  refine xMetN_of hflags (by decide +kernel) (fun j h1 h2 => by omega) (Nat.le_of_ble_eq_true rfl) ?_
  intro E C hN hret
  refine a_loc [(0, .ref 0), (1, .int w)] (xsub_cons rfl (xsub_cons rfl (xsub_nil))) ?_
  refine a_aload_n (i := 0) C dL_rest_0 rfl rfl ?_
  refine a_iload_n (i := 1) C dL_rest_1 rfl rfl ?_
  refine a_callV C dL_rest_2 cv_X6_allocateRest tb568 (m_X6_allocateRest hflags (h := h) hB (fun _ => cRok_of hG hi24 hb) hOe hPe hbs) rfl rfl xC_0 rfl (Nat.le_of_ble_eq_true rfl) ⟨Nat.le_of_ble_eq_true rfl, Nat.le_of_ble_eq_true rfl⟩ ⟨Nat.le_of_eq (Nat.zero_add _), Nat.le_of_eq (Nat.zero_add _)⟩ (fun _ h => h) ⟨fun q hq j hj => (by simp only [List.mem_cons, List.not_mem_nil, or_false] at hq; rcases hq with rfl | rfl <;> first | exact Value.noConfusion hj | exact xnwD_ok (by decide) (Value.ref.inj hj)), fun v hv => nomatch hv⟩ (fun u h9 hu => by
      obtain ⟨rfl, hm⟩ := hu
      simp only [List.mem_cons, List.not_mem_nil, or_false, Prod.mk.injEq] at hm
      rcases hm with ⟨rfl, hc⟩
      exact a_catchRetL C hN (x := "java/lang/IndexOutOfBoundsException") (pre := []) (suf := []) (z := ⟨0, 6, 7, 27⟩) (i := 2) (w := 1) (v := eP) rfl (fun w hw => nomatch hw) (by decide) (by decide) tb344 tb358 rfl (Or.inr ⟨⟨_, rfl, dL_rest_7⟩, rfl⟩) (by decide) dL_rest_8 tb386 dL_rest_11 (Nat.le_of_eq (Nat.zero_add _)) (Nat.le_of_eq (Nat.zero_add _)) (hret _ _ ⟨_, _, fun z => absurd (hc.symm.trans z) (by decide), fun _ => ⟨by rw [hc]; rfl, rfl⟩⟩)) (fun r2 hp2 hq2 => ?_)
  obtain ⟨h0, rfl, jc2, jr2, rfl⟩ := hq2
  refine a_i2l C dL_rest_5 ?_
  exact a_lret C dL_rest_6 (Nat.le_of_eq (Nat.zero_add _)) (Nat.le_of_eq (Nat.zero_add _)) (hret _ _ (⟨_, _, fun _ => ⟨rfl, rfl⟩, fun z => absurd h0 z⟩))
set_option maxRecDepth 100000 in
set_option maxHeartbeats 4000000 in
theorem w_release {l : Launch} {N0 : Nat} {D : va_G} {dT : Nat → ClassId} (hflags : l.stackTraces = false) {h : xH} {n : Nat → Int32} {f : Nat → Nat → Int32} {g : Nat → Nat → Int64} {nc ni np nl q9 : Nat} {jc : Nat → Nat → Int32} {jr : Nat → Int64} {w u : Int32} (hbs : xBs h) (hJ : JI n f g nc ni np nl q9) (hq : q9 ≤ 500) : xMetN l N0 D dT yL_release cL_release 4 (some .long) [(0, 7, 8, 27)] 10 (2 + lCel nl (mWl nl (f 22 (24 * w.toNatClampNeg + u.toNatClampNeg)))) (12 + lSlt nl (mWl nl (f 22 (24 * w.toNatClampNeg + u.toNatClampNeg)))) [.ref 0, .int w, .int u] (xC h nc ni np nl (n 1) f g jc jr) xnwD (pP h n f g nc ni np nl nc ni np (mWl nl (f 22 (24 * w.toNatClampNeg + u.toNatClampNeg))) (o_release ni np nl w u n f g) (fun k => if k = 1 then eP else eP)) := by
  have hnl := JI_nl hJ (by omega)
  obtain ⟨hI, ⟨t9, ht, ht2, hG⟩, hLl⟩ := id hJ
  obtain ⟨-, -, -, -, hc6, hi24, hp24, hl16⟩ := id hI
  have hB : nc ≤ 6 ∧ ni ≤ 24 ∧ np ≤ 24 ∧ nl ≤ 16000 := ⟨hc6, hi24, hp24, hl16⟩
  have h22 : ∀ p i, p < np → i < ni → 0 ≤ f 22 (24 * p + i) := fun p i hp hi => i32_le.mpr (by rw [i32_z]; exact hG.2.2.2.1.2.2.2.1 p i hp hi)
  have h21 : ∀ p i, p < np → i < ni → 0 < f 22 (24 * p + i) → f 21 p = 0 := fun p i hp hi h => Classical.byContradiction fun z => absurd h (by rw [(hG.2.2.2.1.2.2.2.2 p hp z).2 i hi]; decide)
  have hOw := xow_lt hG.1.1 hc6
  have hPw := pow_lt hG.1.2.1 hc6
  refine xMetN_of hflags (by decide +kernel) (fun j h1 h2 => by omega) (Nat.le_of_ble_eq_true rfl) ?_
  intro E C hN hret
  refine a_loc [(0, .ref 0), (1, .int w), (2, .int u)] (xsub_cons rfl (xsub_cons rfl (xsub_cons rfl (xsub_nil)))) ?_
  refine a_aload_n (i := 0) C dL_release_0 rfl rfl ?_
  refine a_iload_n (i := 1) C dL_release_1 rfl rfl ?_
  refine a_iload_n (i := 2) C dL_release_2 rfl rfl ?_
  refine a_callV C dL_release_3 cv_X6_release tb639 (m_X6_release hflags (h := h) hB h22 h21 (by omega) hbs hOw hPw) rfl rfl xC_0 rfl (Nat.le_of_ble_eq_true rfl) ⟨Nat.le_of_ble_eq_true rfl, Nat.le_of_ble_eq_true rfl⟩ ⟨Nat.le_of_eq (Nat.zero_add _), Nat.le_of_eq (Nat.zero_add _)⟩ (fun _ h => h) ⟨fun q hq j hj => (by simp only [List.mem_cons, List.not_mem_nil, or_false] at hq; rcases hq with rfl | rfl | rfl <;> first | exact Value.noConfusion hj | exact xnwD_ok (by decide) (Value.ref.inj hj)), fun v hv => nomatch hv⟩ (fun u h9 hu => by
      obtain ⟨rfl, hm⟩ := hu
      simp only [List.mem_cons, List.not_mem_nil, or_false, Prod.mk.injEq] at hm
      rcases hm with ⟨rfl, hc⟩
      exact a_catchRetL C hN (x := "java/lang/IndexOutOfBoundsException") (pre := []) (suf := []) (z := ⟨0, 7, 8, 27⟩) (i := 3) (w := 1) (v := eP) rfl (fun w hw => nomatch hw) (by decide) (by decide) tb344 tb358 rfl (Or.inr ⟨⟨_, rfl, dL_release_8⟩, rfl⟩) (by decide) dL_release_9 tb386 dL_release_12 (Nat.le_of_eq (Nat.zero_add _)) (Nat.le_of_eq (Nat.zero_add _)) (hret _ _ ⟨_, _, fun z => absurd (hc.symm.trans z) (by decide), fun _ => ⟨by rw [hc]; rfl, rfl⟩⟩)) (fun r3 hp3 hq3 => ?_)
  obtain ⟨h0, rfl, jc2, jr2, rfl⟩ := hq3
  refine a_i2l C dL_release_6 ?_
  exact a_lret C dL_release_7 (Nat.le_of_eq (Nat.zero_add _)) (Nat.le_of_eq (Nat.zero_add _)) (hret _ _ (⟨_, _, fun _ => ⟨rfl, rfl⟩, fun z => absurd h0 z⟩))
set_option maxRecDepth 100000 in
set_option maxHeartbeats 4000000 in
theorem w_reverse {l : Launch} {N0 : Nat} {D : va_G} {dT : Nat → ClassId} (hflags : l.stackTraces = false) {h : xH} {n : Nat → Int32} {f : Nat → Nat → Int32} {g : Nat → Nat → Int64} {nc ni np nl q9 : Nat} {jc : Nat → Nat → Int32} {jr : Nat → Int64} {w : Int32} (hbs : xBs h) (hJ : JI n f g nc ni np nl q9) (hq : q9 ≤ 500) : xMetN l N0 D dT yL_reverse cL_reverse 3 (some .long) [(0, 6, 7, 27), (0, 6, 12, 19)] 10 (2 + lCel nl ((mVS w.toNatClampNeg nl (nup n 0 0) f ni).2.1)) (12 + lSlt nl ((mVS w.toNatClampNeg nl (nup n 0 0) f ni).2.1)) [.ref 0, .int w] (xC h nc ni np nl (n 1) f g jc jr) xnwD (pP h n f g nc ni np nl nc ni np ((mVS w.toNatClampNeg nl (nup n 0 0) f ni).2.1) (o_reverse ni np nl w n f g) (fun k => if k = 1 then eP else if k = 2 then eN else eP)) := by
  have hnl := JI_nl hJ (by omega)
  obtain ⟨hI, ⟨t9, ht, ht2, hG⟩, hLl⟩ := id hJ
  obtain ⟨-, -, -, -, hc6, hi24, hp24, hl16⟩ := id hI
  have hB : nc ≤ 6 ∧ ni ≤ 24 ∧ np ≤ 24 ∧ nl ≤ 16000 := ⟨hc6, hi24, hp24, hl16⟩
  have h22 : ∀ p i, p < np → i < ni → 0 ≤ f 22 (24 * p + i) := fun p i hp hi => i32_le.mpr (by rw [i32_z]; exact hG.2.2.2.1.2.2.2.1 p i hp hi)
  have hOw := xow_lt hG.1.1 hc6
  have hPw := pow_lt hG.1.2.1 hc6
  refine xMetN_of hflags (by decide +kernel) (fun j h1 h2 => by omega) (Nat.le_of_ble_eq_true rfl) ?_
  intro E C hN hret
  refine a_loc [(0, .ref 0), (1, .int w)] (xsub_cons rfl (xsub_cons rfl (xsub_nil))) ?_
  refine a_aload_n (i := 0) C dL_reverse_0 rfl rfl ?_
  refine a_iload_n (i := 1) C dL_reverse_1 rfl rfl ?_
  refine a_callV C dL_reverse_2 cv_X6_reverse tb658 (m_X6_reverse hflags (h := h) hB h22 hOw hPw (fun _ k hk => by have := mVS_le (p := w.toNatClampNeg) (nl := nl) (n := nup n 0 0) (f := f) k; omega) hbs) rfl rfl xC_0 rfl (Nat.le_of_ble_eq_true rfl) ⟨Nat.le_of_ble_eq_true rfl, Nat.le_of_ble_eq_true rfl⟩ ⟨Nat.le_of_eq (Nat.zero_add _), Nat.le_of_eq (Nat.zero_add _)⟩ (fun _ h => h) ⟨fun q hq j hj => (by simp only [List.mem_cons, List.not_mem_nil, or_false] at hq; rcases hq with rfl | rfl <;> first | exact Value.noConfusion hj | exact xnwD_ok (by decide) (Value.ref.inj hj)), fun v hv => nomatch hv⟩ (fun u h9 hu => by
      obtain ⟨rfl, hm⟩ := hu
      simp only [List.mem_cons, List.not_mem_nil, or_false, Prod.mk.injEq] at hm
      rcases hm with ⟨rfl, hc⟩ | ⟨rfl, hc⟩
      · exact a_catchRetL C hN (x := "java/lang/IndexOutOfBoundsException") (pre := []) (suf := [⟨0, 6, 12, 19⟩]) (z := ⟨0, 6, 7, 27⟩) (i := 2) (w := 1) (v := eP) rfl (fun w hw => nomatch hw) (by decide) (by decide) tb344 tb358 rfl (Or.inr ⟨⟨_, rfl, dL_reverse_7⟩, rfl⟩) (by decide) dL_reverse_8 tb386 dL_reverse_11 (Nat.le_of_eq (Nat.zero_add _)) (Nat.le_of_eq (Nat.zero_add _)) (hret _ _ ⟨_, _, fun z => absurd (hc.symm.trans z) (by decide), fun _ => ⟨by rw [hc]; rfl, rfl⟩⟩)
      · exact a_catchRetL C hN (x := "java/lang/IllegalStateException") (pre := [⟨0, 6, 7, 27⟩]) (suf := []) (z := ⟨0, 6, 12, 19⟩) (i := 2) (w := 1) (v := eN) rfl (fun w hw => by simp only [List.mem_cons, List.not_mem_nil, or_false] at hw; rcases hw with rfl <;> first | exact Or.inr ⟨by decide, "java/lang/IndexOutOfBoundsException", tb344, by decide +kernel⟩) (by decide) (by decide) tb163 tb244 rfl (Or.inr ⟨⟨_, rfl, dL_reverse_12⟩, rfl⟩) (by decide) dL_reverse_13 tb340 dL_reverse_16 (Nat.le_of_eq (Nat.zero_add _)) (Nat.le_of_eq (Nat.zero_add _)) (hret _ _ ⟨_, _, fun z => absurd (hc.symm.trans z) (by decide), fun _ => ⟨by rw [hc]; rfl, rfl⟩⟩)) (fun r2 hp2 hq2 => ?_)
  obtain ⟨h0, rfl, jc2, jr2, rfl⟩ := hq2
  refine a_i2l C dL_reverse_5 ?_
  exact a_lret C dL_reverse_6 (Nat.le_of_eq (Nat.zero_add _)) (Nat.le_of_eq (Nat.zero_add _)) (hret _ _ (⟨_, _, fun _ => ⟨rfl, rfl⟩, fun z => absurd h0 z⟩))
set_option maxRecDepth 100000 in
set_option maxHeartbeats 4000000 in
theorem w_dispute {l : Launch} {N0 : Nat} {D : va_G} {dT : Nat → ClassId} (hflags : l.stackTraces = false) {h : xH} {n : Nat → Int32} {f : Nat → Nat → Int32} {g : Nat → Nat → Int64} {nc ni np nl q9 : Nat} {jc : Nat → Nat → Int32} {jr : Nat → Int64} {w a : Int32} (hbs : xBs h) (hJ : JI n f g nc ni np nl q9) (hq : q9 ≤ 500) : xMetN l N0 D dT yL_dispute cL_dispute 4 (some .long) [(0, 7, 8, 27), (0, 7, 13, 15), (0, 7, 18, 19)] 10 3 18 [.ref 0, .int w, .int a] (xC h nc ni np nl (n 1) f g jc jr) xNo (pP h n f g nc ni np nl nc ni np nl (o_dispute ni w a n f g) (fun k => if k = 1 then eP else if k = 2 then eV else if k = 3 then eN else eP)) := by
  have hnl := JI_nl hJ (by omega)
  obtain ⟨hI, ⟨t9, ht, ht2, hG⟩, hLl⟩ := id hJ
  obtain ⟨-, -, -, -, hc6, hi24, hp24, hl16⟩ := id hI
  have hB : nc ≤ 6 ∧ ni ≤ 24 ∧ np ≤ 24 ∧ nl ≤ 16000 := ⟨hc6, hi24, hp24, hl16⟩
  refine xMetN_of hflags (by decide +kernel) (fun _ _ h => h) (Nat.le_of_ble_eq_true rfl) ?_
  intro E C hN hret
  refine a_loc [(0, .ref 0), (1, .int w), (2, .int a)] (xsub_cons rfl (xsub_cons rfl (xsub_cons rfl (xsub_nil)))) ?_
  refine a_aload_n (i := 0) C dL_dispute_0 rfl rfl ?_
  refine a_iload_n (i := 1) C dL_dispute_1 rfl rfl ?_
  refine a_iload_n (i := 2) C dL_dispute_2 rfl rfl ?_
  refine a_callV C dL_dispute_3 cv_X6_dispute tb831 (m_X6_dispute hflags (h := h) hB ) rfl rfl xC_0 rfl (Nat.le_of_ble_eq_true rfl) ⟨Nat.le_of_ble_eq_true rfl, Nat.le_of_ble_eq_true rfl⟩ ⟨Nat.le_of_eq (Nat.zero_add _), Nat.le_of_eq (Nat.zero_add _)⟩ (fun _ h => h) xav_no (fun u h9 hu => by
      obtain ⟨rfl, hm⟩ := hu
      simp only [List.mem_cons, List.not_mem_nil, or_false, Prod.mk.injEq] at hm
      rcases hm with ⟨rfl, hc⟩ | ⟨rfl, hc⟩ | ⟨rfl, hc⟩
      · exact a_catchRetL C hN (x := "java/lang/IndexOutOfBoundsException") (pre := []) (suf := [⟨0, 7, 13, 15⟩, ⟨0, 7, 18, 19⟩]) (z := ⟨0, 7, 8, 27⟩) (i := 3) (w := 1) (v := eP) rfl (fun w hw => nomatch hw) (by decide) (by decide) tb344 tb358 rfl (Or.inr ⟨⟨_, rfl, dL_dispute_8⟩, rfl⟩) (by decide) dL_dispute_9 tb386 dL_dispute_12 (Nat.le_of_eq (Nat.zero_add _)) (Nat.le_of_eq (Nat.zero_add _)) (hret _ _ ⟨_, _, fun z => absurd (hc.symm.trans z) (by decide), fun _ => ⟨by rw [hc]; rfl, rfl⟩⟩)
      · exact a_catchRetL C hN (x := "java/lang/IllegalArgumentException") (pre := [⟨0, 7, 8, 27⟩]) (suf := [⟨0, 7, 18, 19⟩]) (z := ⟨0, 7, 13, 15⟩) (i := 3) (w := 1) (v := eV) rfl (fun w hw => by simp only [List.mem_cons, List.not_mem_nil, or_false] at hw; rcases hw with rfl <;> first | exact Or.inr ⟨by decide, "java/lang/IndexOutOfBoundsException", tb344, by decide +kernel⟩) (by decide) (by decide) tb162 tb173 rfl (Or.inr ⟨⟨_, rfl, dL_dispute_13⟩, rfl⟩) (by decide) dL_dispute_14 tb339 dL_dispute_17 (Nat.le_of_eq (Nat.zero_add _)) (Nat.le_of_eq (Nat.zero_add _)) (hret _ _ ⟨_, _, fun z => absurd (hc.symm.trans z) (by decide), fun _ => ⟨by rw [hc]; rfl, rfl⟩⟩)
      · exact a_catchRetL C hN (x := "java/lang/IllegalStateException") (pre := [⟨0, 7, 8, 27⟩, ⟨0, 7, 13, 15⟩]) (suf := []) (z := ⟨0, 7, 18, 19⟩) (i := 3) (w := 1) (v := eN) rfl (fun w hw => by simp only [List.mem_cons, List.not_mem_nil, or_false] at hw; rcases hw with rfl | rfl <;> first | exact Or.inr ⟨by decide, "java/lang/IndexOutOfBoundsException", tb344, by decide +kernel⟩ | exact Or.inr ⟨by decide, "java/lang/IllegalArgumentException", tb162, by decide +kernel⟩) (by decide) (by decide) tb163 tb244 rfl (Or.inr ⟨⟨_, rfl, dL_dispute_18⟩, rfl⟩) (by decide) dL_dispute_19 tb340 dL_dispute_22 (Nat.le_of_eq (Nat.zero_add _)) (Nat.le_of_eq (Nat.zero_add _)) (hret _ _ ⟨_, _, fun z => absurd (hc.symm.trans z) (by decide), fun _ => ⟨by rw [hc]; rfl, rfl⟩⟩)) (fun r3 hp3 hq3 => ?_)
  obtain ⟨h0, rfl, jc2, jr2, rfl⟩ := hq3
  refine a_i2l C dL_dispute_6 ?_
  exact a_lret C dL_dispute_7 (Nat.le_of_eq (Nat.zero_add _)) (Nat.le_of_eq (Nat.zero_add _)) (hret _ _ (⟨_, _, fun _ => ⟨rfl, rfl⟩, fun z => absurd h0 z⟩))
set_option maxRecDepth 100000 in
set_option maxHeartbeats 4000000 in
theorem w_disputeAll {l : Launch} {N0 : Nat} {D : va_G} {dT : Nat → ClassId} (hflags : l.stackTraces = false) {h : xH} {n : Nat → Int32} {f : Nat → Nat → Int32} {g : Nat → Nat → Int64} {nc ni np nl q9 : Nat} {jc : Nat → Nat → Int32} {jr : Nat → Int64} {w a : Int32} (hbs : xBs h) (hJ : JI n f g nc ni np nl q9) (hq : q9 ≤ 500) : xMetN l N0 D dT yL_disputeAll cL_disputeAll 4 (some .long) [(0, 7, 8, 27), (0, 7, 13, 15), (0, 7, 18, 19)] 10 3 18 [.ref 0, .int w, .int a] (xC h nc ni np nl (n 1) f g jc jr) xNo (pP h n f g nc ni np nl nc ni np nl (o_disputeAll nc ni w a n f g) (fun k => if k = 1 then eP else if k = 2 then eV else if k = 3 then eN else eP)) := by
  have hnl := JI_nl hJ (by omega)
  obtain ⟨hI, ⟨t9, ht, ht2, hG⟩, hLl⟩ := id hJ
  obtain ⟨-, -, -, -, hc6, hi24, hp24, hl16⟩ := id hI
  have hB : nc ≤ 6 ∧ ni ≤ 24 ∧ np ≤ 24 ∧ nl ≤ 16000 := ⟨hc6, hi24, hp24, hl16⟩
  have hWz := JG_W hG
  have hOe := hG.1.1
  refine xMetN_of hflags (by decide +kernel) (fun _ _ h => h) (Nat.le_of_ble_eq_true rfl) ?_
  intro E C hN hret
  refine a_loc [(0, .ref 0), (1, .int w), (2, .int a)] (xsub_cons rfl (xsub_cons rfl (xsub_cons rfl (xsub_nil)))) ?_
  refine a_aload_n (i := 0) C dL_disputeAll_0 rfl rfl ?_
  refine a_iload_n (i := 1) C dL_disputeAll_1 rfl rfl ?_
  refine a_iload_n (i := 2) C dL_disputeAll_2 rfl rfl ?_
  refine a_callV C dL_disputeAll_3 cv_X6_disputeAll tb665 (m_X6_disputeAll hflags (h := h) hB hWz hOe) rfl rfl xC_0 rfl (Nat.le_of_ble_eq_true rfl) ⟨Nat.le_of_ble_eq_true rfl, Nat.le_of_ble_eq_true rfl⟩ ⟨Nat.le_of_eq (Nat.zero_add _), Nat.le_of_eq (Nat.zero_add _)⟩ (fun _ h => h) xav_no (fun u h9 hu => by
      obtain ⟨⟨jc2, jr2, rfl⟩, hm⟩ := hu
      simp only [List.mem_cons, List.not_mem_nil, or_false, Prod.mk.injEq] at hm
      rcases hm with ⟨rfl, hc⟩ | ⟨rfl, hc⟩ | ⟨rfl, hc⟩
      · exact a_catchRetL C hN (x := "java/lang/IndexOutOfBoundsException") (pre := []) (suf := [⟨0, 7, 13, 15⟩, ⟨0, 7, 18, 19⟩]) (z := ⟨0, 7, 8, 27⟩) (i := 3) (w := 1) (v := eP) rfl (fun w hw => nomatch hw) (by decide) (by decide) tb344 tb358 rfl (Or.inr ⟨⟨_, rfl, dL_disputeAll_8⟩, rfl⟩) (by decide) dL_disputeAll_9 tb386 dL_disputeAll_12 (Nat.le_of_eq (Nat.zero_add _)) (Nat.le_of_eq (Nat.zero_add _)) (hret _ _ ⟨_, _, fun z => absurd (hc.symm.trans z) (by decide), fun _ => ⟨by rw [hc]; rfl, rfl⟩⟩)
      · exact a_catchRetL C hN (x := "java/lang/IllegalArgumentException") (pre := [⟨0, 7, 8, 27⟩]) (suf := [⟨0, 7, 18, 19⟩]) (z := ⟨0, 7, 13, 15⟩) (i := 3) (w := 1) (v := eV) rfl (fun w hw => by simp only [List.mem_cons, List.not_mem_nil, or_false] at hw; rcases hw with rfl <;> first | exact Or.inr ⟨by decide, "java/lang/IndexOutOfBoundsException", tb344, by decide +kernel⟩) (by decide) (by decide) tb162 tb173 rfl (Or.inr ⟨⟨_, rfl, dL_disputeAll_13⟩, rfl⟩) (by decide) dL_disputeAll_14 tb339 dL_disputeAll_17 (Nat.le_of_eq (Nat.zero_add _)) (Nat.le_of_eq (Nat.zero_add _)) (hret _ _ ⟨_, _, fun z => absurd (hc.symm.trans z) (by decide), fun _ => ⟨by rw [hc]; rfl, rfl⟩⟩)
      · exact a_catchRetL C hN (x := "java/lang/IllegalStateException") (pre := [⟨0, 7, 8, 27⟩, ⟨0, 7, 13, 15⟩]) (suf := []) (z := ⟨0, 7, 18, 19⟩) (i := 3) (w := 1) (v := eN) rfl (fun w hw => by simp only [List.mem_cons, List.not_mem_nil, or_false] at hw; rcases hw with rfl | rfl <;> first | exact Or.inr ⟨by decide, "java/lang/IndexOutOfBoundsException", tb344, by decide +kernel⟩ | exact Or.inr ⟨by decide, "java/lang/IllegalArgumentException", tb162, by decide +kernel⟩) (by decide) (by decide) tb163 tb244 rfl (Or.inr ⟨⟨_, rfl, dL_disputeAll_18⟩, rfl⟩) (by decide) dL_disputeAll_19 tb340 dL_disputeAll_22 (Nat.le_of_eq (Nat.zero_add _)) (Nat.le_of_eq (Nat.zero_add _)) (hret _ _ ⟨_, _, fun z => absurd (hc.symm.trans z) (by decide), fun _ => ⟨by rw [hc]; rfl, rfl⟩⟩)) (fun r3 hp3 hq3 => ?_)
  obtain ⟨h0, rfl, jc2, jr2, rfl⟩ := hq3
  refine a_i2l C dL_disputeAll_6 ?_
  exact a_lret C dL_disputeAll_7 (Nat.le_of_eq (Nat.zero_add _)) (Nat.le_of_eq (Nat.zero_add _)) (hret _ _ (⟨_, _, fun _ => ⟨rfl, rfl⟩, fun z => absurd h0 z⟩))
set_option maxRecDepth 100000 in
set_option maxHeartbeats 4000000 in
theorem w_settle {l : Launch} {N0 : Nat} {D : va_G} {dT : Nat → ClassId} (hflags : l.stackTraces = false) {h : xH} {n : Nat → Int32} {f : Nat → Nat → Int32} {g : Nat → Nat → Int64} {nc ni np nl q9 : Nat} {jc : Nat → Nat → Int32} {jr : Nat → Int64} {w a : Int32} (hbs : xBs h) (hJ : JI n f g nc ni np nl q9) (hq : q9 ≤ 500) : xMetN l N0 D dT yL_settle cL_settle 4 (some .long) [(0, 7, 8, 27), (0, 7, 13, 19), (0, 7, 18, 15)] 10 (2 + lCel nl (mWl nl (-a))) (12 + lSlt nl (mWl nl (-a))) [.ref 0, .int w, .int a] (xC h nc ni np nl (n 1) f g jc jr) xnwD (pP h n f g nc ni np nl nc ni np (mWl nl (-a)) (o_settle ni nl w a n f g) (fun k => if k = 1 then eP else if k = 2 then eN else if k = 3 then eV else eP)) := by
  have hnl := JI_nl hJ (by omega)
  obtain ⟨hI, ⟨t9, ht, ht2, hG⟩, hLl⟩ := id hJ
  obtain ⟨-, -, -, -, hc6, hi24, hp24, hl16⟩ := id hI
  have hB : nc ≤ 6 ∧ ni ≤ 24 ∧ np ≤ 24 ∧ nl ≤ 16000 := ⟨hc6, hi24, hp24, hl16⟩
  have h14 : ∀ i, i < ni → 0 ≤ f 14 i := fun i hi => i32_le.mpr (by rw [i32_z]; exact (hG.2.2.2.1.1 i hi).1)
  have hOw := xow_lt hG.1.1 hc6
  have hPw := pow_lt hG.1.2.1 hc6
  refine xMetN_of hflags (by decide +kernel) (fun j h1 h2 => by omega) (Nat.le_of_ble_eq_true rfl) ?_
  intro E C hN hret
  refine a_loc [(0, .ref 0), (1, .int w), (2, .int a)] (xsub_cons rfl (xsub_cons rfl (xsub_cons rfl (xsub_nil)))) ?_
  refine a_aload_n (i := 0) C dL_settle_0 rfl rfl ?_
  refine a_iload_n (i := 1) C dL_settle_1 rfl rfl ?_
  refine a_iload_n (i := 2) C dL_settle_2 rfl rfl ?_
  refine a_callV C dL_settle_3 cv_X6_settle tb674 (m_X6_settle hflags (h := h) hB h14 (by omega) hbs hOw hPw) rfl rfl xC_0 rfl (Nat.le_of_ble_eq_true rfl) ⟨Nat.le_of_ble_eq_true rfl, Nat.le_of_ble_eq_true rfl⟩ ⟨Nat.le_of_eq (Nat.zero_add _), Nat.le_of_eq (Nat.zero_add _)⟩ (fun _ h => h) ⟨fun q hq j hj => (by simp only [List.mem_cons, List.not_mem_nil, or_false] at hq; rcases hq with rfl | rfl | rfl <;> first | exact Value.noConfusion hj | exact xnwD_ok (by decide) (Value.ref.inj hj)), fun v hv => nomatch hv⟩ (fun u h9 hu => by
      obtain ⟨rfl, hm⟩ := hu
      simp only [List.mem_cons, List.not_mem_nil, or_false, Prod.mk.injEq] at hm
      rcases hm with ⟨rfl, hc⟩ | ⟨rfl, hc⟩ | ⟨rfl, hc⟩
      · exact a_catchRetL C hN (x := "java/lang/IndexOutOfBoundsException") (pre := []) (suf := [⟨0, 7, 13, 19⟩, ⟨0, 7, 18, 15⟩]) (z := ⟨0, 7, 8, 27⟩) (i := 3) (w := 1) (v := eP) rfl (fun w hw => nomatch hw) (by decide) (by decide) tb344 tb358 rfl (Or.inr ⟨⟨_, rfl, dL_settle_8⟩, rfl⟩) (by decide) dL_settle_9 tb386 dL_settle_12 (Nat.le_of_eq (Nat.zero_add _)) (Nat.le_of_eq (Nat.zero_add _)) (hret _ _ ⟨_, _, fun z => absurd (hc.symm.trans z) (by decide), fun _ => ⟨by rw [hc]; rfl, rfl⟩⟩)
      · exact a_catchRetL C hN (x := "java/lang/IllegalStateException") (pre := [⟨0, 7, 8, 27⟩]) (suf := [⟨0, 7, 18, 15⟩]) (z := ⟨0, 7, 13, 19⟩) (i := 3) (w := 1) (v := eN) rfl (fun w hw => by simp only [List.mem_cons, List.not_mem_nil, or_false] at hw; rcases hw with rfl <;> first | exact Or.inr ⟨by decide, "java/lang/IndexOutOfBoundsException", tb344, by decide +kernel⟩) (by decide) (by decide) tb163 tb244 rfl (Or.inr ⟨⟨_, rfl, dL_settle_13⟩, rfl⟩) (by decide) dL_settle_14 tb340 dL_settle_17 (Nat.le_of_eq (Nat.zero_add _)) (Nat.le_of_eq (Nat.zero_add _)) (hret _ _ ⟨_, _, fun z => absurd (hc.symm.trans z) (by decide), fun _ => ⟨by rw [hc]; rfl, rfl⟩⟩)
      · exact a_catchRetL C hN (x := "java/lang/IllegalArgumentException") (pre := [⟨0, 7, 8, 27⟩, ⟨0, 7, 13, 19⟩]) (suf := []) (z := ⟨0, 7, 18, 15⟩) (i := 3) (w := 1) (v := eV) rfl (fun w hw => by simp only [List.mem_cons, List.not_mem_nil, or_false] at hw; rcases hw with rfl | rfl <;> first | exact Or.inr ⟨by decide, "java/lang/IndexOutOfBoundsException", tb344, by decide +kernel⟩ | exact Or.inr ⟨by decide, "java/lang/IllegalStateException", tb163, by decide +kernel⟩) (by decide) (by decide) tb162 tb173 rfl (Or.inr ⟨⟨_, rfl, dL_settle_18⟩, rfl⟩) (by decide) dL_settle_19 tb339 dL_settle_22 (Nat.le_of_eq (Nat.zero_add _)) (Nat.le_of_eq (Nat.zero_add _)) (hret _ _ ⟨_, _, fun z => absurd (hc.symm.trans z) (by decide), fun _ => ⟨by rw [hc]; rfl, rfl⟩⟩)) (fun r3 hp3 hq3 => ?_)
  obtain ⟨h0, rfl, jc2, jr2, rfl⟩ := hq3
  refine a_i2l C dL_settle_6 ?_
  exact a_lret C dL_settle_7 (Nat.le_of_eq (Nat.zero_add _)) (Nat.le_of_eq (Nat.zero_add _)) (hret _ _ (⟨_, _, fun _ => ⟨rfl, rfl⟩, fun z => absurd h0 z⟩))
set_option maxRecDepth 100000 in
set_option maxHeartbeats 4000000 in
theorem w_charge {l : Launch} {N0 : Nat} {D : va_G} {dT : Nat → ClassId} (hflags : l.stackTraces = false) {h : xH} {n : Nat → Int32} {f : Nat → Nat → Int32} {g : Nat → Nat → Int64} {nc ni np nl q9 : Nat} {jc : Nat → Nat → Int32} {jr : Nat → Int64} {w t : Int32} (hbs : xBs h) (hJ : JI n f g nc ni np nl q9) (hq : q9 ≤ 500) : xMetN l N0 D dT yL_charge cL_charge 4 (some .long) [(0, 7, 8, 27), (0, 7, 13, 15), (0, 7, 18, 19)] 10 (6 + lCel nl (mWl nl (xsum (xacs f g w) ni))) (67 + lSlt nl (mWl nl (xsum (xacs f g w) ni))) [.ref 0, .int w, .int t] (xC h nc ni np nl (n 1) f g jc jr) xnwB (pP h n f g nc ni np nl nc (if (xsum (xacs f g w) ni) = 0 then ni else ni + 1) np (mWl nl (xsum (xacs f g w) ni)) (o_charge nc ni nl w t n f g) (fun k => if k = 1 then eP else if k = 2 then eV else if k = 3 then eN else eP)) := by
  have hnl := JI_nl hJ (by omega)
  obtain ⟨hI, ⟨t9, ht, ht2, hG⟩, hLl⟩ := id hJ
  obtain ⟨-, -, -, -, hc6, hi24, hp24, hl16⟩ := id hI
  have hB : nc ≤ 6 ∧ ni ≤ 24 ∧ np ≤ 24 ∧ nl ≤ 16000 := ⟨hc6, hi24, hp24, hl16⟩
  obtain ⟨z14, z17, z18, z15⟩ := hG.2.1.1 ni (Nat.le_refl ni)
  have hOe := hG.1.1
  have hPe := hG.1.2.1
  refine xMetN_of hflags (by decide +kernel) (fun j h1 h2 => by omega) (Nat.le_of_ble_eq_true rfl) ?_
  intro E C hN hret
  refine a_loc [(0, .ref 0), (1, .int w), (2, .int t)] (xsub_cons rfl (xsub_cons rfl (xsub_cons rfl (xsub_nil)))) ?_
  refine a_aload_n (i := 0) C dL_charge_0 rfl rfl ?_
  refine a_iload_n (i := 1) C dL_charge_1 rfl rfl ?_
  refine a_iload_n (i := 2) C dL_charge_2 rfl rfl ?_
  refine a_callV C dL_charge_3 cv_X6_chargeInterest tb685 (m_X6_chargeInterest hflags (h := h) hB z14 z17 z18 z15 (by omega) (JI_acc hJ _) hOe hPe hbs) rfl rfl xC_0 rfl (Nat.le_of_ble_eq_true rfl) ⟨Nat.le_of_ble_eq_true rfl, Nat.le_of_ble_eq_true rfl⟩ ⟨Nat.le_of_eq (Nat.zero_add _), Nat.le_of_eq (Nat.zero_add _)⟩ (fun _ h => h) ⟨fun q hq j hj => (by simp only [List.mem_cons, List.not_mem_nil, or_false] at hq; rcases hq with rfl | rfl | rfl <;> first | exact Value.noConfusion hj | exact xnwB_ok (by decide) (Value.ref.inj hj)), fun v hv => nomatch hv⟩ (fun u h9 hu => by
      obtain ⟨rfl, hm⟩ := hu
      simp only [List.mem_cons, List.not_mem_nil, or_false, Prod.mk.injEq] at hm
      rcases hm with ⟨rfl, hc⟩ | ⟨rfl, hc⟩ | ⟨rfl, hc⟩
      · exact a_catchRetL C hN (x := "java/lang/IndexOutOfBoundsException") (pre := []) (suf := [⟨0, 7, 13, 15⟩, ⟨0, 7, 18, 19⟩]) (z := ⟨0, 7, 8, 27⟩) (i := 3) (w := 1) (v := eP) rfl (fun w hw => nomatch hw) (by decide) (by decide) tb344 tb358 rfl (Or.inr ⟨⟨_, rfl, dL_charge_8⟩, rfl⟩) (by decide) dL_charge_9 tb386 dL_charge_12 (Nat.le_of_eq (Nat.zero_add _)) (Nat.le_of_eq (Nat.zero_add _)) (hret _ _ ⟨_, _, fun z => absurd (hc.symm.trans z) (by decide), fun _ => ⟨by rw [hc]; rfl, rfl⟩⟩)
      · exact a_catchRetL C hN (x := "java/lang/IllegalArgumentException") (pre := [⟨0, 7, 8, 27⟩]) (suf := [⟨0, 7, 18, 19⟩]) (z := ⟨0, 7, 13, 15⟩) (i := 3) (w := 1) (v := eV) rfl (fun w hw => by simp only [List.mem_cons, List.not_mem_nil, or_false] at hw; rcases hw with rfl <;> first | exact Or.inr ⟨by decide, "java/lang/IndexOutOfBoundsException", tb344, by decide +kernel⟩) (by decide) (by decide) tb162 tb173 rfl (Or.inr ⟨⟨_, rfl, dL_charge_13⟩, rfl⟩) (by decide) dL_charge_14 tb339 dL_charge_17 (Nat.le_of_eq (Nat.zero_add _)) (Nat.le_of_eq (Nat.zero_add _)) (hret _ _ ⟨_, _, fun z => absurd (hc.symm.trans z) (by decide), fun _ => ⟨by rw [hc]; rfl, rfl⟩⟩)
      · exact a_catchRetL C hN (x := "java/lang/IllegalStateException") (pre := [⟨0, 7, 8, 27⟩, ⟨0, 7, 13, 15⟩]) (suf := []) (z := ⟨0, 7, 18, 19⟩) (i := 3) (w := 1) (v := eN) rfl (fun w hw => by simp only [List.mem_cons, List.not_mem_nil, or_false] at hw; rcases hw with rfl | rfl <;> first | exact Or.inr ⟨by decide, "java/lang/IndexOutOfBoundsException", tb344, by decide +kernel⟩ | exact Or.inr ⟨by decide, "java/lang/IllegalArgumentException", tb162, by decide +kernel⟩) (by decide) (by decide) tb163 tb244 rfl (Or.inr ⟨⟨_, rfl, dL_charge_18⟩, rfl⟩) (by decide) dL_charge_19 tb340 dL_charge_22 (Nat.le_of_eq (Nat.zero_add _)) (Nat.le_of_eq (Nat.zero_add _)) (hret _ _ ⟨_, _, fun z => absurd (hc.symm.trans z) (by decide), fun _ => ⟨by rw [hc]; rfl, rfl⟩⟩)) (fun r3 hp3 hq3 => ?_)
  obtain ⟨h0, rfl, jc2, jr2, rfl⟩ := hq3
  refine a_i2l C dL_charge_6 ?_
  exact a_lret C dL_charge_7 (Nat.le_of_eq (Nat.zero_add _)) (Nat.le_of_eq (Nat.zero_add _)) (hret _ _ (⟨_, _, fun _ => ⟨rfl, rfl⟩, fun z => absurd h0 z⟩))
set_option maxRecDepth 100000 in
set_option maxHeartbeats 4000000 in
theorem w_accrued {l : Launch} {N0 : Nat} {D : va_G} {dT : Nat → ClassId} (hflags : l.stackTraces = false) {h : xH} {n : Nat → Int32} {f : Nat → Nat → Int32} {g : Nat → Nat → Int64} {nc ni np nl q9 : Nat} {jc : Nat → Nat → Int32} {jr : Nat → Int64} {w : Int32} (hbs : xBs h) (hJ : JI n f g nc ni np nl q9) (hq : q9 ≤ 500) : xMetN l N0 D dT yL_accrued cL_accrued 3 (some .long) [(0, 6, 7, 27)] 10 1 6 [.ref 0, .int w] (xC h nc ni np nl (n 1) f g jc jr) xNo (pP h n f g nc ni np nl nc ni np nl (oRd (xin w ni) (xac f g w.toNatClampNeg) n f g) (fun k => if k = 1 then eP else eP)) := by
  have hnl := JI_nl hJ (by omega)
  obtain ⟨hI, ⟨t9, ht, ht2, hG⟩, hLl⟩ := id hJ
  obtain ⟨-, -, -, -, hc6, hi24, hp24, hl16⟩ := id hI
  have hB : nc ≤ 6 ∧ ni ≤ 24 ∧ np ≤ 24 ∧ nl ≤ 16000 := ⟨hc6, hi24, hp24, hl16⟩
  have hOw := xow_lt hG.1.1 hc6
  refine xMetN_of hflags (by decide +kernel) (fun _ _ h => h) (Nat.le_of_ble_eq_true rfl) ?_
  intro E C hN hret
  refine a_loc [(0, .ref 0), (1, .int w)] (xsub_cons rfl (xsub_cons rfl (xsub_nil))) ?_
  refine a_aload_n (i := 0) C dL_accrued_0 rfl rfl ?_
  refine a_iload_n (i := 1) C dL_accrued_1 rfl rfl ?_
  refine a_callV C dL_accrued_2 cv_X6_accrued tb778 (m_X6_accrued hflags (h := h) hB hOw) rfl rfl xC_0 rfl (Nat.le_of_ble_eq_true rfl) ⟨Nat.le_of_ble_eq_true rfl, Nat.le_of_ble_eq_true rfl⟩ ⟨Nat.le_of_eq (Nat.zero_add _), Nat.le_of_eq (Nat.zero_add _)⟩ (fun _ h => h) xav_no (fun u h9 hu => by
      obtain ⟨rfl, hm⟩ := hu
      simp only [List.mem_cons, List.not_mem_nil, or_false, Prod.mk.injEq] at hm
      rcases hm with ⟨rfl, hc⟩
      exact a_catchRetL C hN (x := "java/lang/IndexOutOfBoundsException") (pre := []) (suf := []) (z := ⟨0, 6, 7, 27⟩) (i := 2) (w := 1) (v := eP) rfl (fun w hw => nomatch hw) (by decide) (by decide) tb344 tb358 rfl (Or.inr ⟨⟨_, rfl, dL_accrued_7⟩, rfl⟩) (by decide) dL_accrued_8 tb386 dL_accrued_11 (Nat.le_of_eq (Nat.zero_add _)) (Nat.le_of_eq (Nat.zero_add _)) (hret _ _ ⟨_, _, fun z => absurd (hc.symm.trans z) (by decide), fun _ => ⟨by rw [hc]; rfl, rfl⟩⟩)) (fun r2 hp2 hq2 => ?_)
  obtain ⟨h0, rfl, jc2, jr2, rfl⟩ := hq2
  refine a_i2l C dL_accrued_5 ?_
  exact a_lret C dL_accrued_6 (Nat.le_of_eq (Nat.zero_add _)) (Nat.le_of_eq (Nat.zero_add _)) (hret _ _ (⟨_, _, fun _ => ⟨rfl, rfl⟩, fun z => absurd h0 z⟩))
