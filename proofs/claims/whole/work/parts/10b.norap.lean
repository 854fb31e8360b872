set_option maxRecDepth 100000 in
set_option maxHeartbeats 4000000 in
theorem n_allocate {l : Launch} {N0 : Nat} {D : va_G} {dT : Nat → ClassId} (hflags : l.stackTraces = false) {o9 : Int64} {nc ni np nl : Nat} {n : Nat → Int32} {f : Nat → Nat → Int32} {g : Nat → Nat → Int64} {jc : Nat → Nat → Int32} {jr : Nat → Int64} (hB : nc ≤ 6 ∧ ni ≤ 24 ∧ np ≤ 24 ∧ nl ≤ 16000) {w u a : Int32} (hO : ∀ i, i < ni → ∃ k, k < nc ∧ f 10 i = nI k) (hP : ∀ i, i < np → ∃ k, k < nc ∧ f 19 i = nI k) (hRV : ∀ p, p < np → ¬ f 21 p = 0 → f 20 p = 0) (hno : ¬ (o_allocate ni np nl w u a n f g).2.1 0 = 0) : xMetN l N0 D dT yL_allocate cL_allocate 6 (some .int) [(0, 12, 15, 21), (0, 12, 19, 13), (0, 12, 23, 15)] 10 4 24 [.ref 0, .int w, .int u, .int a, .ref 230] (xC (xM (xOut o9) n f g) nc ni np nl (n 1) f g jc jr) xNo (wP n f g nc ni np nl nc ni np nl (o_allocate ni np nl w u a n f g)) := by
  refine xMetN_of hflags (by decide +kernel) (fun _ _ h => h) (Nat.le_of_ble_eq_true rfl) ?_
  intro E C hN hret
  refine a_loc [(0, .ref 0), (1, .int w), (2, .int u), (3, .int a), (4, .ref 230)] (xsub_cons rfl (xsub_cons rfl (xsub_cons rfl (xsub_cons rfl (xsub_cons rfl (xsub_nil)))))) ?_
  refine a_aload (i := 4) C dL_allocate_0 rfl ?_
  refine a_iconst (v := 0) C dL_allocate_2 (by decide) ?_
  refine a_aload_n (i := 0) C dL_allocate_3 rfl rfl ?_
  refine a_iload_n (i := 1) C dL_allocate_4 rfl rfl ?_
  refine a_iload_n (i := 2) C dL_allocate_5 rfl rfl ?_
  refine a_iload_n (i := 3) C dL_allocate_6 rfl rfl ?_
  refine a_callV C dL_allocate_7 cv_X6_allocate tb678 (n_X6_allocate hflags (h := xM (xOut o9) n f g) hB hO hP hRV hno) rfl rfl xC_0 rfl (Nat.le_of_ble_eq_true rfl) ⟨Nat.le_of_ble_eq_true rfl, Nat.le_of_ble_eq_true rfl⟩ ⟨Nat.le_of_eq (Nat.zero_add _), Nat.le_of_eq (Nat.zero_add _)⟩ (fun _ h => h) xav_no (fun u h9 hu => by
      obtain ⟨rfl, hm⟩ := hu
      simp only [List.mem_cons, List.not_mem_nil, or_false, Prod.mk.injEq] at hm
      rcases hm with ⟨rfl, hc⟩ | ⟨rfl, hc⟩ | ⟨rfl, hc⟩
      · exact a_catchRet C hN (x := "java/lang/IndexOutOfBoundsException") (pre := []) (suf := [⟨0, 12, 19, 13⟩, ⟨0, 12, 23, 15⟩]) (z := ⟨0, 12, 15, 21⟩) (i := 5) (w := 2) (v := 1) rfl (fun w hw => nomatch hw) (by decide) (by decide) tb366 tb380 rfl (Or.inl ⟨dL_allocate_15, rfl⟩) (by decide) dL_allocate_17 rfl dL_allocate_18 (Nat.le_of_eq (Nat.zero_add _)) (Nat.le_of_eq (Nat.zero_add _)) (hret _ _ (by unfold wP; exact ⟨by rw [hc], _, _, _, fun z => absurd (hc.symm.trans z) (by decide), fun _ => rfl⟩))
      · exact a_catchRet C hN (x := "java/lang/IllegalArgumentException") (pre := [⟨0, 12, 15, 21⟩]) (suf := [⟨0, 12, 23, 15⟩]) (z := ⟨0, 12, 19, 13⟩) (i := 5) (w := 2) (v := 2) rfl (fun w hw => by simp only [List.mem_cons, List.not_mem_nil, or_false] at hw; rcases hw with rfl <;> first | exact Or.inr ⟨by decide, "java/lang/IndexOutOfBoundsException", tb366, by decide +kernel⟩) (by decide) (by decide) tb185 tb196 rfl (Or.inl ⟨dL_allocate_19, rfl⟩) (by decide) dL_allocate_21 rfl dL_allocate_22 (Nat.le_of_eq (Nat.zero_add _)) (Nat.le_of_eq (Nat.zero_add _)) (hret _ _ (by unfold wP; exact ⟨by rw [hc], _, _, _, fun z => absurd (hc.symm.trans z) (by decide), fun _ => rfl⟩))
      · exact a_catchRet C hN (x := "java/lang/IllegalStateException") (pre := [⟨0, 12, 15, 21⟩, ⟨0, 12, 19, 13⟩]) (suf := []) (z := ⟨0, 12, 23, 15⟩) (i := 5) (w := 2) (v := 3) rfl (fun w hw => by simp only [List.mem_cons, List.not_mem_nil, or_false] at hw; rcases hw with rfl | rfl <;> first | exact Or.inr ⟨by decide, "java/lang/IndexOutOfBoundsException", tb366, by decide +kernel⟩ | exact Or.inr ⟨by decide, "java/lang/IllegalArgumentException", tb185, by decide +kernel⟩) (by decide) (by decide) tb186 tb267 rfl (Or.inl ⟨dL_allocate_23, rfl⟩) (by decide) dL_allocate_25 rfl dL_allocate_26 (Nat.le_of_eq (Nat.zero_add _)) (Nat.le_of_eq (Nat.zero_add _)) (hret _ _ (by unfold wP; exact ⟨by rw [hc], _, _, _, fun z => absurd (hc.symm.trans z) (by decide), fun _ => rfl⟩))) (fun r7 hp7 hq7 => ?_)
  exact hq7.elim
set_option maxRecDepth 100000 in
set_option maxHeartbeats 4000000 in
theorem n_release {l : Launch} {N0 : Nat} {D : va_G} {dT : Nat → ClassId} (hflags : l.stackTraces = false) {o9 : Int64} {nc ni np nl : Nat} {n : Nat → Int32} {f : Nat → Nat → Int32} {g : Nat → Nat → Int64} {jc : Nat → Nat → Int32} {jr : Nat → Int64} (hB : nc ≤ 6 ∧ ni ≤ 24 ∧ np ≤ 24 ∧ nl ≤ 16000) {w u : Int32} (hno : ¬ (o_release ni np nl w u n f g).2.1 0 = 0) : xMetN l N0 D dT yL_release cL_release 5 (some .int) [(0, 10, 13, 21)] 10 2 12 [.ref 0, .int w, .int u, .ref 230] (xC (xM (xOut o9) n f g) nc ni np nl (n 1) f g jc jr) xNo (wP n f g nc ni np nl nc ni np nl (o_release ni np nl w u n f g)) := by
  refine xMetN_of hflags (by decide +kernel) (fun _ _ h => h) (Nat.le_of_ble_eq_true rfl) ?_
  intro E C hN hret
  refine a_loc [(0, .ref 0), (1, .int w), (2, .int u), (3, .ref 230)] (xsub_cons rfl (xsub_cons rfl (xsub_cons rfl (xsub_cons rfl (xsub_nil))))) ?_
  refine a_aload_n (i := 3) C dL_release_0 rfl rfl ?_
  refine a_iconst (v := 0) C dL_release_1 (by decide) ?_
  refine a_aload_n (i := 0) C dL_release_2 rfl rfl ?_
  refine a_iload_n (i := 1) C dL_release_3 rfl rfl ?_
  refine a_iload_n (i := 2) C dL_release_4 rfl rfl ?_
  refine a_callV C dL_release_5 cv_X6_release tb705 (n_X6_release hflags (h := xM (xOut o9) n f g) hB hno) rfl rfl xC_0 rfl (Nat.le_of_ble_eq_true rfl) ⟨Nat.le_of_ble_eq_true rfl, Nat.le_of_ble_eq_true rfl⟩ ⟨Nat.le_of_eq (Nat.zero_add _), Nat.le_of_eq (Nat.zero_add _)⟩ (fun _ h => h) xav_no (fun u h9 hu => by
      obtain ⟨rfl, hm⟩ := hu
      simp only [List.mem_cons, List.not_mem_nil, or_false, Prod.mk.injEq] at hm
      rcases hm with ⟨rfl, hc⟩
      exact a_catchRet C hN (x := "java/lang/IndexOutOfBoundsException") (pre := []) (suf := []) (z := ⟨0, 10, 13, 21⟩) (i := 4) (w := 2) (v := 1) rfl (fun w hw => nomatch hw) (by decide) (by decide) tb366 tb380 rfl (Or.inl ⟨dL_release_13, rfl⟩) (by decide) dL_release_15 rfl dL_release_16 (Nat.le_of_eq (Nat.zero_add _)) (Nat.le_of_eq (Nat.zero_add _)) (hret _ _ (by unfold wP; exact ⟨by rw [hc], _, _, _, fun z => absurd (hc.symm.trans z) (by decide), fun _ => rfl⟩))) (fun r5 hp5 hq5 => ?_)
  exact hq5.elim
set_option maxRecDepth 100000 in
set_option maxHeartbeats 4000000 in
theorem n_settle {l : Launch} {N0 : Nat} {D : va_G} {dT : Nat → ClassId} (hflags : l.stackTraces = false) {o9 : Int64} {nc ni np nl : Nat} {n : Nat → Int32} {f : Nat → Nat → Int32} {g : Nat → Nat → Int64} {jc : Nat → Nat → Int32} {jr : Nat → Int64} (hB : nc ≤ 6 ∧ ni ≤ 24 ∧ np ≤ 24 ∧ nl ≤ 16000) {w a : Int32} (h14 : ∀ i, i < ni → 0 ≤ f 14 i) (hno : ¬ (o_settle ni nl w a n f g).2.1 0 = 0) : xMetN l N0 D dT yL_settle cL_settle 5 (some .int) [(0, 10, 13, 21), (0, 10, 17, 15), (0, 10, 21, 13)] 10 3 18 [.ref 0, .int w, .int a, .ref 230] (xC (xM (xOut o9) n f g) nc ni np nl (n 1) f g jc jr) xNo (wP n f g nc ni np nl nc ni np nl (o_settle ni nl w a n f g)) := by
  refine xMetN_of hflags (by decide +kernel) (fun _ _ h => h) (Nat.le_of_ble_eq_true rfl) ?_
  intro E C hN hret
  refine a_loc [(0, .ref 0), (1, .int w), (2, .int a), (3, .ref 230)] (xsub_cons rfl (xsub_cons rfl (xsub_cons rfl (xsub_cons rfl (xsub_nil))))) ?_
  refine a_aload_n (i := 3) C dL_settle_0 rfl rfl ?_
  refine a_iconst (v := 0) C dL_settle_1 (by decide) ?_
  refine a_aload_n (i := 0) C dL_settle_2 rfl rfl ?_
  refine a_iload_n (i := 1) C dL_settle_3 rfl rfl ?_
  refine a_iload_n (i := 2) C dL_settle_4 rfl rfl ?_
  refine a_callV C dL_settle_5 cv_X6_settle tb747 (n_X6_settle hflags (h := xM (xOut o9) n f g) hB h14 hno) rfl rfl xC_0 rfl (Nat.le_of_ble_eq_true rfl) ⟨Nat.le_of_ble_eq_true rfl, Nat.le_of_ble_eq_true rfl⟩ ⟨Nat.le_of_eq (Nat.zero_add _), Nat.le_of_eq (Nat.zero_add _)⟩ (fun _ h => h) xav_no (fun u h9 hu => by
      obtain ⟨rfl, hm⟩ := hu
      simp only [List.mem_cons, List.not_mem_nil, or_false, Prod.mk.injEq] at hm
      rcases hm with ⟨rfl, hc⟩ | ⟨rfl, hc⟩ | ⟨rfl, hc⟩
      · exact a_catchRet C hN (x := "java/lang/IndexOutOfBoundsException") (pre := []) (suf := [⟨0, 10, 17, 15⟩, ⟨0, 10, 21, 13⟩]) (z := ⟨0, 10, 13, 21⟩) (i := 4) (w := 2) (v := 1) rfl (fun w hw => nomatch hw) (by decide) (by decide) tb366 tb380 rfl (Or.inl ⟨dL_settle_13, rfl⟩) (by decide) dL_settle_15 rfl dL_settle_16 (Nat.le_of_eq (Nat.zero_add _)) (Nat.le_of_eq (Nat.zero_add _)) (hret _ _ (by unfold wP; exact ⟨by rw [hc], _, _, _, fun z => absurd (hc.symm.trans z) (by decide), fun _ => rfl⟩))
      · exact a_catchRet C hN (x := "java/lang/IllegalStateException") (pre := [⟨0, 10, 13, 21⟩]) (suf := [⟨0, 10, 21, 13⟩]) (z := ⟨0, 10, 17, 15⟩) (i := 4) (w := 2) (v := 2) rfl (fun w hw => by simp only [List.mem_cons, List.not_mem_nil, or_false] at hw; rcases hw with rfl <;> first | exact Or.inr ⟨by decide, "java/lang/IndexOutOfBoundsException", tb366, by decide +kernel⟩) (by decide) (by decide) tb186 tb267 rfl (Or.inl ⟨dL_settle_17, rfl⟩) (by decide) dL_settle_19 rfl dL_settle_20 (Nat.le_of_eq (Nat.zero_add _)) (Nat.le_of_eq (Nat.zero_add _)) (hret _ _ (by unfold wP; exact ⟨by rw [hc], _, _, _, fun z => absurd (hc.symm.trans z) (by decide), fun _ => rfl⟩))
      · exact a_catchRet C hN (x := "java/lang/IllegalArgumentException") (pre := [⟨0, 10, 13, 21⟩, ⟨0, 10, 17, 15⟩]) (suf := []) (z := ⟨0, 10, 21, 13⟩) (i := 4) (w := 2) (v := 3) rfl (fun w hw => by simp only [List.mem_cons, List.not_mem_nil, or_false] at hw; rcases hw with rfl | rfl <;> first | exact Or.inr ⟨by decide, "java/lang/IndexOutOfBoundsException", tb366, by decide +kernel⟩ | exact Or.inr ⟨by decide, "java/lang/IllegalStateException", tb186, by decide +kernel⟩) (by decide) (by decide) tb185 tb196 rfl (Or.inl ⟨dL_settle_21, rfl⟩) (by decide) dL_settle_23 rfl dL_settle_24 (Nat.le_of_eq (Nat.zero_add _)) (Nat.le_of_eq (Nat.zero_add _)) (hret _ _ (by unfold wP; exact ⟨by rw [hc], _, _, _, fun z => absurd (hc.symm.trans z) (by decide), fun _ => rfl⟩))) (fun r5 hp5 hq5 => ?_)
  exact hq5.elim
set_option maxRecDepth 100000 in
set_option maxHeartbeats 4000000 in
theorem n_reverse {l : Launch} {N0 : Nat} {D : va_G} {dT : Nat → ClassId} (hflags : l.stackTraces = false) {o9 : Int64} {nc ni np nl : Nat} {n : Nat → Int32} {f : Nat → Nat → Int32} {g : Nat → Nat → Int64} {jc : Nat → Nat → Int32} {jr : Nat → Int64} (hB : nc ≤ 6 ∧ ni ≤ 24 ∧ np ≤ 24 ∧ nl ≤ 16000) {w : Int32} (hno : ¬ (o_reverse ni np nl w n f g).2.1 0 = 0) : xMetN l N0 D dT yL_reverse cL_reverse 4 (some .int) [(0, 9, 12, 21), (0, 9, 15, 15)] 10 2 12 [.ref 0, .int w, .ref 230] (xC (xM (xOut o9) n f g) nc ni np nl (n 1) f g jc jr) xNo (wP n f g nc ni np nl nc ni np nl (o_reverse ni np nl w n f g)) := by
  refine xMetN_of hflags (by decide +kernel) (fun _ _ h => h) (Nat.le_of_ble_eq_true rfl) ?_
  intro E C hN hret
  refine a_loc [(0, .ref 0), (1, .int w), (2, .ref 230)] (xsub_cons rfl (xsub_cons rfl (xsub_cons rfl (xsub_nil)))) ?_
  refine a_aload_n (i := 2) C dL_reverse_0 rfl rfl ?_
  refine a_iconst (v := 0) C dL_reverse_1 (by decide) ?_
  refine a_aload_n (i := 0) C dL_reverse_2 rfl rfl ?_
  refine a_iload_n (i := 1) C dL_reverse_3 rfl rfl ?_
  refine a_callV C dL_reverse_4 cv_X6_reverse tb724 (n_X6_reverse hflags (h := xM (xOut o9) n f g) hB hno) rfl rfl xC_0 rfl (Nat.le_of_ble_eq_true rfl) ⟨Nat.le_of_ble_eq_true rfl, Nat.le_of_ble_eq_true rfl⟩ ⟨Nat.le_of_eq (Nat.zero_add _), Nat.le_of_eq (Nat.zero_add _)⟩ (fun _ h => h) xav_no (fun u h9 hu => by
      obtain ⟨rfl, hm⟩ := hu
      simp only [List.mem_cons, List.not_mem_nil, or_false, Prod.mk.injEq] at hm
      rcases hm with ⟨rfl, hc⟩ | ⟨rfl, hc⟩
      · exact a_catchRet C hN (x := "java/lang/IndexOutOfBoundsException") (pre := []) (suf := [⟨0, 9, 15, 15⟩]) (z := ⟨0, 9, 12, 21⟩) (i := 3) (w := 1) (v := 1) rfl (fun w hw => nomatch hw) (by decide) (by decide) tb366 tb380 rfl (Or.inr ⟨⟨_, rfl, dL_reverse_12⟩, rfl⟩) (by decide) dL_reverse_13 rfl dL_reverse_14 (Nat.le_of_eq (Nat.zero_add _)) (Nat.le_of_eq (Nat.zero_add _)) (hret _ _ (by unfold wP; exact ⟨by rw [hc], _, _, _, fun z => absurd (hc.symm.trans z) (by decide), fun _ => rfl⟩))
      · exact a_catchRet C hN (x := "java/lang/IllegalStateException") (pre := [⟨0, 9, 12, 21⟩]) (suf := []) (z := ⟨0, 9, 15, 15⟩) (i := 3) (w := 1) (v := 2) rfl (fun w hw => by simp only [List.mem_cons, List.not_mem_nil, or_false] at hw; rcases hw with rfl <;> first | exact Or.inr ⟨by decide, "java/lang/IndexOutOfBoundsException", tb366, by decide +kernel⟩) (by decide) (by decide) tb186 tb267 rfl (Or.inr ⟨⟨_, rfl, dL_reverse_15⟩, rfl⟩) (by decide) dL_reverse_16 rfl dL_reverse_17 (Nat.le_of_eq (Nat.zero_add _)) (Nat.le_of_eq (Nat.zero_add _)) (hret _ _ (by unfold wP; exact ⟨by rw [hc], _, _, _, fun z => absurd (hc.symm.trans z) (by decide), fun _ => rfl⟩))) (fun r4 hp4 hq4 => ?_)
  exact hq4.elim
set_option maxRecDepth 100000 in
set_option maxHeartbeats 4000000 in
theorem n_postInvoice {l : Launch} {N0 : Nat} {D : va_G} {dT : Nat → ClassId} (hflags : l.stackTraces = false) {o9 : Int64} {nc ni np nl : Nat} {n : Nat → Int32} {f : Nat → Nat → Int32} {g : Nat → Nat → Int64} {jc : Nat → Nat → Int32} {jr : Nat → Int64} (hB : nc ≤ 6 ∧ ni ≤ 24 ∧ np ≤ 24 ∧ nl ≤ 16000) {w a t : Int32} (hno : ¬ (o_postInvoice nc ni nl w a t n f g).2.1 0 = 0) : xMetN l N0 D dT yL_postInvoice cL_postInvoice 6 (some .int) [(0, 12, 15, 21), (0, 12, 19, 13), (0, 12, 23, 15)] 10 4 24 [.ref 0, .int w, .int a, .int t, .ref 230] (xC (xM (xOut o9) n f g) nc ni np nl (n 1) f g jc jr) xNo (wP n f g nc ni np nl nc ni np nl (o_postInvoice nc ni nl w a t n f g)) := by
  refine xMetN_of hflags (by decide +kernel) (fun _ _ h => h) (Nat.le_of_ble_eq_true rfl) ?_
  intro E C hN hret
  refine a_loc [(0, .ref 0), (1, .int w), (2, .int a), (3, .int t), (4, .ref 230)] (xsub_cons rfl (xsub_cons rfl (xsub_cons rfl (xsub_cons rfl (xsub_cons rfl (xsub_nil)))))) ?_
  refine a_aload (i := 4) C dL_postInvoice_0 rfl ?_
  refine a_iconst (v := 0) C dL_postInvoice_2 (by decide) ?_
  refine a_aload_n (i := 0) C dL_postInvoice_3 rfl rfl ?_
  refine a_iload_n (i := 1) C dL_postInvoice_4 rfl rfl ?_
  refine a_iload_n (i := 2) C dL_postInvoice_5 rfl rfl ?_
  refine a_iload_n (i := 3) C dL_postInvoice_6 rfl rfl ?_
  refine a_callV C dL_postInvoice_7 cv_X6_postInvoice tb486 (n_X6_postInvoice hflags (h := xM (xOut o9) n f g) hB hno) rfl rfl xC_0 rfl (Nat.le_of_ble_eq_true rfl) ⟨Nat.le_of_ble_eq_true rfl, Nat.le_of_ble_eq_true rfl⟩ ⟨Nat.le_of_eq (Nat.zero_add _), Nat.le_of_eq (Nat.zero_add _)⟩ (fun _ h => h) xav_no (fun u h9 hu => by
      obtain ⟨rfl, hm⟩ := hu
      simp only [List.mem_cons, List.not_mem_nil, or_false, Prod.mk.injEq] at hm
      rcases hm with ⟨rfl, hc⟩ | ⟨rfl, hc⟩ | ⟨rfl, hc⟩
      · exact a_catchRet C hN (x := "java/lang/IndexOutOfBoundsException") (pre := []) (suf := [⟨0, 12, 19, 13⟩, ⟨0, 12, 23, 15⟩]) (z := ⟨0, 12, 15, 21⟩) (i := 5) (w := 2) (v := 1) rfl (fun w hw => nomatch hw) (by decide) (by decide) tb366 tb380 rfl (Or.inl ⟨dL_postInvoice_15, rfl⟩) (by decide) dL_postInvoice_17 rfl dL_postInvoice_18 (Nat.le_of_eq (Nat.zero_add _)) (Nat.le_of_eq (Nat.zero_add _)) (hret _ _ (by unfold wP; exact ⟨by rw [hc], _, _, _, fun z => absurd (hc.symm.trans z) (by decide), fun _ => rfl⟩))
      · exact a_catchRet C hN (x := "java/lang/IllegalArgumentException") (pre := [⟨0, 12, 15, 21⟩]) (suf := [⟨0, 12, 23, 15⟩]) (z := ⟨0, 12, 19, 13⟩) (i := 5) (w := 2) (v := 2) rfl (fun w hw => by simp only [List.mem_cons, List.not_mem_nil, or_false] at hw; rcases hw with rfl <;> first | exact Or.inr ⟨by decide, "java/lang/IndexOutOfBoundsException", tb366, by decide +kernel⟩) (by decide) (by decide) tb185 tb196 rfl (Or.inl ⟨dL_postInvoice_19, rfl⟩) (by decide) dL_postInvoice_21 rfl dL_postInvoice_22 (Nat.le_of_eq (Nat.zero_add _)) (Nat.le_of_eq (Nat.zero_add _)) (hret _ _ (by unfold wP; exact ⟨by rw [hc], _, _, _, fun z => absurd (hc.symm.trans z) (by decide), fun _ => rfl⟩))
      · exact a_catchRet C hN (x := "java/lang/IllegalStateException") (pre := [⟨0, 12, 15, 21⟩, ⟨0, 12, 19, 13⟩]) (suf := []) (z := ⟨0, 12, 23, 15⟩) (i := 5) (w := 2) (v := 3) rfl (fun w hw => by simp only [List.mem_cons, List.not_mem_nil, or_false] at hw; rcases hw with rfl | rfl <;> first | exact Or.inr ⟨by decide, "java/lang/IndexOutOfBoundsException", tb366, by decide +kernel⟩ | exact Or.inr ⟨by decide, "java/lang/IllegalArgumentException", tb185, by decide +kernel⟩) (by decide) (by decide) tb186 tb267 rfl (Or.inl ⟨dL_postInvoice_23, rfl⟩) (by decide) dL_postInvoice_25 rfl dL_postInvoice_26 (Nat.le_of_eq (Nat.zero_add _)) (Nat.le_of_eq (Nat.zero_add _)) (hret _ _ (by unfold wP; exact ⟨by rw [hc], _, _, _, fun z => absurd (hc.symm.trans z) (by decide), fun _ => rfl⟩))) (fun r7 hp7 hq7 => ?_)
  exact hq7.elim
set_option maxRecDepth 100000 in
set_option maxHeartbeats 4000000 in
theorem n_postPayment {l : Launch} {N0 : Nat} {D : va_G} {dT : Nat → ClassId} (hflags : l.stackTraces = false) {o9 : Int64} {nc ni np nl : Nat} {n : Nat → Int32} {f : Nat → Nat → Int32} {g : Nat → Nat → Int64} {jc : Nat → Nat → Int32} {jr : Nat → Int64} (hB : nc ≤ 6 ∧ ni ≤ 24 ∧ np ≤ 24 ∧ nl ≤ 16000) {w a : Int32} (hno : ¬ (o_postPayment nc ni np nl w a n f g).2.1 0 = 0) : xMetN l N0 D dT yL_postPayment cL_postPayment 5 (some .int) [(0, 10, 13, 21), (0, 10, 17, 13), (0, 10, 21, 15)] 10 3 18 [.ref 0, .int w, .int a, .ref 230] (xC (xM (xOut o9) n f g) nc ni np nl (n 1) f g jc jr) xNo (wP n f g nc ni np nl nc ni np nl (o_postPayment nc ni np nl w a n f g)) := by
  refine xMetN_of hflags (by decide +kernel) (fun _ _ h => h) (Nat.le_of_ble_eq_true rfl) ?_
  intro E C hN hret
  refine a_loc [(0, .ref 0), (1, .int w), (2, .int a), (3, .ref 230)] (xsub_cons rfl (xsub_cons rfl (xsub_cons rfl (xsub_cons rfl (xsub_nil))))) ?_
  refine a_aload_n (i := 3) C dL_postPayment_0 rfl rfl ?_
  refine a_iconst (v := 0) C dL_postPayment_1 (by decide) ?_
  refine a_aload_n (i := 0) C dL_postPayment_2 rfl rfl ?_
  refine a_iload_n (i := 1) C dL_postPayment_3 rfl rfl ?_
  refine a_iload_n (i := 2) C dL_postPayment_4 rfl rfl ?_
  refine a_callV C dL_postPayment_5 cv_X6_postPayment tb562 (n_X6_postPayment hflags (h := xM (xOut o9) n f g) hB hno) rfl rfl xC_0 rfl (Nat.le_of_ble_eq_true rfl) ⟨Nat.le_of_ble_eq_true rfl, Nat.le_of_ble_eq_true rfl⟩ ⟨Nat.le_of_eq (Nat.zero_add _), Nat.le_of_eq (Nat.zero_add _)⟩ (fun _ h => h) xav_no (fun u h9 hu => by
      obtain ⟨rfl, hm⟩ := hu
      simp only [List.mem_cons, List.not_mem_nil, or_false, Prod.mk.injEq] at hm
      rcases hm with ⟨rfl, hc⟩ | ⟨rfl, hc⟩ | ⟨rfl, hc⟩
      · exact a_catchRet C hN (x := "java/lang/IndexOutOfBoundsException") (pre := []) (suf := [⟨0, 10, 17, 13⟩, ⟨0, 10, 21, 15⟩]) (z := ⟨0, 10, 13, 21⟩) (i := 4) (w := 2) (v := 1) rfl (fun w hw => nomatch hw) (by decide) (by decide) tb366 tb380 rfl (Or.inl ⟨dL_postPayment_13, rfl⟩) (by decide) dL_postPayment_15 rfl dL_postPayment_16 (Nat.le_of_eq (Nat.zero_add _)) (Nat.le_of_eq (Nat.zero_add _)) (hret _ _ (by unfold wP; exact ⟨by rw [hc], _, _, _, fun z => absurd (hc.symm.trans z) (by decide), fun _ => rfl⟩))
      · exact a_catchRet C hN (x := "java/lang/IllegalArgumentException") (pre := [⟨0, 10, 13, 21⟩]) (suf := [⟨0, 10, 21, 15⟩]) (z := ⟨0, 10, 17, 13⟩) (i := 4) (w := 2) (v := 2) rfl (fun w hw => by simp only [List.mem_cons, List.not_mem_nil, or_false] at hw; rcases hw with rfl <;> first | exact Or.inr ⟨by decide, "java/lang/IndexOutOfBoundsException", tb366, by decide +kernel⟩) (by decide) (by decide) tb185 tb196 rfl (Or.inl ⟨dL_postPayment_17, rfl⟩) (by decide) dL_postPayment_19 rfl dL_postPayment_20 (Nat.le_of_eq (Nat.zero_add _)) (Nat.le_of_eq (Nat.zero_add _)) (hret _ _ (by unfold wP; exact ⟨by rw [hc], _, _, _, fun z => absurd (hc.symm.trans z) (by decide), fun _ => rfl⟩))
      · exact a_catchRet C hN (x := "java/lang/IllegalStateException") (pre := [⟨0, 10, 13, 21⟩, ⟨0, 10, 17, 13⟩]) (suf := []) (z := ⟨0, 10, 21, 15⟩) (i := 4) (w := 2) (v := 3) rfl (fun w hw => by simp only [List.mem_cons, List.not_mem_nil, or_false] at hw; rcases hw with rfl | rfl <;> first | exact Or.inr ⟨by decide, "java/lang/IndexOutOfBoundsException", tb366, by decide +kernel⟩ | exact Or.inr ⟨by decide, "java/lang/IllegalArgumentException", tb185, by decide +kernel⟩) (by decide) (by decide) tb186 tb267 rfl (Or.inl ⟨dL_postPayment_21, rfl⟩) (by decide) dL_postPayment_23 rfl dL_postPayment_24 (Nat.le_of_eq (Nat.zero_add _)) (Nat.le_of_eq (Nat.zero_add _)) (hret _ _ (by unfold wP; exact ⟨by rw [hc], _, _, _, fun z => absurd (hc.symm.trans z) (by decide), fun _ => rfl⟩))) (fun r5 hp5 hq5 => ?_)
  exact hq5.elim
set_option maxRecDepth 100000 in
set_option maxHeartbeats 4000000 in
theorem n_allocateRest {l : Launch} {N0 : Nat} {D : va_G} {dT : Nat → ClassId} (hflags : l.stackTraces = false) {o9 : Int64} {nc ni np nl : Nat} {n : Nat → Int32} {f : Nat → Nat → Int32} {g : Nat → Nat → Int64} {jc : Nat → Nat → Int32} {jr : Nat → Int64} (hB : nc ≤ 6 ∧ ni ≤ 24 ∧ np ≤ 24 ∧ nl ≤ 16000) {w : Int32} (hno : ¬ (o_allocateRest nc ni np nl w n f g).2.1 0 = 0) : xMetN l N0 D dT yL_allocateRest cL_allocateRest 4 (some .int) [(0, 9, 12, 21)] 10 1 6 [.ref 0, .int w, .ref 230] (xC (xM (xOut o9) n f g) nc ni np nl (n 1) f g jc jr) xNo (wP n f g nc ni np nl nc ni np nl (o_allocateRest nc ni np nl w n f g)) := by
  refine xMetN_of hflags (by decide +kernel) (fun _ _ h => h) (Nat.le_of_ble_eq_true rfl) ?_
  intro E C hN hret
  refine a_loc [(0, .ref 0), (1, .int w), (2, .ref 230)] (xsub_cons rfl (xsub_cons rfl (xsub_cons rfl (xsub_nil)))) ?_
  refine a_aload_n (i := 2) C dL_allocateRest_0 rfl rfl ?_
  refine a_iconst (v := 0) C dL_allocateRest_1 (by decide) ?_
  refine a_aload_n (i := 0) C dL_allocateRest_2 rfl rfl ?_
  refine a_iload_n (i := 1) C dL_allocateRest_3 rfl rfl ?_
  refine a_callV C dL_allocateRest_4 cv_X6_allocateRest tb698 (n_X6_allocateRest hflags (h := xM (xOut o9) n f g) hB hno) rfl rfl xC_0 rfl (Nat.le_of_ble_eq_true rfl) ⟨Nat.le_of_ble_eq_true rfl, Nat.le_of_ble_eq_true rfl⟩ ⟨Nat.le_of_eq (Nat.zero_add _), Nat.le_of_eq (Nat.zero_add _)⟩ (fun _ h => h) xav_no (fun u h9 hu => by
      obtain ⟨rfl, hm⟩ := hu
      simp only [List.mem_cons, List.not_mem_nil, or_false, Prod.mk.injEq] at hm
      rcases hm with ⟨rfl, hc⟩
      exact a_catchRet C hN (x := "java/lang/IndexOutOfBoundsException") (pre := []) (suf := []) (z := ⟨0, 9, 12, 21⟩) (i := 3) (w := 1) (v := 1) rfl (fun w hw => nomatch hw) (by decide) (by decide) tb366 tb380 rfl (Or.inr ⟨⟨_, rfl, dL_allocateRest_12⟩, rfl⟩) (by decide) dL_allocateRest_13 rfl dL_allocateRest_14 (Nat.le_of_eq (Nat.zero_add _)) (Nat.le_of_eq (Nat.zero_add _)) (hret _ _ (by unfold wP; exact ⟨by rw [hc], _, _, _, fun z => absurd (hc.symm.trans z) (by decide), fun _ => rfl⟩))) (fun r4 hp4 hq4 => ?_)
  exact hq4.elim
set_option maxRecDepth 100000 in
set_option maxHeartbeats 4000000 in
theorem n_chargeInterest {l : Launch} {N0 : Nat} {D : va_G} {dT : Nat → ClassId} (hflags : l.stackTraces = false) {o9 : Int64} {nc ni np nl : Nat} {n : Nat → Int32} {f : Nat → Nat → Int32} {g : Nat → Nat → Int64} {jc : Nat → Nat → Int32} {jr : Nat → Int64} (hB : nc ≤ 6 ∧ ni ≤ 24 ∧ np ≤ 24 ∧ nl ≤ 16000) {w t : Int32} (hs0 : 0 ≤ (xsum (xacs f g w) ni)) (hO : ∀ i, i < ni → ∃ k, k < nc ∧ f 10 i = nI k) (hno : ¬ (o_charge nc ni nl w t n f g).2.1 0 = 0) : xMetN l N0 D dT yL_chargeInterest cL_chargeInterest 5 (some .int) [(0, 10, 13, 21), (0, 10, 17, 13), (0, 10, 21, 15)] 10 3 18 [.ref 0, .int w, .int t, .ref 230] (xC (xM (xOut o9) n f g) nc ni np nl (n 1) f g jc jr) xNo (wP n f g nc ni np nl nc ni np nl (o_charge nc ni nl w t n f g)) := by
  refine xMetN_of hflags (by decide +kernel) (fun _ _ h => h) (Nat.le_of_ble_eq_true rfl) ?_
  intro E C hN hret
  refine a_loc [(0, .ref 0), (1, .int w), (2, .int t), (3, .ref 230)] (xsub_cons rfl (xsub_cons rfl (xsub_cons rfl (xsub_cons rfl (xsub_nil))))) ?_
  refine a_aload_n (i := 3) C dL_chargeInterest_0 rfl rfl ?_
  refine a_iconst (v := 0) C dL_chargeInterest_1 (by decide) ?_
  refine a_aload_n (i := 0) C dL_chargeInterest_2 rfl rfl ?_
  refine a_iload_n (i := 1) C dL_chargeInterest_3 rfl rfl ?_
  refine a_iload_n (i := 2) C dL_chargeInterest_4 rfl rfl ?_
  refine a_callV C dL_chargeInterest_5 cv_X6_chargeInterest tb758 (n_X6_chargeInterest hflags (h := xM (xOut o9) n f g) hB hs0 hO hno) rfl rfl xC_0 rfl (Nat.le_of_ble_eq_true rfl) ⟨Nat.le_of_ble_eq_true rfl, Nat.le_of_ble_eq_true rfl⟩ ⟨Nat.le_of_eq (Nat.zero_add _), Nat.le_of_eq (Nat.zero_add _)⟩ (fun _ h => h) xav_no (fun u h9 hu => by
      obtain ⟨rfl, hm⟩ := hu
      simp only [List.mem_cons, List.not_mem_nil, or_false, Prod.mk.injEq] at hm
      rcases hm with ⟨rfl, hc⟩ | ⟨rfl, hc⟩ | ⟨rfl, hc⟩
      · exact a_catchRet C hN (x := "java/lang/IndexOutOfBoundsException") (pre := []) (suf := [⟨0, 10, 17, 13⟩, ⟨0, 10, 21, 15⟩]) (z := ⟨0, 10, 13, 21⟩) (i := 4) (w := 2) (v := 1) rfl (fun w hw => nomatch hw) (by decide) (by decide) tb366 tb380 rfl (Or.inl ⟨dL_chargeInterest_13, rfl⟩) (by decide) dL_chargeInterest_15 rfl dL_chargeInterest_16 (Nat.le_of_eq (Nat.zero_add _)) (Nat.le_of_eq (Nat.zero_add _)) (hret _ _ (by unfold wP; exact ⟨by rw [hc], _, _, _, fun z => absurd (hc.symm.trans z) (by decide), fun _ => rfl⟩))
      · exact a_catchRet C hN (x := "java/lang/IllegalArgumentException") (pre := [⟨0, 10, 13, 21⟩]) (suf := [⟨0, 10, 21, 15⟩]) (z := ⟨0, 10, 17, 13⟩) (i := 4) (w := 2) (v := 2) rfl (fun w hw => by simp only [List.mem_cons, List.not_mem_nil, or_false] at hw; rcases hw with rfl <;> first | exact Or.inr ⟨by decide, "java/lang/IndexOutOfBoundsException", tb366, by decide +kernel⟩) (by decide) (by decide) tb185 tb196 rfl (Or.inl ⟨dL_chargeInterest_17, rfl⟩) (by decide) dL_chargeInterest_19 rfl dL_chargeInterest_20 (Nat.le_of_eq (Nat.zero_add _)) (Nat.le_of_eq (Nat.zero_add _)) (hret _ _ (by unfold wP; exact ⟨by rw [hc], _, _, _, fun z => absurd (hc.symm.trans z) (by decide), fun _ => rfl⟩))
      · exact a_catchRet C hN (x := "java/lang/IllegalStateException") (pre := [⟨0, 10, 13, 21⟩, ⟨0, 10, 17, 13⟩]) (suf := []) (z := ⟨0, 10, 21, 15⟩) (i := 4) (w := 2) (v := 3) rfl (fun w hw => by simp only [List.mem_cons, List.not_mem_nil, or_false] at hw; rcases hw with rfl | rfl <;> first | exact Or.inr ⟨by decide, "java/lang/IndexOutOfBoundsException", tb366, by decide +kernel⟩ | exact Or.inr ⟨by decide, "java/lang/IllegalArgumentException", tb185, by decide +kernel⟩) (by decide) (by decide) tb186 tb267 rfl (Or.inl ⟨dL_chargeInterest_21, rfl⟩) (by decide) dL_chargeInterest_23 rfl dL_chargeInterest_24 (Nat.le_of_eq (Nat.zero_add _)) (Nat.le_of_eq (Nat.zero_add _)) (hret _ _ (by unfold wP; exact ⟨by rw [hc], _, _, _, fun z => absurd (hc.symm.trans z) (by decide), fun _ => rfl⟩))) (fun r5 hp5 hq5 => ?_)
  exact hq5.elim
