set_option maxRecDepth 100000 in
set_option maxHeartbeats 4000000 in
theorem v_allocate {l : Launch} {N0 : Nat} {D : va_G} {dT : Nat → ClassId} (hflags : l.stackTraces = false) {h : xH} {n : Nat → Int32} {f : Nat → Nat → Int32} {g : Nat → Nat → Int64} {nc ni np nl q9 : Nat} {jc : Nat → Nat → Int32} {jr : Nat → Int64} {w u a : Int32} (hbs : xBs h) (hJ : JI n f g nc ni np nl q9) (hq : q9 ≤ 500) (hno : ¬ (o_allocate ni np nl w u a n f g).2.1 0 = 0) : xMetN l N0 D dT yL_allocate cL_allocate 5 (some .long) [(0, 8, 9, 27), (0, 8, 15, 15), (0, 8, 21, 19)] 10 4 24 [.ref 0, .int w, .int u, .int a] (xC h nc ni np nl (n 1) f g jc jr) xNo (pP h n f g nc ni np nl nc ni np nl (o_allocate ni np nl w u a n f g) (fun k => if k = 1 then eP else if k = 2 then eV else if k = 3 then eN else eP)) := by
  have hnl := JI_nl hJ (by omega)
  obtain ⟨hI, ⟨t9, ht, ht2, hG⟩, hLl⟩ := id hJ
  obtain ⟨-, -, -, -, hc6, hi24, hp24, hl16⟩ := id hI
  have hB : nc ≤ 6 ∧ ni ≤ 24 ∧ np ≤ 24 ∧ nl ≤ 16000 := ⟨hc6, hi24, hp24, hl16⟩
  have hOe := hG.1.1
  have hPe := hG.1.2.1
  have hRV : ∀ p, p < np → ¬ f 21 p = 0 → f 20 p = 0 := fun p hp z => (hG.2.2.2.1.2.2.2.2 p hp z).1
  refine xMetN_of hflags (by decide +kernel) (fun _ _ h => h) (Nat.le_of_ble_eq_true rfl) ?_
  intro E C hN hret
  refine a_loc [(0, .ref 0), (1, .int w), (2, .int u), (3, .int a)] (xsub_cons rfl (xsub_cons rfl (xsub_cons rfl (xsub_cons rfl (xsub_nil))))) ?_
  refine a_aload_n (i := 0) C dL_allocate_0 rfl rfl ?_
  refine a_iload_n (i := 1) C dL_allocate_1 rfl rfl ?_
  refine a_iload_n (i := 2) C dL_allocate_2 rfl rfl ?_
  refine a_iload_n (i := 3) C dL_allocate_3 rfl rfl ?_
  refine a_callV C dL_allocate_4 cv_X6_allocate tb526 (n_X6_allocate hflags (h := h) hB hOe hPe hRV hno) rfl rfl xC_0 rfl (Nat.le_of_ble_eq_true rfl) ⟨Nat.le_of_ble_eq_true rfl, Nat.le_of_ble_eq_true rfl⟩ ⟨Nat.le_of_eq (Nat.zero_add _), Nat.le_of_eq (Nat.zero_add _)⟩ (fun _ h => h) xav_no (fun u h9 hu => by
      obtain ⟨rfl, hm⟩ := hu
      simp only [List.mem_cons, List.not_mem_nil, or_false, Prod.mk.injEq] at hm
      rcases hm with ⟨rfl, hc⟩ | ⟨rfl, hc⟩ | ⟨rfl, hc⟩
      · exact a_catchRetL C hN (x := "java/lang/IndexOutOfBoundsException") (pre := []) (suf := [⟨0, 8, 15, 15⟩, ⟨0, 8, 21, 19⟩]) (z := ⟨0, 8, 9, 27⟩) (i := 4) (w := 2) (v := eP) rfl (fun w hw => nomatch hw) (by decide) (by decide) tb344 tb358 rfl (Or.inl ⟨dL_allocate_9, rfl⟩) (by decide) dL_allocate_11 tb386 dL_allocate_14 (Nat.le_of_eq (Nat.zero_add _)) (Nat.le_of_eq (Nat.zero_add _)) (hret _ _ ⟨_, _, fun z => absurd (hc.symm.trans z) (by decide), fun _ => ⟨by rw [hc]; rfl, rfl⟩⟩)
      · exact a_catchRetL C hN (x := "java/lang/IllegalArgumentException") (pre := [⟨0, 8, 9, 27⟩]) (suf := [⟨0, 8, 21, 19⟩]) (z := ⟨0, 8, 15, 15⟩) (i := 4) (w := 2) (v := eV) rfl (fun w hw => by simp only [List.mem_cons, List.not_mem_nil, or_false] at hw; rcases hw with rfl <;> first | exact Or.inr ⟨by decide, "java/lang/IndexOutOfBoundsException", tb344, by decide +kernel⟩) (by decide) (by decide) tb162 tb173 rfl (Or.inl ⟨dL_allocate_15, rfl⟩) (by decide) dL_allocate_17 tb339 dL_allocate_20 (Nat.le_of_eq (Nat.zero_add _)) (Nat.le_of_eq (Nat.zero_add _)) (hret _ _ ⟨_, _, fun z => absurd (hc.symm.trans z) (by decide), fun _ => ⟨by rw [hc]; rfl, rfl⟩⟩)
      · exact a_catchRetL C hN (x := "java/lang/IllegalStateException") (pre := [⟨0, 8, 9, 27⟩, ⟨0, 8, 15, 15⟩]) (suf := []) (z := ⟨0, 8, 21, 19⟩) (i := 4) (w := 2) (v := eN) rfl (fun w hw => by simp only [List.mem_cons, List.not_mem_nil, or_false] at hw; rcases hw with rfl | rfl <;> first | exact Or.inr ⟨by decide, "java/lang/IndexOutOfBoundsException", tb344, by decide +kernel⟩ | exact Or.inr ⟨by decide, "java/lang/IllegalArgumentException", tb162, by decide +kernel⟩) (by decide) (by decide) tb163 tb244 rfl (Or.inl ⟨dL_allocate_21, rfl⟩) (by decide) dL_allocate_23 tb340 dL_allocate_26 (Nat.le_of_eq (Nat.zero_add _)) (Nat.le_of_eq (Nat.zero_add _)) (hret _ _ ⟨_, _, fun z => absurd (hc.symm.trans z) (by decide), fun _ => ⟨by rw [hc]; rfl, rfl⟩⟩)) (fun r4 hp4 hq4 => ?_)
  exact hq4.elim
set_option maxRecDepth 100000 in
set_option maxHeartbeats 4000000 in
theorem v_release {l : Launch} {N0 : Nat} {D : va_G} {dT : Nat → ClassId} (hflags : l.stackTraces = false) {h : xH} {n : Nat → Int32} {f : Nat → Nat → Int32} {g : Nat → Nat → Int64} {nc ni np nl q9 : Nat} {jc : Nat → Nat → Int32} {jr : Nat → Int64} {w u : Int32} (hbs : xBs h) (hJ : JI n f g nc ni np nl q9) (hq : q9 ≤ 500) (hno : ¬ (o_release ni np nl w u n f g).2.1 0 = 0) : xMetN l N0 D dT yL_release cL_release 4 (some .long) [(0, 7, 8, 27)] 10 2 12 [.ref 0, .int w, .int u] (xC h nc ni np nl (n 1) f g jc jr) xNo (pP h n f g nc ni np nl nc ni np nl (o_release ni np nl w u n f g) (fun k => if k = 1 then eP else eP)) := by
  have hnl := JI_nl hJ (by omega)
  obtain ⟨hI, ⟨t9, ht, ht2, hG⟩, hLl⟩ := id hJ
  obtain ⟨-, -, -, -, hc6, hi24, hp24, hl16⟩ := id hI
  have hB : nc ≤ 6 ∧ ni ≤ 24 ∧ np ≤ 24 ∧ nl ≤ 16000 := ⟨hc6, hi24, hp24, hl16⟩
  refine xMetN_of hflags (by decide +kernel) (fun _ _ h => h) (Nat.le_of_ble_eq_true rfl) ?_
  intro E C hN hret
  refine a_loc [(0, .ref 0), (1, .int w), (2, .int u)] (xsub_cons rfl (xsub_cons rfl (xsub_cons rfl (xsub_nil)))) ?_
  refine a_aload_n (i := 0) C dL_release_0 rfl rfl ?_
  refine a_iload_n (i := 1) C dL_release_1 rfl rfl ?_
  refine a_iload_n (i := 2) C dL_release_2 rfl rfl ?_
  refine a_callV C dL_release_3 cv_X6_release tb639 (n_X6_release hflags (h := h) hB hno) rfl rfl xC_0 rfl (Nat.le_of_ble_eq_true rfl) ⟨Nat.le_of_ble_eq_true rfl, Nat.le_of_ble_eq_true rfl⟩ ⟨Nat.le_of_eq (Nat.zero_add _), Nat.le_of_eq (Nat.zero_add _)⟩ (fun _ h => h) xav_no (fun u h9 hu => by
      obtain ⟨rfl, hm⟩ := hu
      simp only [List.mem_cons, List.not_mem_nil, or_false, Prod.mk.injEq] at hm
      rcases hm with ⟨rfl, hc⟩
      exact a_catchRetL C hN (x := "java/lang/IndexOutOfBoundsException") (pre := []) (suf := []) (z := ⟨0, 7, 8, 27⟩) (i := 3) (w := 1) (v := eP) rfl (fun w hw => nomatch hw) (by decide) (by decide) tb344 tb358 rfl (Or.inr ⟨⟨_, rfl, dL_release_8⟩, rfl⟩) (by decide) dL_release_9 tb386 dL_release_12 (Nat.le_of_eq (Nat.zero_add _)) (Nat.le_of_eq (Nat.zero_add _)) (hret _ _ ⟨_, _, fun z => absurd (hc.symm.trans z) (by decide), fun _ => ⟨by rw [hc]; rfl, rfl⟩⟩)) (fun r3 hp3 hq3 => ?_)
  exact hq3.elim
set_option maxRecDepth 100000 in
set_option maxHeartbeats 4000000 in
theorem v_settle {l : Launch} {N0 : Nat} {D : va_G} {dT : Nat → ClassId} (hflags : l.stackTraces = false) {h : xH} {n : Nat → Int32} {f : Nat → Nat → Int32} {g : Nat → Nat → Int64} {nc ni np nl q9 : Nat} {jc : Nat → Nat → Int32} {jr : Nat → Int64} {w a : Int32} (hbs : xBs h) (hJ : JI n f g nc ni np nl q9) (hq : q9 ≤ 500) (hno : ¬ (o_settle ni nl w a n f g).2.1 0 = 0) : xMetN l N0 D dT yL_settle cL_settle 4 (some .long) [(0, 7, 8, 27), (0, 7, 13, 19), (0, 7, 18, 15)] 10 3 18 [.ref 0, .int w, .int a] (xC h nc ni np nl (n 1) f g jc jr) xNo (pP h n f g nc ni np nl nc ni np nl (o_settle ni nl w a n f g) (fun k => if k = 1 then eP else if k = 2 then eN else if k = 3 then eV else eP)) := by
  have hnl := JI_nl hJ (by omega)
  obtain ⟨hI, ⟨t9, ht, ht2, hG⟩, hLl⟩ := id hJ
  obtain ⟨-, -, -, -, hc6, hi24, hp24, hl16⟩ := id hI
  have hB : nc ≤ 6 ∧ ni ≤ 24 ∧ np ≤ 24 ∧ nl ≤ 16000 := ⟨hc6, hi24, hp24, hl16⟩
  have h14 : ∀ i, i < ni → 0 ≤ f 14 i := fun i hi => i32_le.mpr (by rw [i32_z]; exact (hG.2.2.2.1.1 i hi).1)
  refine xMetN_of hflags (by decide +kernel) (fun _ _ h => h) (Nat.le_of_ble_eq_true rfl) ?_
  intro E C hN hret
  refine a_loc [(0, .ref 0), (1, .int w), (2, .int a)] (xsub_cons rfl (xsub_cons rfl (xsub_cons rfl (xsub_nil)))) ?_
  refine a_aload_n (i := 0) C dL_settle_0 rfl rfl ?_
  refine a_iload_n (i := 1) C dL_settle_1 rfl rfl ?_
  refine a_iload_n (i := 2) C dL_settle_2 rfl rfl ?_
  refine a_callV C dL_settle_3 cv_X6_settle tb674 (n_X6_settle hflags (h := h) hB h14 hno) rfl rfl xC_0 rfl (Nat.le_of_ble_eq_true rfl) ⟨Nat.le_of_ble_eq_true rfl, Nat.le_of_ble_eq_true rfl⟩ ⟨Nat.le_of_eq (Nat.zero_add _), Nat.le_of_eq (Nat.zero_add _)⟩ (fun _ h => h) xav_no (fun u h9 hu => by
      obtain ⟨rfl, hm⟩ := hu
      simp only [List.mem_cons, List.not_mem_nil, or_false, Prod.mk.injEq] at hm
      rcases hm with ⟨rfl, hc⟩ | ⟨rfl, hc⟩ | ⟨rfl, hc⟩
      · exact a_catchRetL C hN (x := "java/lang/IndexOutOfBoundsException") (pre := []) (suf := [⟨0, 7, 13, 19⟩, ⟨0, 7, 18, 15⟩]) (z := ⟨0, 7, 8, 27⟩) (i := 3) (w := 1) (v := eP) rfl (fun w hw => nomatch hw) (by decide) (by decide) tb344 tb358 rfl (Or.inr ⟨⟨_, rfl, dL_settle_8⟩, rfl⟩) (by decide) dL_settle_9 tb386 dL_settle_12 (Nat.le_of_eq (Nat.zero_add _)) (Nat.le_of_eq (Nat.zero_add _)) (hret _ _ ⟨_, _, fun z => absurd (hc.symm.trans z) (by decide), fun _ => ⟨by rw [hc]; rfl, rfl⟩⟩)
      · exact a_catchRetL C hN (x := "java/lang/IllegalStateException") (pre := [⟨0, 7, 8, 27⟩]) (suf := [⟨0, 7, 18, 15⟩]) (z := ⟨0, 7, 13, 19⟩) (i := 3) (w := 1) (v := eN) rfl (fun w hw => by simp only [List.mem_cons, List.not_mem_nil, or_false] at hw; rcases hw with rfl <;> first | exact Or.inr ⟨by decide, "java/lang/IndexOutOfBoundsException", tb344, by decide +kernel⟩) (by decide) (by decide) tb163 tb244 rfl (Or.inr ⟨⟨_, rfl, dL_settle_13⟩, rfl⟩) (by decide) dL_settle_14 tb340 dL_settle_17 (Nat.le_of_eq (Nat.zero_add _)) (Nat.le_of_eq (Nat.zero_add _)) (hret _ _ ⟨_, _, fun z => absurd (hc.symm.trans z) (by decide), fun _ => ⟨by rw [hc]; rfl, rfl⟩⟩)
      · exact a_catchRetL C hN (x := "java/lang/IllegalArgumentException") (pre := [⟨0, 7, 8, 27⟩, ⟨0, 7, 13, 19⟩]) (suf := []) (z := ⟨0, 7, 18, 15⟩) (i := 3) (w := 1) (v := eV) rfl (fun w hw => by simp only [List.mem_cons, List.not_mem_nil, or_false] at hw; rcases hw with rfl | rfl <;> first | exact Or.inr ⟨by decide, "java/lang/IndexOutOfBoundsException", tb344, by decide +kernel⟩ | exact Or.inr ⟨by decide, "java/lang/IllegalStateException", tb163, by decide +kernel⟩) (by decide) (by decide) tb162 tb173 rfl (Or.inr ⟨⟨_, rfl, dL_settle_18⟩, rfl⟩) (by decide) dL_settle_19 tb339 dL_settle_22 (Nat.le_of_eq (Nat.zero_add _)) (Nat.le_of_eq (Nat.zero_add _)) (hret _ _ ⟨_, _, fun z => absurd (hc.symm.trans z) (by decide), fun _ => ⟨by rw [hc]; rfl, rfl⟩⟩)) (fun r3 hp3 hq3 => ?_)
  exact hq3.elim
set_option maxRecDepth 100000 in
set_option maxHeartbeats 4000000 in
theorem v_reverse {l : Launch} {N0 : Nat} {D : va_G} {dT : Nat → ClassId} (hflags : l.stackTraces = false) {h : xH} {n : Nat → Int32} {f : Nat → Nat → Int32} {g : Nat → Nat → Int64} {nc ni np nl q9 : Nat} {jc : Nat → Nat → Int32} {jr : Nat → Int64} {w : Int32} (hbs : xBs h) (hJ : JI n f g nc ni np nl q9) (hq : q9 ≤ 500) (hno : ¬ (o_reverse ni np nl w n f g).2.1 0 = 0) : xMetN l N0 D dT yL_reverse cL_reverse 3 (some .long) [(0, 6, 7, 27), (0, 6, 12, 19)] 10 2 12 [.ref 0, .int w] (xC h nc ni np nl (n 1) f g jc jr) xNo (pP h n f g nc ni np nl nc ni np nl (o_reverse ni np nl w n f g) (fun k => if k = 1 then eP else if k = 2 then eN else eP)) := by
  have hnl := JI_nl hJ (by omega)
  obtain ⟨hI, ⟨t9, ht, ht2, hG⟩, hLl⟩ := id hJ
  obtain ⟨-, -, -, -, hc6, hi24, hp24, hl16⟩ := id hI
  have hB : nc ≤ 6 ∧ ni ≤ 24 ∧ np ≤ 24 ∧ nl ≤ 16000 := ⟨hc6, hi24, hp24, hl16⟩
  refine xMetN_of hflags (by decide +kernel) (fun _ _ h => h) (Nat.le_of_ble_eq_true rfl) ?_
  intro E C hN hret
  refine a_loc [(0, .ref 0), (1, .int w)] (xsub_cons rfl (xsub_cons rfl (xsub_nil))) ?_
  refine a_aload_n (i := 0) C dL_reverse_0 rfl rfl ?_
  refine a_iload_n (i := 1) C dL_reverse_1 rfl rfl ?_
  refine a_callV C dL_reverse_2 cv_X6_reverse tb658 (n_X6_reverse hflags (h := h) hB hno) rfl rfl xC_0 rfl (Nat.le_of_ble_eq_true rfl) ⟨Nat.le_of_ble_eq_true rfl, Nat.le_of_ble_eq_true rfl⟩ ⟨Nat.le_of_eq (Nat.zero_add _), Nat.le_of_eq (Nat.zero_add _)⟩ (fun _ h => h) xav_no (fun u h9 hu => by
      obtain ⟨rfl, hm⟩ := hu
      simp only [List.mem_cons, List.not_mem_nil, or_false, Prod.mk.injEq] at hm
      rcases hm with ⟨rfl, hc⟩ | ⟨rfl, hc⟩
      · exact a_catchRetL C hN (x := "java/lang/IndexOutOfBoundsException") (pre := []) (suf := [⟨0, 6, 12, 19⟩]) (z := ⟨0, 6, 7, 27⟩) (i := 2) (w := 1) (v := eP) rfl (fun w hw => nomatch hw) (by decide) (by decide) tb344 tb358 rfl (Or.inr ⟨⟨_, rfl, dL_reverse_7⟩, rfl⟩) (by decide) dL_reverse_8 tb386 dL_reverse_11 (Nat.le_of_eq (Nat.zero_add _)) (Nat.le_of_eq (Nat.zero_add _)) (hret _ _ ⟨_, _, fun z => absurd (hc.symm.trans z) (by decide), fun _ => ⟨by rw [hc]; rfl, rfl⟩⟩)
      · exact a_catchRetL C hN (x := "java/lang/IllegalStateException") (pre := [⟨0, 6, 7, 27⟩]) (suf := []) (z := ⟨0, 6, 12, 19⟩) (i := 2) (w := 1) (v := eN) rfl (fun w hw => by simp only [List.mem_cons, List.not_mem_nil, or_false] at hw; rcases hw with rfl <;> first | exact Or.inr ⟨by decide, "java/lang/IndexOutOfBoundsException", tb344, by decide +kernel⟩) (by decide) (by decide) tb163 tb244 rfl (Or.inr ⟨⟨_, rfl, dL_reverse_12⟩, rfl⟩) (by decide) dL_reverse_13 tb340 dL_reverse_16 (Nat.le_of_eq (Nat.zero_add _)) (Nat.le_of_eq (Nat.zero_add _)) (hret _ _ ⟨_, _, fun z => absurd (hc.symm.trans z) (by decide), fun _ => ⟨by rw [hc]; rfl, rfl⟩⟩)) (fun r2 hp2 hq2 => ?_)
  exact hq2.elim
set_option maxRecDepth 100000 in
set_option maxHeartbeats 4000000 in
theorem v_invoice {l : Launch} {N0 : Nat} {D : va_G} {dT : Nat → ClassId} (hflags : l.stackTraces = false) {h : xH} {n : Nat → Int32} {f : Nat → Nat → Int32} {g : Nat → Nat → Int64} {nc ni np nl q9 : Nat} {jc : Nat → Nat → Int32} {jr : Nat → Int64} {w a t : Int32} (hbs : xBs h) (hJ : JI n f g nc ni np nl q9) (hq : q9 ≤ 500) (hno : ¬ (o_postInvoice nc ni nl w a t n f g).2.1 0 = 0) : xMetN l N0 D dT yL_invoice cL_invoice 5 (some .long) [(0, 8, 9, 27), (0, 8, 15, 15), (0, 8, 21, 19)] 10 4 24 [.ref 0, .int w, .int a, .int t] (xC h nc ni np nl (n 1) f g jc jr) xNo (pP h n f g nc ni np nl nc ni np nl (o_postInvoice nc ni nl w a t n f g) (fun k => if k = 1 then eP else if k = 2 then eV else if k = 3 then eN else eP)) := by
  have hnl := JI_nl hJ (by omega)
  obtain ⟨hI, ⟨t9, ht, ht2, hG⟩, hLl⟩ := id hJ
  obtain ⟨-, -, -, -, hc6, hi24, hp24, hl16⟩ := id hI
  have hB : nc ≤ 6 ∧ ni ≤ 24 ∧ np ≤ 24 ∧ nl ≤ 16000 := ⟨hc6, hi24, hp24, hl16⟩
  refine xMetN_of hflags (by decide +kernel) (fun _ _ h => h) (Nat.le_of_ble_eq_true rfl) ?_
  intro E C hN hret
  refine a_loc [(0, .ref 0), (1, .int w), (2, .int a), (3, .int t)] (xsub_cons rfl (xsub_cons rfl (xsub_cons rfl (xsub_cons rfl (xsub_nil))))) ?_
  refine a_aload_n (i := 0) C dL_invoice_0 rfl rfl ?_
  refine a_iload_n (i := 1) C dL_invoice_1 rfl rfl ?_
  refine a_iload_n (i := 2) C dL_invoice_2 rfl rfl ?_
  refine a_iload_n (i := 3) C dL_invoice_3 rfl rfl ?_
  refine a_callV C dL_invoice_4 cv_X6_postInvoice tb450 (n_X6_postInvoice hflags (h := h) hB hno) rfl rfl xC_0 rfl (Nat.le_of_ble_eq_true rfl) ⟨Nat.le_of_ble_eq_true rfl, Nat.le_of_ble_eq_true rfl⟩ ⟨Nat.le_of_eq (Nat.zero_add _), Nat.le_of_eq (Nat.zero_add _)⟩ (fun _ h => h) xav_no (fun u h9 hu => by
      obtain ⟨rfl, hm⟩ := hu
      simp only [List.mem_cons, List.not_mem_nil, or_false, Prod.mk.injEq] at hm
      rcases hm with ⟨rfl, hc⟩ | ⟨rfl, hc⟩ | ⟨rfl, hc⟩
      · exact a_catchRetL C hN (x := "java/lang/IndexOutOfBoundsException") (pre := []) (suf := [⟨0, 8, 15, 15⟩, ⟨0, 8, 21, 19⟩]) (z := ⟨0, 8, 9, 27⟩) (i := 4) (w := 2) (v := eP) rfl (fun w hw => nomatch hw) (by decide) (by decide) tb344 tb358 rfl (Or.inl ⟨dL_invoice_9, rfl⟩) (by decide) dL_invoice_11 tb386 dL_invoice_14 (Nat.le_of_eq (Nat.zero_add _)) (Nat.le_of_eq (Nat.zero_add _)) (hret _ _ ⟨_, _, fun z => absurd (hc.symm.trans z) (by decide), fun _ => ⟨by rw [hc]; rfl, rfl⟩⟩)
      · exact a_catchRetL C hN (x := "java/lang/IllegalArgumentException") (pre := [⟨0, 8, 9, 27⟩]) (suf := [⟨0, 8, 21, 19⟩]) (z := ⟨0, 8, 15, 15⟩) (i := 4) (w := 2) (v := eV) rfl (fun w hw => by simp only [List.mem_cons, List.not_mem_nil, or_false] at hw; rcases hw with rfl <;> first | exact Or.inr ⟨by decide, "java/lang/IndexOutOfBoundsException", tb344, by decide +kernel⟩) (by decide) (by decide) tb162 tb173 rfl (Or.inl ⟨dL_invoice_15, rfl⟩) (by decide) dL_invoice_17 tb339 dL_invoice_20 (Nat.le_of_eq (Nat.zero_add _)) (Nat.le_of_eq (Nat.zero_add _)) (hret _ _ ⟨_, _, fun z => absurd (hc.symm.trans z) (by decide), fun _ => ⟨by rw [hc]; rfl, rfl⟩⟩)
      · exact a_catchRetL C hN (x := "java/lang/IllegalStateException") (pre := [⟨0, 8, 9, 27⟩, ⟨0, 8, 15, 15⟩]) (suf := []) (z := ⟨0, 8, 21, 19⟩) (i := 4) (w := 2) (v := eN) rfl (fun w hw => by simp only [List.mem_cons, List.not_mem_nil, or_false] at hw; rcases hw with rfl | rfl <;> first | exact Or.inr ⟨by decide, "java/lang/IndexOutOfBoundsException", tb344, by decide +kernel⟩ | exact Or.inr ⟨by decide, "java/lang/IllegalArgumentException", tb162, by decide +kernel⟩) (by decide) (by decide) tb163 tb244 rfl (Or.inl ⟨dL_invoice_21, rfl⟩) (by decide) dL_invoice_23 tb340 dL_invoice_26 (Nat.le_of_eq (Nat.zero_add _)) (Nat.le_of_eq (Nat.zero_add _)) (hret _ _ ⟨_, _, fun z => absurd (hc.symm.trans z) (by decide), fun _ => ⟨by rw [hc]; rfl, rfl⟩⟩)) (fun r4 hp4 hq4 => ?_)
  exact hq4.elim
set_option maxRecDepth 100000 in
set_option maxHeartbeats 4000000 in
theorem v_pay {l : Launch} {N0 : Nat} {D : va_G} {dT : Nat → ClassId} (hflags : l.stackTraces = false) {h : xH} {n : Nat → Int32} {f : Nat → Nat → Int32} {g : Nat → Nat → Int64} {nc ni np nl q9 : Nat} {jc : Nat → Nat → Int32} {jr : Nat → Int64} {w a : Int32} (hbs : xBs h) (hJ : JI n f g nc ni np nl q9) (hq : q9 ≤ 500) (hno : ¬ (o_postPayment nc ni np nl w a n f g).2.1 0 = 0) : xMetN l N0 D dT yL_pay cL_pay 4 (some .long) [(0, 7, 8, 27), (0, 7, 13, 15), (0, 7, 18, 19)] 10 3 18 [.ref 0, .int w, .int a] (xC h nc ni np nl (n 1) f g jc jr) xNo (pP h n f g nc ni np nl nc ni np nl (o_postPayment nc ni np nl w a n f g) (fun k => if k = 1 then eP else if k = 2 then eV else if k = 3 then eN else eP)) := by
  have hnl := JI_nl hJ (by omega)
  obtain ⟨hI, ⟨t9, ht, ht2, hG⟩, hLl⟩ := id hJ
  obtain ⟨-, -, -, -, hc6, hi24, hp24, hl16⟩ := id hI
  have hB : nc ≤ 6 ∧ ni ≤ 24 ∧ np ≤ 24 ∧ nl ≤ 16000 := ⟨hc6, hi24, hp24, hl16⟩
  refine xMetN_of hflags (by decide +kernel) (fun _ _ h => h) (Nat.le_of_ble_eq_true rfl) ?_
  intro E C hN hret
  refine a_loc [(0, .ref 0), (1, .int w), (2, .int a)] (xsub_cons rfl (xsub_cons rfl (xsub_cons rfl (xsub_nil)))) ?_
  refine a_aload_n (i := 0) C dL_pay_0 rfl rfl ?_
  refine a_iload_n (i := 1) C dL_pay_1 rfl rfl ?_
  refine a_iload_n (i := 2) C dL_pay_2 rfl rfl ?_
  refine a_callV C dL_pay_3 cv_X6_postPayment tb801 (n_X6_postPayment hflags (h := h) hB hno) rfl rfl xC_0 rfl (Nat.le_of_ble_eq_true rfl) ⟨Nat.le_of_ble_eq_true rfl, Nat.le_of_ble_eq_true rfl⟩ ⟨Nat.le_of_eq (Nat.zero_add _), Nat.le_of_eq (Nat.zero_add _)⟩ (fun _ h => h) xav_no (fun u h9 hu => by
      obtain ⟨rfl, hm⟩ := hu
      simp only [List.mem_cons, List.not_mem_nil, or_false, Prod.mk.injEq] at hm
      rcases hm with ⟨rfl, hc⟩ | ⟨rfl, hc⟩ | ⟨rfl, hc⟩
      · exact a_catchRetL C hN (x := "java/lang/IndexOutOfBoundsException") (pre := []) (suf := [⟨0, 7, 13, 15⟩, ⟨0, 7, 18, 19⟩]) (z := ⟨0, 7, 8, 27⟩) (i := 3) (w := 1) (v := eP) rfl (fun w hw => nomatch hw) (by decide) (by decide) tb344 tb358 rfl (Or.inr ⟨⟨_, rfl, dL_pay_8⟩, rfl⟩) (by decide) dL_pay_9 tb386 dL_pay_12 (Nat.le_of_eq (Nat.zero_add _)) (Nat.le_of_eq (Nat.zero_add _)) (hret _ _ ⟨_, _, fun z => absurd (hc.symm.trans z) (by decide), fun _ => ⟨by rw [hc]; rfl, rfl⟩⟩)
      · exact a_catchRetL C hN (x := "java/lang/IllegalArgumentException") (pre := [⟨0, 7, 8, 27⟩]) (suf := [⟨0, 7, 18, 19⟩]) (z := ⟨0, 7, 13, 15⟩) (i := 3) (w := 1) (v := eV) rfl (fun w hw => by simp only [List.mem_cons, List.not_mem_nil, or_false] at hw; rcases hw with rfl <;> first | exact Or.inr ⟨by decide, "java/lang/IndexOutOfBoundsException", tb344, by decide +kernel⟩) (by decide) (by decide) tb162 tb173 rfl (Or.inr ⟨⟨_, rfl, dL_pay_13⟩, rfl⟩) (by decide) dL_pay_14 tb339 dL_pay_17 (Nat.le_of_eq (Nat.zero_add _)) (Nat.le_of_eq (Nat.zero_add _)) (hret _ _ ⟨_, _, fun z => absurd (hc.symm.trans z) (by decide), fun _ => ⟨by rw [hc]; rfl, rfl⟩⟩)
      · exact a_catchRetL C hN (x := "java/lang/IllegalStateException") (pre := [⟨0, 7, 8, 27⟩, ⟨0, 7, 13, 15⟩]) (suf := []) (z := ⟨0, 7, 18, 19⟩) (i := 3) (w := 1) (v := eN) rfl (fun w hw => by simp only [List.mem_cons, List.not_mem_nil, or_false] at hw; rcases hw with rfl | rfl <;> first | exact Or.inr ⟨by decide, "java/lang/IndexOutOfBoundsException", tb344, by decide +kernel⟩ | exact Or.inr ⟨by decide, "java/lang/IllegalArgumentException", tb162, by decide +kernel⟩) (by decide) (by decide) tb163 tb244 rfl (Or.inr ⟨⟨_, rfl, dL_pay_18⟩, rfl⟩) (by decide) dL_pay_19 tb340 dL_pay_22 (Nat.le_of_eq (Nat.zero_add _)) (Nat.le_of_eq (Nat.zero_add _)) (hret _ _ ⟨_, _, fun z => absurd (hc.symm.trans z) (by decide), fun _ => ⟨by rw [hc]; rfl, rfl⟩⟩)) (fun r3 hp3 hq3 => ?_)
  exact hq3.elim
set_option maxRecDepth 100000 in
set_option maxHeartbeats 4000000 in
theorem v_rest {l : Launch} {N0 : Nat} {D : va_G} {dT : Nat → ClassId} (hflags : l.stackTraces = false) {h : xH} {n : Nat → Int32} {f : Nat → Nat → Int32} {g : Nat → Nat → Int64} {nc ni np nl q9 : Nat} {jc : Nat → Nat → Int32} {jr : Nat → Int64} {w : Int32} (hbs : xBs h) (hJ : JI n f g nc ni np nl q9) (hq : q9 ≤ 500) (hno : ¬ (o_allocateRest nc ni np nl w n f g).2.1 0 = 0) : xMetN l N0 D dT yL_rest cL_rest 3 (some .long) [(0, 6, 7, 27)] 10 1 6 [.ref 0, .int w] (xC h nc ni np nl (n 1) f g jc jr) xNo (pP h n f g nc ni np nl nc ni np nl (o_allocateRest nc ni np nl w n f g) (fun k => if k = 1 then eP else eP)) := by
  have hnl := JI_nl hJ (by omega)
  obtain ⟨hI, ⟨t9, ht, ht2, hG⟩, hLl⟩ := id hJ
  obtain ⟨-, -, -, -, hc6, hi24, hp24, hl16⟩ := id hI
  have hB : nc ≤ 6 ∧ ni ≤ 24 ∧ np ≤ 24 ∧ nl ≤ 16000 := ⟨hc6, hi24, hp24, hl16⟩
  refine xMetN_of hflags (by decide +kernel) (fun _ _ h => h) (Nat.le_of_ble_eq_true rfl) ?_
  intro E C hN hret
  refine a_loc [(0, .ref 0), (1, .int w)] (xsub_cons rfl (xsub_cons rfl (xsub_nil))) ?_
  refine a_aload_n (i := 0) C dL_rest_0 rfl rfl ?_
  refine a_iload_n (i := 1) C dL_rest_1 rfl rfl ?_
  refine a_callV C dL_rest_2 cv_X6_allocateRest tb568 (n_X6_allocateRest hflags (h := h) hB hno) rfl rfl xC_0 rfl (Nat.le_of_ble_eq_true rfl) ⟨Nat.le_of_ble_eq_true rfl, Nat.le_of_ble_eq_true rfl⟩ ⟨Nat.le_of_eq (Nat.zero_add _), Nat.le_of_eq (Nat.zero_add _)⟩ (fun _ h => h) xav_no (fun u h9 hu => by
      obtain ⟨rfl, hm⟩ := hu
      simp only [List.mem_cons, List.not_mem_nil, or_false, Prod.mk.injEq] at hm
      rcases hm with ⟨rfl, hc⟩
      exact a_catchRetL C hN (x := "java/lang/IndexOutOfBoundsException") (pre := []) (suf := []) (z := ⟨0, 6, 7, 27⟩) (i := 2) (w := 1) (v := eP) rfl (fun w hw => nomatch hw) (by decide) (by decide) tb344 tb358 rfl (Or.inr ⟨⟨_, rfl, dL_rest_7⟩, rfl⟩) (by decide) dL_rest_8 tb386 dL_rest_11 (Nat.le_of_eq (Nat.zero_add _)) (Nat.le_of_eq (Nat.zero_add _)) (hret _ _ ⟨_, _, fun z => absurd (hc.symm.trans z) (by decide), fun _ => ⟨by rw [hc]; rfl, rfl⟩⟩)) (fun r2 hp2 hq2 => ?_)
  exact hq2.elim
set_option maxRecDepth 100000 in
set_option maxHeartbeats 4000000 in
theorem v_charge {l : Launch} {N0 : Nat} {D : va_G} {dT : Nat → ClassId} (hflags : l.stackTraces = false) {h : xH} {n : Nat → Int32} {f : Nat → Nat → Int32} {g : Nat → Nat → Int64} {nc ni np nl q9 : Nat} {jc : Nat → Nat → Int32} {jr : Nat → Int64} {w t : Int32} (hbs : xBs h) (hJ : JI n f g nc ni np nl q9) (hq : q9 ≤ 500) (hno : ¬ (o_charge nc ni nl w t n f g).2.1 0 = 0) : xMetN l N0 D dT yL_charge cL_charge 4 (some .long) [(0, 7, 8, 27), (0, 7, 13, 15), (0, 7, 18, 19)] 10 3 18 [.ref 0, .int w, .int t] (xC h nc ni np nl (n 1) f g jc jr) xNo (pP h n f g nc ni np nl nc ni np nl (o_charge nc ni nl w t n f g) (fun k => if k = 1 then eP else if k = 2 then eV else if k = 3 then eN else eP)) := by
  have hnl := JI_nl hJ (by omega)
  obtain ⟨hI, ⟨t9, ht, ht2, hG⟩, hLl⟩ := id hJ
  obtain ⟨-, -, -, -, hc6, hi24, hp24, hl16⟩ := id hI
  have hB : nc ≤ 6 ∧ ni ≤ 24 ∧ np ≤ 24 ∧ nl ≤ 16000 := ⟨hc6, hi24, hp24, hl16⟩
  have hOe := hG.1.1
  refine xMetN_of hflags (by decide +kernel) (fun _ _ h => h) (Nat.le_of_ble_eq_true rfl) ?_
  intro E C hN hret
  refine a_loc [(0, .ref 0), (1, .int w), (2, .int t)] (xsub_cons rfl (xsub_cons rfl (xsub_cons rfl (xsub_nil)))) ?_
  refine a_aload_n (i := 0) C dL_charge_0 rfl rfl ?_
  refine a_iload_n (i := 1) C dL_charge_1 rfl rfl ?_
  refine a_iload_n (i := 2) C dL_charge_2 rfl rfl ?_
  refine a_callV C dL_charge_3 cv_X6_chargeInterest tb685 (n_X6_chargeInterest hflags (h := h) hB (JI_acc hJ _) hOe hno) rfl rfl xC_0 rfl (Nat.le_of_ble_eq_true rfl) ⟨Nat.le_of_ble_eq_true rfl, Nat.le_of_ble_eq_true rfl⟩ ⟨Nat.le_of_eq (Nat.zero_add _), Nat.le_of_eq (Nat.zero_add _)⟩ (fun _ h => h) xav_no (fun u h9 hu => by
      obtain ⟨rfl, hm⟩ := hu
      simp only [List.mem_cons, List.not_mem_nil, or_false, Prod.mk.injEq] at hm
      rcases hm with ⟨rfl, hc⟩ | ⟨rfl, hc⟩ | ⟨rfl, hc⟩
      · exact a_catchRetL C hN (x := "java/lang/IndexOutOfBoundsException") (pre := []) (suf := [⟨0, 7, 13, 15⟩, ⟨0, 7, 18, 19⟩]) (z := ⟨0, 7, 8, 27⟩) (i := 3) (w := 1) (v := eP) rfl (fun w hw => nomatch hw) (by decide) (by decide) tb344 tb358 rfl (Or.inr ⟨⟨_, rfl, dL_charge_8⟩, rfl⟩) (by decide) dL_charge_9 tb386 dL_charge_12 (Nat.le_of_eq (Nat.zero_add _)) (Nat.le_of_eq (Nat.zero_add _)) (hret _ _ ⟨_, _, fun z => absurd (hc.symm.trans z) (by decide), fun _ => ⟨by rw [hc]; rfl, rfl⟩⟩)
      · exact a_catchRetL C hN (x := "java/lang/IllegalArgumentException") (pre := [⟨0, 7, 8, 27⟩]) (suf := [⟨0, 7, 18, 19⟩]) (z := ⟨0, 7, 13, 15⟩) (i := 3) (w := 1) (v := eV) rfl (fun w hw => by simp only [List.mem_cons, List.not_mem_nil, or_false] at hw; rcases hw with rfl <;> first | exact Or.inr ⟨by decide, "java/lang/IndexOutOfBoundsException", tb344, by decide +kernel⟩) (by decide) (by decide) tb162 tb173 rfl (Or.inr ⟨⟨_, rfl, dL_charge_13⟩, rfl⟩) (by decide) dL_charge_14 tb339 dL_charge_17 (Nat.le_of_eq (Nat.zero_add _)) (Nat.le_of_eq (Nat.zero_add _)) (hret _ _ ⟨_, _, fun z => absurd (hc.symm.trans z) (by decide), fun _ => ⟨by rw [hc]; rfl, rfl⟩⟩)
      · exact a_catchRetL C hN (x := "java/lang/IllegalStateException") (pre := [⟨0, 7, 8, 27⟩, ⟨0, 7, 13, 15⟩]) (suf := []) (z := ⟨0, 7, 18, 19⟩) (i := 3) (w := 1) (v := eN) rfl (fun w hw => by simp only [List.mem_cons, List.not_mem_nil, or_false] at hw; rcases hw with rfl | rfl <;> first | exact Or.inr ⟨by decide, "java/lang/IndexOutOfBoundsException", tb344, by decide +kernel⟩ | exact Or.inr ⟨by decide, "java/lang/IllegalArgumentException", tb162, by decide +kernel⟩) (by decide) (by decide) tb163 tb244 rfl (Or.inr ⟨⟨_, rfl, dL_charge_18⟩, rfl⟩) (by decide) dL_charge_19 tb340 dL_charge_22 (Nat.le_of_eq (Nat.zero_add _)) (Nat.le_of_eq (Nat.zero_add _)) (hret _ _ ⟨_, _, fun z => absurd (hc.symm.trans z) (by decide), fun _ => ⟨by rw [hc]; rfl, rfl⟩⟩)) (fun r3 hp3 hq3 => ?_)
  exact hq3.elim
