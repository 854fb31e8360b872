set_option maxRecDepth 100000 in
set_option maxHeartbeats 4000000 in
theorem w_interest {l : Launch} {N0 : Nat} {D : va_G} {dT : Nat → ClassId} (hflags : l.stackTraces = false) {h : xH} {n : Nat → Int32} {f : Nat → Nat → Int32} {g : Nat → Nat → Int64} {nc ni np nl q9 : Nat} {jc : Nat → Nat → Int32} {jr : Nat → Int64} {w : Int32} (hbs : xBs h) (hJ : JI n f g nc ni np nl q9) (hq : q9 ≤ 500) : xMetN l N0 D dT yL_interest cL_interest 3 (some .long) [(0, 13, 14, 27)] 10 1 6 [.ref 0, .int w] (xC h nc ni np nl (n 1) f g jc jr) xNo (pP h n f g nc ni np nl nc ni np nl (oRd (xin w ni) (bI (¬ f 16 w.toNatClampNeg = 0)) n f g) (fun k => if k = 1 then eP else eP)) := by
  have hnl := JI_nl hJ (by omega)
  obtain ⟨hI, ⟨t9, ht, ht2, hG⟩, hLl⟩ := id hJ
  obtain ⟨-, -, -, -, hc6, hi24, hp24, hl16⟩ := id hI
  have hB : nc ≤ 6 ∧ ni ≤ 24 ∧ np ≤ 24 ∧ nl ≤ 16000 := ⟨hc6, hi24, hp24, hl16⟩
  have hZ16 := hG.2.2.1.2
  refine xMetN_of hflags (by decide +kernel) (fun _ _ h => h) (Nat.le_of_ble_eq_true rfl) ?_
  intro E C hN hret
  refine a_loc [(0, .ref 0), (1, .int w)] (xsub_cons rfl (xsub_cons rfl (xsub_nil))) ?_
  refine a_aload_n (i := 0) C dL_interest_0 rfl rfl ?_
  refine a_iload_n (i := 1) C dL_interest_1 rfl rfl ?_
  refine a_callV C dL_interest_2 cv_X6_isInterest tb713 (m_X6_isInterest hflags (h := h) hB hZ16) rfl rfl xC_0 rfl (Nat.le_of_ble_eq_true rfl) ⟨Nat.le_of_ble_eq_true rfl, Nat.le_of_ble_eq_true rfl⟩ ⟨Nat.le_of_eq (Nat.zero_add _), Nat.le_of_eq (Nat.zero_add _)⟩ (fun _ h => h) xav_no (fun u h9 hu => by
      obtain ⟨rfl, hm⟩ := hu
      simp only [List.mem_cons, List.not_mem_nil, or_false, Prod.mk.injEq] at hm
      rcases hm with ⟨rfl, hc⟩
      exact a_catchRetL C hN (x := "java/lang/IndexOutOfBoundsException") (pre := []) (suf := []) (z := ⟨0, 13, 14, 27⟩) (i := 2) (w := 1) (v := eP) rfl (fun w hw => nomatch hw) (by decide) (by decide) tb344 tb358 rfl (Or.inr ⟨⟨_, rfl, dL_interest_14⟩, rfl⟩) (by decide) dL_interest_15 tb386 dL_interest_18 (Nat.le_of_eq (Nat.zero_add _)) (Nat.le_of_eq (Nat.zero_add _)) (hret _ _ ⟨_, _, fun z => absurd (hc.symm.trans z) (by decide), fun _ => ⟨by rw [hc]; rfl, rfl⟩⟩)) (fun r2 hp2 hq2 => ?_)
  obtain ⟨h0, rfl, jc2, jr2, rfl⟩ := hq2
  refine a_if_eq (tgt := 12) C dL_interest_5 (by decide) (fun c5 => ?_) (fun c5 => ?_)
  · refine a_lconst (v := 0) C dL_interest_12 (by decide) ?_
    exact a_lret C dL_interest_13 (Nat.le_of_eq (Nat.zero_add _)) (Nat.le_of_eq (Nat.zero_add _)) (hret _ _ (⟨_, _, fun _ => ⟨by first | exact congrArg (fun z => some (Value.long z)) (bI_L0 c5) | exact congrArg (fun z => some (Value.long z)) (bI_L1 h0 c5), rfl⟩, fun z => absurd h0 z⟩))
  · refine a_lconst (v := 1) C dL_interest_8 (by decide) ?_
    refine a_goto (tgt := 13) C dL_interest_9 (by decide) ?_
    exact a_lret C dL_interest_13 (Nat.le_of_eq (Nat.zero_add _)) (Nat.le_of_eq (Nat.zero_add _)) (hret _ _ (⟨_, _, fun _ => ⟨by first | exact congrArg (fun z => some (Value.long z)) (bI_L0 c5) | exact congrArg (fun z => some (Value.long z)) (bI_L1 h0 c5), rfl⟩, fun z => absurd h0 z⟩))
set_option maxRecDepth 100000 in
set_option maxHeartbeats 4000000 in
theorem w_amount {l : Launch} {N0 : Nat} {D : va_G} {dT : Nat → ClassId} (hflags : l.stackTraces = false) {h : xH} {n : Nat → Int32} {f : Nat → Nat → Int32} {g : Nat → Nat → Int64} {nc ni np nl q9 : Nat} {jc : Nat → Nat → Int32} {jr : Nat → Int64} {w : Int32} (hbs : xBs h) (hJ : JI n f g nc ni np nl q9) (hq : q9 ≤ 500) : xMetN l N0 D dT yL_amount cL_amount 3 (some .long) [(0, 6, 7, 27)] 10 1 6 [.ref 0, .int w] (xC h nc ni np nl (n 1) f g jc jr) xNo (pP h n f g nc ni np nl nc ni np nl (oRd (xin w ni) (f 11 w.toNatClampNeg) n f g) (fun k => if k = 1 then eP else eP)) := by
  have hnl := JI_nl hJ (by omega)
  obtain ⟨hI, ⟨t9, ht, ht2, hG⟩, hLl⟩ := id hJ
  obtain ⟨-, -, -, -, hc6, hi24, hp24, hl16⟩ := id hI
  have hB : nc ≤ 6 ∧ ni ≤ 24 ∧ np ≤ 24 ∧ nl ≤ 16000 := ⟨hc6, hi24, hp24, hl16⟩
  refine xMetN_of hflags (by decide +kernel) (fun _ _ h => h) (Nat.le_of_ble_eq_true rfl) ?_
  intro E C hN hret
  refine a_loc [(0, .ref 0), (1, .int w)] (xsub_cons rfl (xsub_cons rfl (xsub_nil))) ?_
  refine a_aload_n (i := 0) C dL_amount_0 rfl rfl ?_
  refine a_iload_n (i := 1) C dL_amount_1 rfl rfl ?_
  refine a_callV C dL_amount_2 cv_X6_amountOf tb720 (m_X6_amountOf hflags (h := h) hB ) rfl rfl xC_0 rfl (Nat.le_of_ble_eq_true rfl) ⟨Nat.le_of_ble_eq_true rfl, Nat.le_of_ble_eq_true rfl⟩ ⟨Nat.le_of_eq (Nat.zero_add _), Nat.le_of_eq (Nat.zero_add _)⟩ (fun _ h => h) xav_no (fun u h9 hu => by
      obtain ⟨rfl, hm⟩ := hu
      simp only [List.mem_cons, List.not_mem_nil, or_false, Prod.mk.injEq] at hm
      rcases hm with ⟨rfl, hc⟩
      exact a_catchRetL C hN (x := "java/lang/IndexOutOfBoundsException") (pre := []) (suf := []) (z := ⟨0, 6, 7, 27⟩) (i := 2) (w := 1) (v := eP) rfl (fun w hw => nomatch hw) (by decide) (by decide) tb344 tb358 rfl (Or.inr ⟨⟨_, rfl, dL_amount_7⟩, rfl⟩) (by decide) dL_amount_8 tb386 dL_amount_11 (Nat.le_of_eq (Nat.zero_add _)) (Nat.le_of_eq (Nat.zero_add _)) (hret _ _ ⟨_, _, fun z => absurd (hc.symm.trans z) (by decide), fun _ => ⟨by rw [hc]; rfl, rfl⟩⟩)) (fun r2 hp2 hq2 => ?_)
  obtain ⟨h0, rfl, jc2, jr2, rfl⟩ := hq2
  refine a_i2l C dL_amount_5 ?_
  exact a_lret C dL_amount_6 (Nat.le_of_eq (Nat.zero_add _)) (Nat.le_of_eq (Nat.zero_add _)) (hret _ _ (⟨_, _, fun _ => ⟨rfl, rfl⟩, fun z => absurd h0 z⟩))
set_option maxRecDepth 100000 in
set_option maxHeartbeats 4000000 in
theorem w_due {l : Launch} {N0 : Nat} {D : va_G} {dT : Nat → ClassId} (hflags : l.stackTraces = false) {h : xH} {n : Nat → Int32} {f : Nat → Nat → Int32} {g : Nat → Nat → Int64} {nc ni np nl q9 : Nat} {jc : Nat → Nat → Int32} {jr : Nat → Int64} {w : Int32} (hbs : xBs h) (hJ : JI n f g nc ni np nl q9) (hq : q9 ≤ 500) : xMetN l N0 D dT yL_due cL_due 3 (some .long) [(0, 6, 7, 27)] 10 1 6 [.ref 0, .int w] (xC h nc ni np nl (n 1) f g jc jr) xNo (pP h n f g nc ni np nl nc ni np nl (oRd (xin w ni) (f 12 w.toNatClampNeg) n f g) (fun k => if k = 1 then eP else eP)) := by
  have hnl := JI_nl hJ (by omega)
  obtain ⟨hI, ⟨t9, ht, ht2, hG⟩, hLl⟩ := id hJ
  obtain ⟨-, -, -, -, hc6, hi24, hp24, hl16⟩ := id hI
  have hB : nc ≤ 6 ∧ ni ≤ 24 ∧ np ≤ 24 ∧ nl ≤ 16000 := ⟨hc6, hi24, hp24, hl16⟩
  refine xMetN_of hflags (by decide +kernel) (fun _ _ h => h) (Nat.le_of_ble_eq_true rfl) ?_
  intro E C hN hret
  refine a_loc [(0, .ref 0), (1, .int w)] (xsub_cons rfl (xsub_cons rfl (xsub_nil))) ?_
  refine a_aload_n (i := 0) C dL_due_0 rfl rfl ?_
  refine a_iload_n (i := 1) C dL_due_1 rfl rfl ?_
  refine a_callV C dL_due_2 cv_X6_dueDay tb905 (m_X6_dueDay hflags (h := h) hB ) rfl rfl xC_0 rfl (Nat.le_of_ble_eq_true rfl) ⟨Nat.le_of_ble_eq_true rfl, Nat.le_of_ble_eq_true rfl⟩ ⟨Nat.le_of_eq (Nat.zero_add _), Nat.le_of_eq (Nat.zero_add _)⟩ (fun _ h => h) xav_no (fun u h9 hu => by
      obtain ⟨rfl, hm⟩ := hu
      simp only [List.mem_cons, List.not_mem_nil, or_false, Prod.mk.injEq] at hm
      rcases hm with ⟨rfl, hc⟩
      exact a_catchRetL C hN (x := "java/lang/IndexOutOfBoundsException") (pre := []) (suf := []) (z := ⟨0, 6, 7, 27⟩) (i := 2) (w := 1) (v := eP) rfl (fun w hw => nomatch hw) (by decide) (by decide) tb344 tb358 rfl (Or.inr ⟨⟨_, rfl, dL_due_7⟩, rfl⟩) (by decide) dL_due_8 tb386 dL_due_11 (Nat.le_of_eq (Nat.zero_add _)) (Nat.le_of_eq (Nat.zero_add _)) (hret _ _ ⟨_, _, fun z => absurd (hc.symm.trans z) (by decide), fun _ => ⟨by rw [hc]; rfl, rfl⟩⟩)) (fun r2 hp2 hq2 => ?_)
  obtain ⟨h0, rfl, jc2, jr2, rfl⟩ := hq2
  refine a_i2l C dL_due_5 ?_
  exact a_lret C dL_due_6 (Nat.le_of_eq (Nat.zero_add _)) (Nat.le_of_eq (Nat.zero_add _)) (hret _ _ (⟨_, _, fun _ => ⟨rfl, rfl⟩, fun z => absurd h0 z⟩))
set_option maxRecDepth 100000 in
set_option maxHeartbeats 4000000 in
theorem w_open {l : Launch} {N0 : Nat} {D : va_G} {dT : Nat → ClassId} (hflags : l.stackTraces = false) {h : xH} {n : Nat → Int32} {f : Nat → Nat → Int32} {g : Nat → Nat → Int64} {nc ni np nl q9 : Nat} {jc : Nat → Nat → Int32} {jr : Nat → Int64} {w : Int32} (hbs : xBs h) (hJ : JI n f g nc ni np nl q9) (hq : q9 ≤ 500) : xMetN l N0 D dT yL_open cL_open 3 (some .long) [(0, 6, 7, 27)] 10 1 6 [.ref 0, .int w] (xC h nc ni np nl (n 1) f g jc jr) xNo (pP h n f g nc ni np nl nc ni np nl (oRd (xin w ni) (f 13 w.toNatClampNeg) n f g) (fun k => if k = 1 then eP else eP)) := by
  have hnl := JI_nl hJ (by omega)
  obtain ⟨hI, ⟨t9, ht, ht2, hG⟩, hLl⟩ := id hJ
  obtain ⟨-, -, -, -, hc6, hi24, hp24, hl16⟩ := id hI
  have hB : nc ≤ 6 ∧ ni ≤ 24 ∧ np ≤ 24 ∧ nl ≤ 16000 := ⟨hc6, hi24, hp24, hl16⟩
  refine xMetN_of hflags (by decide +kernel) (fun _ _ h => h) (Nat.le_of_ble_eq_true rfl) ?_
  intro E C hN hret
  refine a_loc [(0, .ref 0), (1, .int w)] (xsub_cons rfl (xsub_cons rfl (xsub_nil))) ?_
  refine a_aload_n (i := 0) C dL_open_0 rfl rfl ?_
  refine a_iload_n (i := 1) C dL_open_1 rfl rfl ?_
  refine a_callV C dL_open_2 cv_X6_openOf tb727 (m_X6_openOf hflags (h := h) hB ) rfl rfl xC_0 rfl (Nat.le_of_ble_eq_true rfl) ⟨Nat.le_of_ble_eq_true rfl, Nat.le_of_ble_eq_true rfl⟩ ⟨Nat.le_of_eq (Nat.zero_add _), Nat.le_of_eq (Nat.zero_add _)⟩ (fun _ h => h) xav_no (fun u h9 hu => by
      obtain ⟨rfl, hm⟩ := hu
      simp only [List.mem_cons, List.not_mem_nil, or_false, Prod.mk.injEq] at hm
      rcases hm with ⟨rfl, hc⟩
      exact a_catchRetL C hN (x := "java/lang/IndexOutOfBoundsException") (pre := []) (suf := []) (z := ⟨0, 6, 7, 27⟩) (i := 2) (w := 1) (v := eP) rfl (fun w hw => nomatch hw) (by decide) (by decide) tb344 tb358 rfl (Or.inr ⟨⟨_, rfl, dL_open_7⟩, rfl⟩) (by decide) dL_open_8 tb386 dL_open_11 (Nat.le_of_eq (Nat.zero_add _)) (Nat.le_of_eq (Nat.zero_add _)) (hret _ _ ⟨_, _, fun z => absurd (hc.symm.trans z) (by decide), fun _ => ⟨by rw [hc]; rfl, rfl⟩⟩)) (fun r2 hp2 hq2 => ?_)
  obtain ⟨h0, rfl, jc2, jr2, rfl⟩ := hq2
  refine a_i2l C dL_open_5 ?_
  exact a_lret C dL_open_6 (Nat.le_of_eq (Nat.zero_add _)) (Nat.le_of_eq (Nat.zero_add _)) (hret _ _ (⟨_, _, fun _ => ⟨rfl, rfl⟩, fun z => absurd h0 z⟩))
set_option maxRecDepth 100000 in
set_option maxHeartbeats 4000000 in
theorem w_byLedger {l : Launch} {N0 : Nat} {D : va_G} {dT : Nat → ClassId} (hflags : l.stackTraces = false) {h : xH} {n : Nat → Int32} {f : Nat → Nat → Int32} {g : Nat → Nat → Int64} {nc ni np nl q9 : Nat} {jc : Nat → Nat → Int32} {jr : Nat → Int64} {w : Int32} (hbs : xBs h) (hJ : JI n f g nc ni np nl q9) (hq : q9 ≤ 500) : xMetN l N0 D dT yL_byLedger cL_byLedger 3 (some .long) [(0, 6, 7, 27)] 10 1 6 [.ref 0, .int w] (xC h nc ni np nl (n 1) f g jc jr) xNo (pP h n f g nc ni np nl nc ni np nl (oRd (xin w ni) (xsum (xlin f w) nl) n f g) (fun k => if k = 1 then eP else eP)) := by
  have hnl := JI_nl hJ (by omega)
  obtain ⟨hI, ⟨t9, ht, ht2, hG⟩, hLl⟩ := id hJ
  obtain ⟨-, -, -, -, hc6, hi24, hp24, hl16⟩ := id hI
  have hB : nc ≤ 6 ∧ ni ≤ 24 ∧ np ≤ 24 ∧ nl ≤ 16000 := ⟨hc6, hi24, hp24, hl16⟩
  refine xMetN_of hflags (by decide +kernel) (fun _ _ h => h) (Nat.le_of_ble_eq_true rfl) ?_
  intro E C hN hret
  refine a_loc [(0, .ref 0), (1, .int w)] (xsub_cons rfl (xsub_cons rfl (xsub_nil))) ?_
  refine a_aload_n (i := 0) C dL_byLedger_0 rfl rfl ?_
  refine a_iload_n (i := 1) C dL_byLedger_1 rfl rfl ?_
  refine a_callV C dL_byLedger_2 cv_X6_openByLedger tb889 (m_X6_openByLedger hflags (h := h) hB ) rfl rfl xC_0 rfl (Nat.le_of_ble_eq_true rfl) ⟨Nat.le_of_ble_eq_true rfl, Nat.le_of_ble_eq_true rfl⟩ ⟨Nat.le_of_eq (Nat.zero_add _), Nat.le_of_eq (Nat.zero_add _)⟩ (fun _ h => h) xav_no (fun u h9 hu => by
      obtain ⟨rfl, hm⟩ := hu
      simp only [List.mem_cons, List.not_mem_nil, or_false, Prod.mk.injEq] at hm
      rcases hm with ⟨rfl, hc⟩
      exact a_catchRetL C hN (x := "java/lang/IndexOutOfBoundsException") (pre := []) (suf := []) (z := ⟨0, 6, 7, 27⟩) (i := 2) (w := 1) (v := eP) rfl (fun w hw => nomatch hw) (by decide) (by decide) tb344 tb358 rfl (Or.inr ⟨⟨_, rfl, dL_byLedger_7⟩, rfl⟩) (by decide) dL_byLedger_8 tb386 dL_byLedger_11 (Nat.le_of_eq (Nat.zero_add _)) (Nat.le_of_eq (Nat.zero_add _)) (hret _ _ ⟨_, _, fun z => absurd (hc.symm.trans z) (by decide), fun _ => ⟨by rw [hc]; rfl, rfl⟩⟩)) (fun r2 hp2 hq2 => ?_)
  obtain ⟨h0, rfl, jc2, jr2, rfl⟩ := hq2
  refine a_i2l C dL_byLedger_5 ?_
  exact a_lret C dL_byLedger_6 (Nat.le_of_eq (Nat.zero_add _)) (Nat.le_of_eq (Nat.zero_add _)) (hret _ _ (⟨_, _, fun _ => ⟨rfl, rfl⟩, fun z => absurd h0 z⟩))
set_option maxRecDepth 100000 in
set_option maxHeartbeats 4000000 in
theorem w_disputed {l : Launch} {N0 : Nat} {D : va_G} {dT : Nat → ClassId} (hflags : l.stackTraces = false) {h : xH} {n : Nat → Int32} {f : Nat → Nat → Int32} {g : Nat → Nat → Int64} {nc ni np nl q9 : Nat} {jc : Nat → Nat → Int32} {jr : Nat → Int64} {w : Int32} (hbs : xBs h) (hJ : JI n f g nc ni np nl q9) (hq : q9 ≤ 500) : xMetN l N0 D dT yL_disputed cL_disputed 3 (some .long) [(0, 6, 7, 27)] 10 1 6 [.ref 0, .int w] (xC h nc ni np nl (n 1) f g jc jr) xNo (pP h n f g nc ni np nl nc ni np nl (oRd (xin w ni) (f 14 w.toNatClampNeg) n f g) (fun k => if k = 1 then eP else eP)) := by
  have hnl := JI_nl hJ (by omega)
  obtain ⟨hI, ⟨t9, ht, ht2, hG⟩, hLl⟩ := id hJ
  obtain ⟨-, -, -, -, hc6, hi24, hp24, hl16⟩ := id hI
  have hB : nc ≤ 6 ∧ ni ≤ 24 ∧ np ≤ 24 ∧ nl ≤ 16000 := ⟨hc6, hi24, hp24, hl16⟩
  refine xMetN_of hflags (by decide +kernel) (fun _ _ h => h) (Nat.le_of_ble_eq_true rfl) ?_
  intro E C hN hret
  refine a_loc [(0, .ref 0), (1, .int w)] (xsub_cons rfl (xsub_cons rfl (xsub_nil))) ?_
  refine a_aload_n (i := 0) C dL_disputed_0 rfl rfl ?_
  refine a_iload_n (i := 1) C dL_disputed_1 rfl rfl ?_
  refine a_callV C dL_disputed_2 cv_X6_disputedOf tb734 (m_X6_disputedOf hflags (h := h) hB ) rfl rfl xC_0 rfl (Nat.le_of_ble_eq_true rfl) ⟨Nat.le_of_ble_eq_true rfl, Nat.le_of_ble_eq_true rfl⟩ ⟨Nat.le_of_eq (Nat.zero_add _), Nat.le_of_eq (Nat.zero_add _)⟩ (fun _ h => h) xav_no (fun u h9 hu => by
      obtain ⟨rfl, hm⟩ := hu
      simp only [List.mem_cons, List.not_mem_nil, or_false, Prod.mk.injEq] at hm
      rcases hm with ⟨rfl, hc⟩
      exact a_catchRetL C hN (x := "java/lang/IndexOutOfBoundsException") (pre := []) (suf := []) (z := ⟨0, 6, 7, 27⟩) (i := 2) (w := 1) (v := eP) rfl (fun w hw => nomatch hw) (by decide) (by decide) tb344 tb358 rfl (Or.inr ⟨⟨_, rfl, dL_disputed_7⟩, rfl⟩) (by decide) dL_disputed_8 tb386 dL_disputed_11 (Nat.le_of_eq (Nat.zero_add _)) (Nat.le_of_eq (Nat.zero_add _)) (hret _ _ ⟨_, _, fun z => absurd (hc.symm.trans z) (by decide), fun _ => ⟨by rw [hc]; rfl, rfl⟩⟩)) (fun r2 hp2 hq2 => ?_)
  obtain ⟨h0, rfl, jc2, jr2, rfl⟩ := hq2
  refine a_i2l C dL_disputed_5 ?_
  exact a_lret C dL_disputed_6 (Nat.le_of_eq (Nat.zero_add _)) (Nat.le_of_eq (Nat.zero_add _)) (hret _ _ (⟨_, _, fun _ => ⟨rfl, rfl⟩, fun z => absurd h0 z⟩))
set_option maxRecDepth 100000 in
set_option maxHeartbeats 4000000 in
theorem w_allocated {l : Launch} {N0 : Nat} {D : va_G} {dT : Nat → ClassId} (hflags : l.stackTraces = false) {h : xH} {n : Nat → Int32} {f : Nat → Nat → Int32} {g : Nat → Nat → Int64} {nc ni np nl q9 : Nat} {jc : Nat → Nat → Int32} {jr : Nat → Int64} {w u : Int32} (hbs : xBs h) (hJ : JI n f g nc ni np nl q9) (hq : q9 ≤ 500) : xMetN l N0 D dT yL_allocated cL_allocated 4 (some .long) [(0, 7, 8, 27)] 10 2 12 [.ref 0, .int w, .int u] (xC h nc ni np nl (n 1) f g jc jr) xNo (pP h n f g nc ni np nl nc ni np nl (oRd (xin w np ∧ xin u ni) (f 22 (24 * w.toNatClampNeg + u.toNatClampNeg)) n f g) (fun k => if k = 1 then eP else eP)) := by
  have hnl := JI_nl hJ (by omega)
  obtain ⟨hI, ⟨t9, ht, ht2, hG⟩, hLl⟩ := id hJ
  obtain ⟨-, -, -, -, hc6, hi24, hp24, hl16⟩ := id hI
  have hB : nc ≤ 6 ∧ ni ≤ 24 ∧ np ≤ 24 ∧ nl ≤ 16000 := ⟨hc6, hi24, hp24, hl16⟩
  refine xMetN_of hflags (by decide +kernel) (fun _ _ h => h) (Nat.le_of_ble_eq_true rfl) ?_
  intro E C hN hret
  refine a_loc [(0, .ref 0), (1, .int w), (2, .int u)] (xsub_cons rfl (xsub_cons rfl (xsub_cons rfl (xsub_nil)))) ?_
  refine a_aload_n (i := 0) C dL_allocated_0 rfl rfl ?_
  refine a_iload_n (i := 1) C dL_allocated_1 rfl rfl ?_
  refine a_iload_n (i := 2) C dL_allocated_2 rfl rfl ?_
  refine a_callV C dL_allocated_3 cv_X6_allocated tb741 (m_X6_allocated hflags (h := h) hB ) rfl rfl xC_0 rfl (Nat.le_of_ble_eq_true rfl) ⟨Nat.le_of_ble_eq_true rfl, Nat.le_of_ble_eq_true rfl⟩ ⟨Nat.le_of_eq (Nat.zero_add _), Nat.le_of_eq (Nat.zero_add _)⟩ (fun _ h => h) xav_no (fun u h9 hu => by
      obtain ⟨rfl, hm⟩ := hu
      simp only [List.mem_cons, List.not_mem_nil, or_false, Prod.mk.injEq] at hm
      rcases hm with ⟨rfl, hc⟩
      exact a_catchRetL C hN (x := "java/lang/IndexOutOfBoundsException") (pre := []) (suf := []) (z := ⟨0, 7, 8, 27⟩) (i := 3) (w := 1) (v := eP) rfl (fun w hw => nomatch hw) (by decide) (by decide) tb344 tb358 rfl (Or.inr ⟨⟨_, rfl, dL_allocated_8⟩, rfl⟩) (by decide) dL_allocated_9 tb386 dL_allocated_12 (Nat.le_of_eq (Nat.zero_add _)) (Nat.le_of_eq (Nat.zero_add _)) (hret _ _ ⟨_, _, fun z => absurd (hc.symm.trans z) (by decide), fun _ => ⟨by rw [hc]; rfl, rfl⟩⟩)) (fun r3 hp3 hq3 => ?_)
  obtain ⟨h0, rfl, jc2, jr2, rfl⟩ := hq3
  refine a_i2l C dL_allocated_6 ?_
  exact a_lret C dL_allocated_7 (Nat.le_of_eq (Nat.zero_add _)) (Nat.le_of_eq (Nat.zero_add _)) (hret _ _ (⟨_, _, fun _ => ⟨rfl, rfl⟩, fun z => absurd h0 z⟩))
set_option maxRecDepth 100000 in
set_option maxHeartbeats 4000000 in
theorem w_unallocated {l : Launch} {N0 : Nat} {D : va_G} {dT : Nat → ClassId} (hflags : l.stackTraces = false) {h : xH} {n : Nat → Int32} {f : Nat → Nat → Int32} {g : Nat → Nat → Int64} {nc ni np nl q9 : Nat} {jc : Nat → Nat → Int32} {jr : Nat → Int64} {w : Int32} (hbs : xBs h) (hJ : JI n f g nc ni np nl q9) (hq : q9 ≤ 500) : xMetN l N0 D dT yL_unallocated cL_unallocated 3 (some .long) [(0, 6, 7, 27)] 10 1 6 [.ref 0, .int w] (xC h nc ni np nl (n 1) f g jc jr) xNo (pP h n f g nc ni np nl nc ni np nl (oRd (xin w np) (f 20 w.toNatClampNeg) n f g) (fun k => if k = 1 then eP else eP)) := by
  have hnl := JI_nl hJ (by omega)
  obtain ⟨hI, ⟨t9, ht, ht2, hG⟩, hLl⟩ := id hJ
  obtain ⟨-, -, -, -, hc6, hi24, hp24, hl16⟩ := id hI
  have hB : nc ≤ 6 ∧ ni ≤ 24 ∧ np ≤ 24 ∧ nl ≤ 16000 := ⟨hc6, hi24, hp24, hl16⟩
  have hRV : ∀ p, p < np → ¬ f 21 p = 0 → f 20 p = 0 := fun p hp z => (hG.2.2.2.1.2.2.2.2 p hp z).1
  refine xMetN_of hflags (by decide +kernel) (fun _ _ h => h) (Nat.le_of_ble_eq_true rfl) ?_
  intro E C hN hret
  refine a_loc [(0, .ref 0), (1, .int w)] (xsub_cons rfl (xsub_cons rfl (xsub_nil))) ?_
  refine a_aload_n (i := 0) C dL_unallocated_0 rfl rfl ?_
  refine a_iload_n (i := 1) C dL_unallocated_1 rfl rfl ?_
  refine a_callV C dL_unallocated_2 cv_X6_unallocated tb748 (m_X6_unallocated hflags (h := h) hB hRV) rfl rfl xC_0 rfl (Nat.le_of_ble_eq_true rfl) ⟨Nat.le_of_ble_eq_true rfl, Nat.le_of_ble_eq_true rfl⟩ ⟨Nat.le_of_eq (Nat.zero_add _), Nat.le_of_eq (Nat.zero_add _)⟩ (fun _ h => h) xav_no (fun u h9 hu => by
      obtain ⟨rfl, hm⟩ := hu
      simp only [List.mem_cons, List.not_mem_nil, or_false, Prod.mk.injEq] at hm
      rcases hm with ⟨rfl, hc⟩
      exact a_catchRetL C hN (x := "java/lang/IndexOutOfBoundsException") (pre := []) (suf := []) (z := ⟨0, 6, 7, 27⟩) (i := 2) (w := 1) (v := eP) rfl (fun w hw => nomatch hw) (by decide) (by decide) tb344 tb358 rfl (Or.inr ⟨⟨_, rfl, dL_unallocated_7⟩, rfl⟩) (by decide) dL_unallocated_8 tb386 dL_unallocated_11 (Nat.le_of_eq (Nat.zero_add _)) (Nat.le_of_eq (Nat.zero_add _)) (hret _ _ ⟨_, _, fun z => absurd (hc.symm.trans z) (by decide), fun _ => ⟨by rw [hc]; rfl, rfl⟩⟩)) (fun r2 hp2 hq2 => ?_)
  obtain ⟨h0, rfl, jc2, jr2, rfl⟩ := hq2
  refine a_i2l C dL_unallocated_5 ?_
  exact a_lret C dL_unallocated_6 (Nat.le_of_eq (Nat.zero_add _)) (Nat.le_of_eq (Nat.zero_add _)) (hret _ _ (⟨_, _, fun _ => ⟨rfl, rfl⟩, fun z => absurd h0 z⟩))
set_option maxRecDepth 100000 in
set_option maxHeartbeats 4000000 in
theorem w_balance {l : Launch} {N0 : Nat} {D : va_G} {dT : Nat → ClassId} (hflags : l.stackTraces = false) {h : xH} {n : Nat → Int32} {f : Nat → Nat → Int32} {g : Nat → Nat → Int64} {nc ni np nl q9 : Nat} {jc : Nat → Nat → Int32} {jr : Nat → Int64} {w : Int32} (hbs : xBs h) (hJ : JI n f g nc ni np nl q9) (hq : q9 ≤ 500) : xMetN l N0 D dT yL_balance cL_balance 3 (some .long) [(0, 6, 7, 27)] 10 1 6 [.ref 0, .int w] (xC h nc ni np nl (n 1) f g jc jr) xNo (pP h n f g nc ni np nl nc ni np nl (oRd (xin w nc) (xbal f w ni np) n f g) (fun k => if k = 1 then eP else eP)) := by
  have hnl := JI_nl hJ (by omega)
  obtain ⟨hI, ⟨t9, ht, ht2, hG⟩, hLl⟩ := id hJ
  obtain ⟨-, -, -, -, hc6, hi24, hp24, hl16⟩ := id hI
  have hB : nc ≤ 6 ∧ ni ≤ 24 ∧ np ≤ 24 ∧ nl ≤ 16000 := ⟨hc6, hi24, hp24, hl16⟩
  have hOe := hG.1.1
  have hPe := hG.1.2.1
  have hRV : ∀ p, p < np → ¬ f 21 p = 0 → f 20 p = 0 := fun p hp z => (hG.2.2.2.1.2.2.2.2 p hp z).1
  refine xMetN_of hflags (by decide +kernel) (fun _ _ h => h) (Nat.le_of_ble_eq_true rfl) ?_
  intro E C hN hret
  refine a_loc [(0, .ref 0), (1, .int w)] (xsub_cons rfl (xsub_cons rfl (xsub_nil))) ?_
  refine a_aload_n (i := 0) C dL_balance_0 rfl rfl ?_
  refine a_iload_n (i := 1) C dL_balance_1 rfl rfl ?_
  refine a_callV C dL_balance_2 cv_X6_balance tb881 (m_X6_balance hflags (h := h) hB hOe hPe hRV) rfl rfl xC_0 rfl (Nat.le_of_ble_eq_true rfl) ⟨Nat.le_of_ble_eq_true rfl, Nat.le_of_ble_eq_true rfl⟩ ⟨Nat.le_of_eq (Nat.zero_add _), Nat.le_of_eq (Nat.zero_add _)⟩ (fun _ h => h) xav_no (fun u h9 hu => by
      obtain ⟨rfl, hm⟩ := hu
      simp only [List.mem_cons, List.not_mem_nil, or_false, Prod.mk.injEq] at hm
      rcases hm with ⟨rfl, hc⟩
      exact a_catchRetL C hN (x := "java/lang/IndexOutOfBoundsException") (pre := []) (suf := []) (z := ⟨0, 6, 7, 27⟩) (i := 2) (w := 1) (v := eP) rfl (fun w hw => nomatch hw) (by decide) (by decide) tb344 tb358 rfl (Or.inr ⟨⟨_, rfl, dL_balance_7⟩, rfl⟩) (by decide) dL_balance_8 tb386 dL_balance_11 (Nat.le_of_eq (Nat.zero_add _)) (Nat.le_of_eq (Nat.zero_add _)) (hret _ _ ⟨_, _, fun z => absurd (hc.symm.trans z) (by decide), fun _ => ⟨by rw [hc]; rfl, rfl⟩⟩)) (fun r2 hp2 hq2 => ?_)
  obtain ⟨h0, rfl, jc2, jr2, rfl⟩ := hq2
  refine a_i2l C dL_balance_5 ?_
  exact a_lret C dL_balance_6 (Nat.le_of_eq (Nat.zero_add _)) (Nat.le_of_eq (Nat.zero_add _)) (hret _ _ (⟨_, _, fun _ => ⟨rfl, rfl⟩, fun z => absurd h0 z⟩))
set_option maxRecDepth 100000 in
set_option maxHeartbeats 4000000 in
theorem w_bucket {l : Launch} {N0 : Nat} {D : va_G} {dT : Nat → ClassId} (hflags : l.stackTraces = false) {h : xH} {n : Nat → Int32} {f : Nat → Nat → Int32} {g : Nat → Nat → Int64} {nc ni np nl q9 : Nat} {jc : Nat → Nat → Int32} {jr : Nat → Int64} {w : Int32} (hbs : xBs h) (hJ : JI n f g nc ni np nl q9) (hq : q9 ≤ 500) : xMetN l N0 D dT yL_bucket cL_bucket 3 (some .long) [(0, 6, 7, 27)] 10 1 6 [.ref 0, .int w] (xC h nc ni np nl (n 1) f g jc jr) xNo (pP h n f g nc ni np nl nc ni np nl (oRd (xin w ni) (xbk (n 1 - f 12 w.toNatClampNeg)) n f g) (fun k => if k = 1 then eP else eP)) := by
  have hnl := JI_nl hJ (by omega)
  obtain ⟨hI, ⟨t9, ht, ht2, hG⟩, hLl⟩ := id hJ
  obtain ⟨-, -, -, -, hc6, hi24, hp24, hl16⟩ := id hI
  have hB : nc ≤ 6 ∧ ni ≤ 24 ∧ np ≤ 24 ∧ nl ≤ 16000 := ⟨hc6, hi24, hp24, hl16⟩
  refine xMetN_of hflags (by decide +kernel) (fun _ _ h => h) (Nat.le_of_ble_eq_true rfl) ?_
  intro E C hN hret
  refine a_loc [(0, .ref 0), (1, .int w)] (xsub_cons rfl (xsub_cons rfl (xsub_nil))) ?_
  refine a_aload_n (i := 0) C dL_bucket_0 rfl rfl ?_
  refine a_iload_n (i := 1) C dL_bucket_1 rfl rfl ?_
  refine a_callV C dL_bucket_2 cv_X6_bucketOf tb913 (m_X6_bucketOf hflags (h := h) hB ) rfl rfl xC_0 rfl (Nat.le_of_ble_eq_true rfl) ⟨Nat.le_of_ble_eq_true rfl, Nat.le_of_ble_eq_true rfl⟩ ⟨Nat.le_of_eq (Nat.zero_add _), Nat.le_of_eq (Nat.zero_add _)⟩ (fun _ h => h) xav_no (fun u h9 hu => by
      obtain ⟨rfl, hm⟩ := hu
      simp only [List.mem_cons, List.not_mem_nil, or_false, Prod.mk.injEq] at hm
      rcases hm with ⟨rfl, hc⟩
      exact a_catchRetL C hN (x := "java/lang/IndexOutOfBoundsException") (pre := []) (suf := []) (z := ⟨0, 6, 7, 27⟩) (i := 2) (w := 1) (v := eP) rfl (fun w hw => nomatch hw) (by decide) (by decide) tb344 tb358 rfl (Or.inr ⟨⟨_, rfl, dL_bucket_7⟩, rfl⟩) (by decide) dL_bucket_8 tb386 dL_bucket_11 (Nat.le_of_eq (Nat.zero_add _)) (Nat.le_of_eq (Nat.zero_add _)) (hret _ _ ⟨_, _, fun z => absurd (hc.symm.trans z) (by decide), fun _ => ⟨by rw [hc]; rfl, rfl⟩⟩)) (fun r2 hp2 hq2 => ?_)
  obtain ⟨h0, rfl, jc2, jr2, rfl⟩ := hq2
  refine a_i2l C dL_bucket_5 ?_
  exact a_lret C dL_bucket_6 (Nat.le_of_eq (Nat.zero_add _)) (Nat.le_of_eq (Nat.zero_add _)) (hret _ _ (⟨_, _, fun _ => ⟨rfl, rfl⟩, fun z => absurd h0 z⟩))
set_option maxRecDepth 100000 in
set_option maxHeartbeats 4000000 in
theorem w_ageing {l : Launch} {N0 : Nat} {D : va_G} {dT : Nat → ClassId} (hflags : l.stackTraces = false) {h : xH} {n : Nat → Int32} {f : Nat → Nat → Int32} {g : Nat → Nat → Int64} {nc ni np nl q9 : Nat} {jc : Nat → Nat → Int32} {jr : Nat → Int64} {w b : Int32} (hbs : xBs h) (hJ : JI n f g nc ni np nl q9) (hq : q9 ≤ 500) : xMetN l N0 D dT yL_ageing cL_ageing 4 (some .long) [(0, 7, 8, 27)] 10 2 12 [.ref 0, .int w, .int b] (xC h nc ni np nl (n 1) f g jc jr) xNo (pP h n f g nc ni np nl nc ni np nl (oRd (xin w nc ∧ (0 ≤ b ∧ b ≤ 4)) (xsum (xage n f w b) ni) n f g) (fun k => if k = 1 then eP else eP)) := by
  have hnl := JI_nl hJ (by omega)
  obtain ⟨hI, ⟨t9, ht, ht2, hG⟩, hLl⟩ := id hJ
  obtain ⟨-, -, -, -, hc6, hi24, hp24, hl16⟩ := id hI
  have hB : nc ≤ 6 ∧ ni ≤ 24 ∧ np ≤ 24 ∧ nl ≤ 16000 := ⟨hc6, hi24, hp24, hl16⟩
  have hOe := hG.1.1
  refine xMetN_of hflags (by decide +kernel) (fun _ _ h => h) (Nat.le_of_ble_eq_true rfl) ?_
  intro E C hN hret
  refine a_loc [(0, .ref 0), (1, .int w), (2, .int b)] (xsub_cons rfl (xsub_cons rfl (xsub_cons rfl (xsub_nil)))) ?_
  refine a_aload_n (i := 0) C dL_ageing_0 rfl rfl ?_
  refine a_iload_n (i := 1) C dL_ageing_1 rfl rfl ?_
  refine a_iload_n (i := 2) C dL_ageing_2 rfl rfl ?_
  refine a_callV C dL_ageing_3 cv_X6_ageing tb838 (m_X6_ageing hflags (h := h) hB hOe) rfl rfl xC_0 rfl (Nat.le_of_ble_eq_true rfl) ⟨Nat.le_of_ble_eq_true rfl, Nat.le_of_ble_eq_true rfl⟩ ⟨Nat.le_of_eq (Nat.zero_add _), Nat.le_of_eq (Nat.zero_add _)⟩ (fun _ h => h) xav_no (fun u h9 hu => by
      obtain ⟨rfl, hm⟩ := hu
      simp only [List.mem_cons, List.not_mem_nil, or_false, Prod.mk.injEq] at hm
      rcases hm with ⟨rfl, hc⟩
      exact a_catchRetL C hN (x := "java/lang/IndexOutOfBoundsException") (pre := []) (suf := []) (z := ⟨0, 7, 8, 27⟩) (i := 3) (w := 1) (v := eP) rfl (fun w hw => nomatch hw) (by decide) (by decide) tb344 tb358 rfl (Or.inr ⟨⟨_, rfl, dL_ageing_8⟩, rfl⟩) (by decide) dL_ageing_9 tb386 dL_ageing_12 (Nat.le_of_eq (Nat.zero_add _)) (Nat.le_of_eq (Nat.zero_add _)) (hret _ _ ⟨_, _, fun z => absurd (hc.symm.trans z) (by decide), fun _ => ⟨by rw [hc]; rfl, rfl⟩⟩)) (fun r3 hp3 hq3 => ?_)
  obtain ⟨h0, rfl, jc2, jr2, rfl⟩ := hq3
  refine a_i2l C dL_ageing_6 ?_
  exact a_lret C dL_ageing_7 (Nat.le_of_eq (Nat.zero_add _)) (Nat.le_of_eq (Nat.zero_add _)) (hret _ _ (⟨_, _, fun _ => ⟨rfl, rfl⟩, fun z => absurd h0 z⟩))
set_option maxRecDepth 100000 in
set_option maxHeartbeats 4000000 in
theorem w_oldest {l : Launch} {N0 : Nat} {D : va_G} {dT : Nat → ClassId} (hflags : l.stackTraces = false) {h : xH} {n : Nat → Int32} {f : Nat → Nat → Int32} {g : Nat → Nat → Int64} {nc ni np nl q9 : Nat} {jc : Nat → Nat → Int32} {jr : Nat → Int64} {w : Int32} (hbs : xBs h) (hJ : JI n f g nc ni np nl q9) (hq : q9 ≤ 500) : xMetN l N0 D dT yL_oldest cL_oldest 3 (some .long) [(0, 6, 7, 27)] 10 1 6 [.ref 0, .int w] (xC h nc ni np nl (n 1) f g jc jr) xNo (pP h n f g nc ni np nl nc ni np nl (oRd (xin w nc) (xold f w ni) n f g) (fun k => if k = 1 then eP else eP)) := by
  have hnl := JI_nl hJ (by omega)
  obtain ⟨hI, ⟨t9, ht, ht2, hG⟩, hLl⟩ := id hJ
  obtain ⟨-, -, -, -, hc6, hi24, hp24, hl16⟩ := id hI
  have hB : nc ≤ 6 ∧ ni ≤ 24 ∧ np ≤ 24 ∧ nl ≤ 16000 := ⟨hc6, hi24, hp24, hl16⟩
  have hOe := hG.1.1
  refine xMetN_of hflags (by decide +kernel) (fun _ _ h => h) (Nat.le_of_ble_eq_true rfl) ?_
  intro E C hN hret
  refine a_loc [(0, .ref 0), (1, .int w)] (xsub_cons rfl (xsub_cons rfl (xsub_nil))) ?_
  refine a_aload_n (i := 0) C dL_oldest_0 rfl rfl ?_
  refine a_iload_n (i := 1) C dL_oldest_1 rfl rfl ?_
  refine a_callV C dL_oldest_2 cv_X6_oldest tb932 (m_X6_oldest hflags (h := h) hB hOe) rfl rfl xC_0 rfl (Nat.le_of_ble_eq_true rfl) ⟨Nat.le_of_ble_eq_true rfl, Nat.le_of_ble_eq_true rfl⟩ ⟨Nat.le_of_eq (Nat.zero_add _), Nat.le_of_eq (Nat.zero_add _)⟩ (fun _ h => h) xav_no (fun u h9 hu => by
      obtain ⟨rfl, hm⟩ := hu
      simp only [List.mem_cons, List.not_mem_nil, or_false, Prod.mk.injEq] at hm
      rcases hm with ⟨rfl, hc⟩
      exact a_catchRetL C hN (x := "java/lang/IndexOutOfBoundsException") (pre := []) (suf := []) (z := ⟨0, 6, 7, 27⟩) (i := 2) (w := 1) (v := eP) rfl (fun w hw => nomatch hw) (by decide) (by decide) tb344 tb358 rfl (Or.inr ⟨⟨_, rfl, dL_oldest_7⟩, rfl⟩) (by decide) dL_oldest_8 tb386 dL_oldest_11 (Nat.le_of_eq (Nat.zero_add _)) (Nat.le_of_eq (Nat.zero_add _)) (hret _ _ ⟨_, _, fun z => absurd (hc.symm.trans z) (by decide), fun _ => ⟨by rw [hc]; rfl, rfl⟩⟩)) (fun r2 hp2 hq2 => ?_)
  obtain ⟨h0, rfl, jc2, jr2, rfl⟩ := hq2
  refine a_i2l C dL_oldest_5 ?_
  exact a_lret C dL_oldest_6 (Nat.le_of_eq (Nat.zero_add _)) (Nat.le_of_eq (Nat.zero_add _)) (hret _ _ (⟨_, _, fun _ => ⟨rfl, rfl⟩, fun z => absurd h0 z⟩))
set_option maxRecDepth 100000 in
set_option maxHeartbeats 4000000 in
theorem w_level {l : Launch} {N0 : Nat} {D : va_G} {dT : Nat → ClassId} (hflags : l.stackTraces = false) {h : xH} {n : Nat → Int32} {f : Nat → Nat → Int32} {g : Nat → Nat → Int64} {nc ni np nl q9 : Nat} {jc : Nat → Nat → Int32} {jr : Nat → Int64} {w : Int32} (hbs : xBs h) (hJ : JI n f g nc ni np nl q9) (hq : q9 ≤ 500) : xMetN l N0 D dT yL_level cL_level 3 (some .long) [(0, 6, 7, 27)] 10 1 6 [.ref 0, .int w] (xC h nc ni np nl (n 1) f g jc jr) xNo (pP h n f g nc ni np nl nc ni np nl (oRd (xin w ni) (f 17 w.toNatClampNeg) n f g) (fun k => if k = 1 then eP else eP)) := by
  have hnl := JI_nl hJ (by omega)
  obtain ⟨hI, ⟨t9, ht, ht2, hG⟩, hLl⟩ := id hJ
  obtain ⟨-, -, -, -, hc6, hi24, hp24, hl16⟩ := id hI
  have hB : nc ≤ 6 ∧ ni ≤ 24 ∧ np ≤ 24 ∧ nl ≤ 16000 := ⟨hc6, hi24, hp24, hl16⟩
  refine xMetN_of hflags (by decide +kernel) (fun _ _ h => h) (Nat.le_of_ble_eq_true rfl) ?_
  intro E C hN hret
  refine a_loc [(0, .ref 0), (1, .int w)] (xsub_cons rfl (xsub_cons rfl (xsub_nil))) ?_
  refine a_aload_n (i := 0) C dL_level_0 rfl rfl ?_
  refine a_iload_n (i := 1) C dL_level_1 rfl rfl ?_
  refine a_callV C dL_level_2 cv_X6_levelOf tb786 (m_X6_levelOf hflags (h := h) hB ) rfl rfl xC_0 rfl (Nat.le_of_ble_eq_true rfl) ⟨Nat.le_of_ble_eq_true rfl, Nat.le_of_ble_eq_true rfl⟩ ⟨Nat.le_of_eq (Nat.zero_add _), Nat.le_of_eq (Nat.zero_add _)⟩ (fun _ h => h) xav_no (fun u h9 hu => by
      obtain ⟨rfl, hm⟩ := hu
      simp only [List.mem_cons, List.not_mem_nil, or_false, Prod.mk.injEq] at hm
      rcases hm with ⟨rfl, hc⟩
      exact a_catchRetL C hN (x := "java/lang/IndexOutOfBoundsException") (pre := []) (suf := []) (z := ⟨0, 6, 7, 27⟩) (i := 2) (w := 1) (v := eP) rfl (fun w hw => nomatch hw) (by decide) (by decide) tb344 tb358 rfl (Or.inr ⟨⟨_, rfl, dL_level_7⟩, rfl⟩) (by decide) dL_level_8 tb386 dL_level_11 (Nat.le_of_eq (Nat.zero_add _)) (Nat.le_of_eq (Nat.zero_add _)) (hret _ _ ⟨_, _, fun z => absurd (hc.symm.trans z) (by decide), fun _ => ⟨by rw [hc]; rfl, rfl⟩⟩)) (fun r2 hp2 hq2 => ?_)
  obtain ⟨h0, rfl, jc2, jr2, rfl⟩ := hq2
  refine a_i2l C dL_level_5 ?_
  exact a_lret C dL_level_6 (Nat.le_of_eq (Nat.zero_add _)) (Nat.le_of_eq (Nat.zero_add _)) (hret _ _ (⟨_, _, fun _ => ⟨rfl, rfl⟩, fun z => absurd h0 z⟩))
set_option maxRecDepth 100000 in
set_option maxHeartbeats 4000000 in
theorem w_toReminder {l : Launch} {N0 : Nat} {D : va_G} {dT : Nat → ClassId} (hflags : l.stackTraces = false) {h : xH} {n : Nat → Int32} {f : Nat → Nat → Int32} {g : Nat → Nat → Int64} {nc ni np nl q9 : Nat} {jc : Nat → Nat → Int32} {jr : Nat → Int64} {w : Int32} (hbs : xBs h) (hJ : JI n f g nc ni np nl q9) (hq : q9 ≤ 500) : xMetN l N0 D dT yL_toReminder cL_toReminder 3 (some .long) [(0, 6, 7, 27)] 10 1 6 [.ref 0, .int w] (xC h nc ni np nl (n 1) f g jc jr) xNo (pP h n f g nc ni np nl nc ni np nl (oRd (xin w ni) (xdr n f w.toNatClampNeg) n f g) (fun k => if k = 1 then eP else eP)) := by
  have hnl := JI_nl hJ (by omega)
  obtain ⟨hI, ⟨t9, ht, ht2, hG⟩, hLl⟩ := id hJ
  obtain ⟨-, -, -, -, hc6, hi24, hp24, hl16⟩ := id hI
  have hB : nc ≤ 6 ∧ ni ≤ 24 ∧ np ≤ 24 ∧ nl ≤ 16000 := ⟨hc6, hi24, hp24, hl16⟩
  have hOw := xow_lt hG.1.1 hc6
  refine xMetN_of hflags (by decide +kernel) (fun _ _ h => h) (Nat.le_of_ble_eq_true rfl) ?_
  intro E C hN hret
  refine a_loc [(0, .ref 0), (1, .int w)] (xsub_cons rfl (xsub_cons rfl (xsub_nil))) ?_
  refine a_aload_n (i := 0) C dL_toReminder_0 rfl rfl ?_
  refine a_iload_n (i := 1) C dL_toReminder_1 rfl rfl ?_
  refine a_callV C dL_toReminder_2 cv_X6_daysToReminder tb755 (m_X6_daysToReminder hflags (h := h) hB hOw) rfl rfl xC_0 rfl (Nat.le_of_ble_eq_true rfl) ⟨Nat.le_of_ble_eq_true rfl, Nat.le_of_ble_eq_true rfl⟩ ⟨Nat.le_of_eq (Nat.zero_add _), Nat.le_of_eq (Nat.zero_add _)⟩ (fun _ h => h) xav_no (fun u h9 hu => by
      obtain ⟨rfl, hm⟩ := hu
      simp only [List.mem_cons, List.not_mem_nil, or_false, Prod.mk.injEq] at hm
      rcases hm with ⟨rfl, hc⟩
      exact a_catchRetL C hN (x := "java/lang/IndexOutOfBoundsException") (pre := []) (suf := []) (z := ⟨0, 6, 7, 27⟩) (i := 2) (w := 1) (v := eP) rfl (fun w hw => nomatch hw) (by decide) (by decide) tb344 tb358 rfl (Or.inr ⟨⟨_, rfl, dL_toReminder_7⟩, rfl⟩) (by decide) dL_toReminder_8 tb386 dL_toReminder_11 (Nat.le_of_eq (Nat.zero_add _)) (Nat.le_of_eq (Nat.zero_add _)) (hret _ _ ⟨_, _, fun z => absurd (hc.symm.trans z) (by decide), fun _ => ⟨by rw [hc]; rfl, rfl⟩⟩)) (fun r2 hp2 hq2 => ?_)
  obtain ⟨h0, rfl, jc2, jr2, rfl⟩ := hq2
  refine a_i2l C dL_toReminder_5 ?_
  exact a_lret C dL_toReminder_6 (Nat.le_of_eq (Nat.zero_add _)) (Nat.le_of_eq (Nat.zero_add _)) (hret _ _ (⟨_, _, fun _ => ⟨rfl, rfl⟩, fun z => absurd h0 z⟩))
set_option maxRecDepth 100000 in
set_option maxHeartbeats 4000000 in
theorem w_atLevel {l : Launch} {N0 : Nat} {D : va_G} {dT : Nat → ClassId} (hflags : l.stackTraces = false) {h : xH} {n : Nat → Int32} {f : Nat → Nat → Int32} {g : Nat → Nat → Int64} {nc ni np nl q9 : Nat} {jc : Nat → Nat → Int32} {jr : Nat → Int64} {w : Int32} (hbs : xBs h) (hJ : JI n f g nc ni np nl q9) (hq : q9 ≤ 500) : xMetN l N0 D dT yL_atLevel cL_atLevel 3 (some .long) [(0, 6, 7, 15)] 10 1 6 [.ref 0, .int w] (xC h nc ni np nl (n 1) f g jc jr) xNo (pP h n f g nc ni np nl nc ni np nl (oRd (0 ≤ w ∧ w ≤ 4) (xsum (xlev f w) ni) n f g) (fun k => if k = 1 then eV else eP)) := by
  have hnl := JI_nl hJ (by omega)
  obtain ⟨hI, ⟨t9, ht, ht2, hG⟩, hLl⟩ := id hJ
  obtain ⟨-, -, -, -, hc6, hi24, hp24, hl16⟩ := id hI
  have hB : nc ≤ 6 ∧ ni ≤ 24 ∧ np ≤ 24 ∧ nl ≤ 16000 := ⟨hc6, hi24, hp24, hl16⟩
  refine xMetN_of hflags (by decide +kernel) (fun _ _ h => h) (Nat.le_of_ble_eq_true rfl) ?_
  intro E C hN hret
  refine a_loc [(0, .ref 0), (1, .int w)] (xsub_cons rfl (xsub_cons rfl (xsub_nil))) ?_
  refine a_aload_n (i := 0) C dL_atLevel_0 rfl rfl ?_
  refine a_iload_n (i := 1) C dL_atLevel_1 rfl rfl ?_
  refine a_callV C dL_atLevel_2 cv_X6_invoicesAt tb849 (m_X6_invoicesAt hflags (h := h) hB ) rfl rfl xC_0 rfl (Nat.le_of_ble_eq_true rfl) ⟨Nat.le_of_ble_eq_true rfl, Nat.le_of_ble_eq_true rfl⟩ ⟨Nat.le_of_eq (Nat.zero_add _), Nat.le_of_eq (Nat.zero_add _)⟩ (fun _ h => h) xav_no (fun u h9 hu => by
      obtain ⟨rfl, hm⟩ := hu
      simp only [List.mem_cons, List.not_mem_nil, or_false, Prod.mk.injEq] at hm
      rcases hm with ⟨rfl, hc⟩
      exact a_catchRetL C hN (x := "java/lang/IllegalArgumentException") (pre := []) (suf := []) (z := ⟨0, 6, 7, 15⟩) (i := 2) (w := 1) (v := eV) rfl (fun w hw => nomatch hw) (by decide) (by decide) tb162 tb173 rfl (Or.inr ⟨⟨_, rfl, dL_atLevel_7⟩, rfl⟩) (by decide) dL_atLevel_8 tb339 dL_atLevel_11 (Nat.le_of_eq (Nat.zero_add _)) (Nat.le_of_eq (Nat.zero_add _)) (hret _ _ ⟨_, _, fun z => absurd (hc.symm.trans z) (by decide), fun _ => ⟨by rw [hc]; rfl, rfl⟩⟩)) (fun r2 hp2 hq2 => ?_)
  obtain ⟨h0, rfl, jc2, jr2, rfl⟩ := hq2
  refine a_i2l C dL_atLevel_5 ?_
  exact a_lret C dL_atLevel_6 (Nat.le_of_eq (Nat.zero_add _)) (Nat.le_of_eq (Nat.zero_add _)) (hret _ _ (⟨_, _, fun _ => ⟨rfl, rfl⟩, fun z => absurd h0 z⟩))
set_option maxRecDepth 100000 in
set_option maxHeartbeats 4000000 in
theorem w_lineOf {l : Launch} {N0 : Nat} {D : va_G} {dT : Nat → ClassId} (hflags : l.stackTraces = false) {h : xH} {n : Nat → Int32} {f : Nat → Nat → Int32} {g : Nat → Nat → Int64} {nc ni np nl q9 : Nat} {jc : Nat → Nat → Int32} {jr : Nat → Int64} {w : Int32} (hbs : xBs h) (hJ : JI n f g nc ni np nl q9) (hq : q9 ≤ 500) : xMetN l N0 D dT yL_lineOf cL_lineOf 3 (some .long) [(0, 6, 7, 27)] 10 1 6 [.ref 0, .int w] (xC h nc ni np nl (n 1) f g jc jr) xNo (pP h n f g nc ni np nl nc ni np nl (oRd (xin w nl) (f 23 w.toNatClampNeg) n f g) (fun k => if k = 1 then eP else eP)) := by
  have hnl := JI_nl hJ (by omega)
  obtain ⟨hI, ⟨t9, ht, ht2, hG⟩, hLl⟩ := id hJ
  obtain ⟨-, -, -, -, hc6, hi24, hp24, hl16⟩ := id hI
  have hB : nc ≤ 6 ∧ ni ≤ 24 ∧ np ≤ 24 ∧ nl ≤ 16000 := ⟨hc6, hi24, hp24, hl16⟩
  refine xMetN_of hflags (by decide +kernel) (fun _ _ h => h) (Nat.le_of_ble_eq_true rfl) ?_
  intro E C hN hret
  refine a_loc [(0, .ref 0), (1, .int w)] (xsub_cons rfl (xsub_cons rfl (xsub_nil))) ?_
  refine a_aload_n (i := 0) C dL_lineOf_0 rfl rfl ?_
  refine a_iload_n (i := 1) C dL_lineOf_1 rfl rfl ?_
  refine a_callV C dL_lineOf_2 cv_X6_lineInvoice tb856 (m_X6_lineInvoice hflags (h := h) hB ) rfl rfl xC_0 rfl (Nat.le_of_ble_eq_true rfl) ⟨Nat.le_of_ble_eq_true rfl, Nat.le_of_ble_eq_true rfl⟩ ⟨Nat.le_of_eq (Nat.zero_add _), Nat.le_of_eq (Nat.zero_add _)⟩ (fun _ h => h) xav_no (fun u h9 hu => by
      obtain ⟨rfl, hm⟩ := hu
      simp only [List.mem_cons, List.not_mem_nil, or_false, Prod.mk.injEq] at hm
      rcases hm with ⟨rfl, hc⟩
      exact a_catchRetL C hN (x := "java/lang/IndexOutOfBoundsException") (pre := []) (suf := []) (z := ⟨0, 6, 7, 27⟩) (i := 2) (w := 1) (v := eP) rfl (fun w hw => nomatch hw) (by decide) (by decide) tb344 tb358 rfl (Or.inr ⟨⟨_, rfl, dL_lineOf_7⟩, rfl⟩) (by decide) dL_lineOf_8 tb386 dL_lineOf_11 (Nat.le_of_eq (Nat.zero_add _)) (Nat.le_of_eq (Nat.zero_add _)) (hret _ _ ⟨_, _, fun z => absurd (hc.symm.trans z) (by decide), fun _ => ⟨by rw [hc]; rfl, rfl⟩⟩)) (fun r2 hp2 hq2 => ?_)
  obtain ⟨h0, rfl, jc2, jr2, rfl⟩ := hq2
  refine a_i2l C dL_lineOf_5 ?_
  exact a_lret C dL_lineOf_6 (Nat.le_of_eq (Nat.zero_add _)) (Nat.le_of_eq (Nat.zero_add _)) (hret _ _ (⟨_, _, fun _ => ⟨rfl, rfl⟩, fun z => absurd h0 z⟩))
set_option maxRecDepth 100000 in
set_option maxHeartbeats 4000000 in
theorem w_lineAmount {l : Launch} {N0 : Nat} {D : va_G} {dT : Nat → ClassId} (hflags : l.stackTraces = false) {h : xH} {n : Nat → Int32} {f : Nat → Nat → Int32} {g : Nat → Nat → Int64} {nc ni np nl q9 : Nat} {jc : Nat → Nat → Int32} {jr : Nat → Int64} {w : Int32} (hbs : xBs h) (hJ : JI n f g nc ni np nl q9) (hq : q9 ≤ 500) : xMetN l N0 D dT yL_lineAmount cL_lineAmount 3 (some .long) [(0, 6, 7, 27)] 10 1 6 [.ref 0, .int w] (xC h nc ni np nl (n 1) f g jc jr) xNo (pP h n f g nc ni np nl nc ni np nl (oRd (xin w nl) (f 24 w.toNatClampNeg) n f g) (fun k => if k = 1 then eP else eP)) := by
  have hnl := JI_nl hJ (by omega)
  obtain ⟨hI, ⟨t9, ht, ht2, hG⟩, hLl⟩ := id hJ
  obtain ⟨-, -, -, -, hc6, hi24, hp24, hl16⟩ := id hI
  have hB : nc ≤ 6 ∧ ni ≤ 24 ∧ np ≤ 24 ∧ nl ≤ 16000 := ⟨hc6, hi24, hp24, hl16⟩
  refine xMetN_of hflags (by decide +kernel) (fun _ _ h => h) (Nat.le_of_ble_eq_true rfl) ?_
  intro E C hN hret
  refine a_loc [(0, .ref 0), (1, .int w)] (xsub_cons rfl (xsub_cons rfl (xsub_nil))) ?_
  refine a_aload_n (i := 0) C dL_lineAmount_0 rfl rfl ?_
  refine a_iload_n (i := 1) C dL_lineAmount_1 rfl rfl ?_
  refine a_callV C dL_lineAmount_2 cv_X6_lineAmount tb867 (m_X6_lineAmount hflags (h := h) hB ) rfl rfl xC_0 rfl (Nat.le_of_ble_eq_true rfl) ⟨Nat.le_of_ble_eq_true rfl, Nat.le_of_ble_eq_true rfl⟩ ⟨Nat.le_of_eq (Nat.zero_add _), Nat.le_of_eq (Nat.zero_add _)⟩ (fun _ h => h) xav_no (fun u h9 hu => by
      obtain ⟨rfl, hm⟩ := hu
      simp only [List.mem_cons, List.not_mem_nil, or_false, Prod.mk.injEq] at hm
      rcases hm with ⟨rfl, hc⟩
      exact a_catchRetL C hN (x := "java/lang/IndexOutOfBoundsException") (pre := []) (suf := []) (z := ⟨0, 6, 7, 27⟩) (i := 2) (w := 1) (v := eP) rfl (fun w hw => nomatch hw) (by decide) (by decide) tb344 tb358 rfl (Or.inr ⟨⟨_, rfl, dL_lineAmount_7⟩, rfl⟩) (by decide) dL_lineAmount_8 tb386 dL_lineAmount_11 (Nat.le_of_eq (Nat.zero_add _)) (Nat.le_of_eq (Nat.zero_add _)) (hret _ _ ⟨_, _, fun z => absurd (hc.symm.trans z) (by decide), fun _ => ⟨by rw [hc]; rfl, rfl⟩⟩)) (fun r2 hp2 hq2 => ?_)
  obtain ⟨h0, rfl, jc2, jr2, rfl⟩ := hq2
  refine a_i2l C dL_lineAmount_5 ?_
  exact a_lret C dL_lineAmount_6 (Nat.le_of_eq (Nat.zero_add _)) (Nat.le_of_eq (Nat.zero_add _)) (hret _ _ (⟨_, _, fun _ => ⟨rfl, rfl⟩, fun z => absurd h0 z⟩))
