theorem cMv_le {p nl : Nat} {sh : Nat → Int32} {f : Nat → Nat → Int32} : ∀ k, (cMv p sh nl f k).1 ≤ nl + k := by
  intro k
  induction k with
  | zero => exact Nat.le_refl _
  | succ k ih =>
    show mvN (cMv p sh nl f k).1 (sh k) ≤ nl + (k + 1)
    unfold mvN mWl
    split
    · split <;> omega
    · omega
theorem mAS_nn {p nl j : Nat} {sh : Nat → Int32} {n : Nat → Int32} {f : Nat → Nat → Int32} (hj : j = 0 ∨ j = 1) : ∀ k, (mAS p sh nl n f k).2.1 j = n j := by
  intro k
  induction k with
  | zero => rfl
  | succ k ih =>
    by_cases h : 0 < sh k
    · rw [mAS_t h]
      show mWn _ _ _ j = _
      rcases hj with rfl | rfl
      · rw [mWn_0, ih]
      · rw [mWn_1, ih]
    · rw [mAS_f h, ih]
theorem mAR_nn {ni nl p w j : Nat} {n : Nat → Int32} {f : Nat → Nat → Int32} {g : Nat → Nat → Int64} (hj : j = 0 ∨ j = 1) : (mAR ni nl p w n f g).2.2.1 j = n j := by
  unfold mAR
  split
  · exact mAS_nn hj ni
  · rfl
theorem mAR_le {ni nl p w : Nat} {n : Nat → Int32} {f : Nat → Nat → Int32} {g : Nat → Nat → Int64} : nl ≤ (mAR ni nl p w n f g).2.1 ∧ (mAR ni nl p w n f g).2.1 ≤ nl + ni := by
  unfold mAR
  split
  · show nl ≤ (mAS _ _ _ _ _ _).1 ∧ (mAS _ _ _ _ _ _).1 ≤ _
    rw [← (cMv_mAS ni).1]
    exact ⟨cMv_ge ni, cMv_le ni⟩
  · exact ⟨Nat.le_refl _, Nat.le_add_right _ _⟩
theorem m_X6_allocAR {l : Launch} {N0 : Nat} {D : va_G} {dT : Nat → ClassId} (hflags : l.stackTraces = false) {h : xH} {nc ni np nl : Nat} {n : Nat → Int32} {f : Nat → Nat → Int32} {g : Nat → Nat → Int64} {jc : Nat → Nat → Int32} {jr : Nat → Int64} (hB : nc ≤ 6 ∧ ni ≤ 24 ∧ np ≤ 24 ∧ nl ≤ 16000) {p w : Nat} (n9 : Nat → Int32) (hpn : p < np) (hk19 : f 19 p = nI w) (hw : w < nc) (hO : ∀ i, i < ni → ∃ k, k < nc ∧ f 10 i = nI k) (hP : ∀ i, i < np → ∃ k, k < nc ∧ f 19 i = nI k) (hrv : ¬ f 21 p = 0 → f 20 p = 0) (hW : ∀ c j, 0 ≤ zw ni f c j) (ha : 0 ≤ (f 20 p).toInt) (hl : nl + ni < 16000) (hbs : xBs h) : xMet l N0 D dT yX6_allocateByRule cX6_allocateByRule 6 (some FieldType.int) 6 (lCel nl (mAR ni nl p w n9 f g).2.1) (lSlt nl (mAR ni nl p w n9 f g).2.1) [.ref 0, .ref (64 + p)] (xC h nc ni np nl (n 1) f g jc jr) xnwD (fun r h' => r = some (.int (mAR ni nl p w n9 f g).1) ∧ h' = xC h nc ni np (mAR ni nl p w n9 f g).2.1 (n 1) (mAR ni nl p w n9 f g).2.2.2.1 (mAR ni nl p w n9 f g).2.2.2.2 (cPJ ni f jc jr w (f 20 p)).1 (cPJ ni f jc jr w (f 20 p)).2) xNX := by
  obtain ⟨e1, e2, e3⟩ := cAR_z (f := f) (jc := jc) (g := g) (jr := jr) (ni := ni) (p := p) (w := w) (nl := nl) (h := h) (nc := nc) (np := np) (t := n 1) (n := n9) hB.2.1 (hW (nI w)) ha
  have h1 := xMet_post (m_X6_allocateByRule (D := D) (dT := dT) (N0 := N0) hflags hB hpn hk19 hw hO hP hrv (fun k hk hpk => Classical.byContradiction fun z => ?_) (fun k hk => by have := cMv_le (p := p) (nl := nl) (sh := (cPJ ni f jc jr w (f 20 p)).1 4) (f := f) k; omega) hbs) (fun _ z => z) (post' := fun r h' => r = some (.int (mAR ni nl p w n9 f g).1) ∧ h' = xC h nc ni np (mAR ni nl p w n9 f g).2.1 (n 1) (mAR ni nl p w n9 f g).2.2.2.1 (mAR ni nl p w n9 f g).2.2.2.2 (cPJ ni f jc jr w (f 20 p)).1 (cPJ ni f jc jr w (f 20 p)).2) (fun r h' q => ⟨q.1.trans (by rw [e1]), q.2.trans e3⟩) (fun _ _ z => z)
  · rw [e2] at h1
    exact h1
  · have h0 := hrv z
    obtain ⟨g1, g2⟩ := cPJ_z (jc := jc) (jr := jr) (g := g) (w := w) (a := f 20 p) hB.2.1 (hW (nI w)) ha
    have h3 := zs_mem (t := fun j => ((cPJ ni f jc jr w (f 20 p)).1 4 j).toInt) ni (fun j hj => (g1 j hj).2.1) hk
    have h4 : ((cPJ ni f jc jr w (f 20 p)).1 4 k).toInt ≤ zs (fun j => ((cPJ ni f jc jr w (f 20 p)).1 4 j).toInt) ni := h3
    have h5 := i32_lt.mp hpk
    have h6 : (f 20 p).toInt = 0 := by rw [h0]; rfl
    rw [i32_z] at h5
    omega
set_option maxRecDepth 100000 in
set_option maxHeartbeats 4000000 in
theorem m_X6_postPayment {l : Launch} {N0 : Nat} {D : va_G} {dT : Nat → ClassId} (hflags : l.stackTraces = false) {h : xH} {nc ni np nl : Nat} {n : Nat → Int32} {f : Nat → Nat → Int32} {g : Nat → Nat → Int64} {jc : Nat → Nat → Int32} {jr : Nat → Int64} (hB : nc ≤ 6 ∧ ni ≤ 24 ∧ np ≤ 24 ∧ nl ≤ 16000) {w a : Int32} (z21 : f 21 np = 0) (z22 : ∀ q, q < 24 → f 22 (24 * np + q) = 0) (hW : ∀ c j, 0 ≤ zw ni f c j) (hl : nl + ni < 16000) (hO : ∀ i, i < ni → ∃ k, k < nc ∧ f 10 i = nI k) (hP : ∀ i, i < np → ∃ k, k < nc ∧ f 19 i = nI k) (hbs : xBs h)  : xMet l N0 D dT yX6_postPayment cX6_postPayment 5 (some FieldType.int) 9 (6 + lCel nl (mAR ni nl np w.toNatClampNeg (nup (nup n 0 0) 4 (nI (np + 1))) (fup (fup f 19 (upd (f 19) np w)) 20 (upd (f 20) np a)) g).2.1) (80 + lSlt nl (mAR ni nl np w.toNatClampNeg (nup (nup n 0 0) 4 (nI (np + 1))) (fup (fup f 19 (upd (f 19) np w)) 20 (upd (f 20) np a)) g).2.1) [.ref 0, .int w, .int a] (xC h nc ni np nl (n 1) f g jc jr) xnwB (cP h nc ni (np + 1) (mAR ni nl np w.toNatClampNeg (nup (nup n 0 0) 4 (nI (np + 1))) (fup (fup f 19 (upd (f 19) np w)) 20 (upd (f 20) np a)) g).2.1 (o_postPayment nc ni np nl w a n f g)) (cX (xC h nc ni np nl (n 1) f g jc jr) [("java/lang/IndexOutOfBoundsException", (1 : Int32)), ("java/lang/IllegalArgumentException", (2 : Int32)), ("java/lang/IllegalStateException", (3 : Int32))] (o_postPayment nc ni np nl w a n f g)) := by
  refine xMet_of hflags (by decide +kernel) (fun j h1 h2 => by omega) (Nat.le_of_ble_eq_true rfl) ?_
  intro E C I hret hthr
  refine a_loc [(0, .ref 0), (1, .int w), (2, .int a)] (xsub_cons rfl (xsub_cons rfl (xsub_cons rfl (xsub_nil)))) ?_
  obtain ⟨hc6, hi24, hp24, hl16⟩ := id hB
  refine a_aload_n (i := 0) C dX6_postPayment_0 rfl rfl ?_
  refine a_iload_n (i := 1) C dX6_postPayment_1 rfl rfl ?_
  refine a_callV C dX6_postPayment_2 cv_X6_customerAt tb349 (m_X6_customerAt hflags hB) rfl rfl xC_0 rfl (Nat.le_of_ble_eq_true rfl) ⟨Nat.le_of_ble_eq_true rfl, Nat.le_of_ble_eq_true rfl⟩ ⟨(by show _ ≤ 6 + lCel nl (_); omega), (by show _ ≤ 80 + lSlt nl (_); omega)⟩ (fun _ h => h.elim) xav_no (fun _ _ ⟨e1, e2, e3⟩ => by subst e1; subst e2; exact a_out C (fun _ h => nomatch h) (hthr _ _ ⟨rfl, by unfold o_postPayment; rw [if_pos e3]; exact (List.Mem.head _)⟩) (by show _ ≤ 6 + lCel nl (_); omega) (by show _ ≤ 80 + lSlt nl (_); omega)) (fun r2 hp2 hq2 => ?_)
  obtain ⟨j, hj, rfl, rfl, rfl⟩ := hq2
  have ej : (nI j).toNatClampNeg = j := nI_clamp (by omega)
  rw [ej] at C hret
  refine a_astore_n (i := 3) C dX6_postPayment_5 rfl (by decide) ?_
  refine a_iload_n (i := 2) C dX6_postPayment_6 rfl rfl ?_
  refine a_iconst (v := 1) C dX6_postPayment_7 (by decide) ?_
  refine a_ldc C dX6_postPayment_8 tb454 ?_
  refine a_callS C dX6_postPayment_10 cs_X6_requireRange tb168 (m_X6_requireRange hflags) rfl rfl (Nat.le_of_ble_eq_true rfl) ⟨Nat.le_of_ble_eq_true rfl, Nat.le_of_ble_eq_true rfl⟩ ⟨(by show _ ≤ 6 + lCel nl (_); omega), (by show _ ≤ 80 + lSlt nl (_); omega)⟩ (fun _ h => h.elim) xav_no (fun _ _ ⟨e1, e2, e3⟩ => by subst e1; subst e2; exact a_out C (fun _ h => nomatch h) (hthr _ _ ⟨rfl, by unfold o_postPayment; rw [if_neg (fun z => z (xin_of hj (by omega))), if_pos (fun z => e3 z)]; exact (List.Mem.tail _ (List.Mem.head _))⟩) (by show _ ≤ 6 + lCel nl (_); omega) (by show _ ≤ 80 + lSlt nl (_); omega)) (fun r10 hp10 hq10 => ?_)
  obtain ⟨rfl, rfl, hx1⟩ := hq10
  refine a_aload_n (i := 0) C dX6_postPayment_13 rfl rfl ?_
  refine a_get C dX6_postPayment_14 fl_X6_19 xC_0 rfl ?_
  refine a_callV C dX6_postPayment_17 cv_Jx4a65c_size_8abf5 tb142 (m_Jx4a65c_size_8abf5 hflags xC_3) rfl rfl xC_3 rfl (Nat.le_of_ble_eq_true rfl) ⟨Nat.le_of_ble_eq_true rfl, Nat.le_of_ble_eq_true rfl⟩ ⟨(by show _ ≤ 6 + lCel nl _; omega), (by show _ ≤ 80 + lSlt nl _; omega)⟩ (fun _ h => h.elim) xav_no (fun _ _ h => h.elim) (fun r17 hp17 hq17 => ?_)
  obtain ⟨rfl, rfl⟩ := hq17
  refine a_bipush (v := 24) C dX6_postPayment_20 (by decide) ?_
  refine a_callS C dX6_postPayment_22 cs_X6_requireRoom tb239 (m_X6_requireRoom hflags) rfl rfl (Nat.le_of_ble_eq_true rfl) ⟨Nat.le_of_ble_eq_true rfl, Nat.le_of_ble_eq_true rfl⟩ ⟨(by show _ ≤ 6 + lCel nl (_); omega), (by show _ ≤ 80 + lSlt nl (_); omega)⟩ (fun _ h => h.elim) xav_no (fun _ _ ⟨e1, e2, e3⟩ => by subst e1; subst e2; exact a_out C (fun _ h => nomatch h) (hthr _ _ ⟨rfl, by unfold o_postPayment; rw [if_neg (fun z => z (xin_of hj (by omega))), if_neg (fun z => z hx1), if_pos (show np = 24 by have := mt (nI_ltI (a := np) (b := 24) (by omega) (by omega)).mpr e3; omega)]; exact (List.Mem.tail _ (List.Mem.tail _ (List.Mem.head _)))⟩) (by show _ ≤ 6 + lCel nl (_); omega) (by show _ ≤ 80 + lSlt nl (_); omega)) (fun r22 hp22 hq22 => ?_)
  obtain ⟨rfl, rfl, hx4⟩ := hq22
  have hnp : np < 24 := (nI_ltI (a := np) (b := 24) (by omega) (by omega)).mp hx4
  have hOw := xow_lt hO hc6
  have hPw := pow_lt hP hc6
  refine a_loc [(0, .ref 0), (1, .int (nI j)), (2, .int a), (3, .ref (16 + j))] (xsub_cons rfl (xsub_cons rfl (xsub_cons rfl (xsub_cons rfl (xsub_nil))))) ?_
  refine a_new C (64 + np) (ci := 4) (T := TX4) (ty := tyX4) (fs := zX4) dX6_postPayment_25 tb534 tb805 tb44 in_X4 tyX4_ok rfl nf_X4 nr_X4 (Or.inl ⟨by omega, by omega⟩) ⟨fun j e _ he => fr_o hB hbs hOw hPw (Or.inr (Or.inr (Or.inl rfl))) j e he, fun q hq => (by simp only [List.mem_cons, List.not_mem_nil, or_false] at hq; rcases hq with rfl | rfl | rfl | rfl <;> first | exact fun z => Value.noConfusion z | exact xnwO_no (by omega)), fun v hv => (nomatch hv)⟩ (by show _ ≤ 6 + lCel nl _; omega) (by show _ ≤ 80 + lSlt nl _; omega) ?_
  refine a_dup C dX6_postPayment_28 rfl ?_
  refine a_aload_n (i := 3) C dX6_postPayment_29 rfl rfl ?_
  refine a_iload_n (i := 2) C dX6_postPayment_30 rfl rfl ?_
  refine a_callI C dX6_postPayment_31 ci_X4_init tb806 (m_X4_init hflags (b := 96 + np) xup_s (by omega) (by omega) (by omega) (xnr_up (fun j e _ he => fr_o hB hbs hOw hPw (Or.inr (Or.inr (Or.inr rfl))) j e he) (xnr_o (fun y hy => nr_X4 y hy _)))) rfl rfl (Nat.le_of_ble_eq_true rfl) ⟨Nat.le_of_ble_eq_true rfl, Nat.le_of_ble_eq_true rfl⟩ ⟨(by show _ ≤ 6 + lCel nl _; omega), (by show _ ≤ 80 + lSlt nl _; omega)⟩ (fun j e => Or.inl ⟨by rw [show j = 96 + np from e]; omega, by rw [show j = 96 + np from e]; omega⟩) ⟨fun q hq j hj => (by simp only [List.mem_cons, List.not_mem_nil, or_false] at hq; rcases hq with rfl | rfl | rfl | rfl <;> first | exact Value.noConfusion hj | exact fun z => xnwD_no3 z (Value.ref.inj hj) (by omega)), fun v hv j hj => (by simp only [Option.toList, List.append_eq, List.nil_append, List.append_nil, List.mem_cons, List.not_mem_nil, or_false] at hv; rcases hv with rfl <;> first | exact Value.noConfusion hj | exact fun z => xnwD_no3 z (Value.ref.inj hj) (by omega))⟩ (fun r31 hp31 hq31 => ?_)
  obtain ⟨rfl, rfl⟩ := hq31
  refine a_astore (i := 4) C dX6_postPayment_34 (by decide) ?_
  refine a_aload_n (i := 0) C dX6_postPayment_36 rfl rfl ?_
  refine a_get C dX6_postPayment_37 fl_X6_19 ((xup_n (by omega)).trans ((xup_n (by omega)).trans ((xup_n (by omega)).trans xC_0))) rfl ?_
  refine a_aload (i := 4) C dX6_postPayment_40 rfl ?_
  refine a_loc [(0, .ref 0), (1, .int (nI j)), (2, .int a), (3, .ref (16 + j)), (4, .ref (64 + np))] (xsub_cons rfl (xsub_cons rfl (xsub_cons rfl (xsub_cons rfl (xsub_cons rfl (xsub_nil)))))) ?_
  refine a_callV C dX6_postPayment_42 cv_Jx4a65c_add_9ea2d tb282 (m_addC hflags (L := 3) (B := 20) (base := 64) (c := np) ((xup_n (by omega)).trans ((xup_n (by omega)).trans ((xup_n (by omega)).trans xC_3))) (fun hz => ((xup_n (by have := aAd_n (B := 20) hz; have := aGen_le np; omega)).trans ((xup_n (by have := aAd_n (B := 20) hz; have := aGen_le np; omega)).trans ((xup_n (by have := aAd_n (B := 20) hz; have := aGen_le np; omega)).trans (xC_l3 hz))))) (by omega) (by omega) (by omega) (by omega) (by omega) xup_s rfl tb948 (fun i hi => ⟨4, _, _, ((xup_n (by omega)).trans ((xup_n (by omega)).trans ((xup_n (by omega)).trans (xC_pa hi (by omega))))), rfl, tb948⟩) (fun hd j e hj he => xnr_up (xnr_up (xnr_up (fun j e _ he => fr_l hB hbs hOw hPw (Or.inr (Or.inr ⟨rfl, rfl⟩)) hd j e he) (xnr_o (fun y hy => nr_X4 y hy _))) xnr_i) (xnr_o (fun y hy => by simp only [List.mem_cons, List.not_mem_nil, or_false] at hy; rcases hy with rfl | rfl | rfl | rfl | rfl <;> first | exact fun z => Value.noConfusion z | exact xnwO_no (by have := aAd_n (B := 20) (c := np + 1) (by omega); omega))) j e hj he)) rfl rfl ((xup_n (by omega)).trans ((xup_n (by omega)).trans ((xup_n (by omega)).trans xC_3))) rfl (Nat.le_of_ble_eq_true rfl) ⟨Nat.le_of_ble_eq_true rfl, Nat.le_of_ble_eq_true rfl⟩ ⟨(by show _ ≤ 6 + lCel nl _; omega), (by show _ ≤ 80 + lSlt nl _; omega)⟩ (fun j hj => by obtain ⟨e, -⟩ := hj; have q1 := aAd_n (B := 20) (c := np + 1) (by omega); have q2 := aGen_le (np + 1); subst e; first | exact Or.inr ⟨by omega, by omega⟩ | exact ⟨by omega, by omega⟩) ⟨fun q hq j hj => (by simp only [List.mem_cons, List.not_mem_nil, or_false] at hq; rcases hq with rfl | rfl | rfl | rfl | rfl <;> first | exact Value.noConfusion hj | exact fun z => nadd (by omega) z (Value.ref.inj hj)), fun y hy => nomatch hy⟩ (fun _ _ h => h.elim) (fun r42 hp42 hq42 => ?_)
  obtain ⟨rfl, hL9, hA9, ho9⟩ := hq42
  refine aW_sub (xC_addP (c := nI j) (a := a) hc6 hi24 hp24 hnp hL9 hA9 ((ho9 _ (by omega) (by have := aAd_n (B := 20) (c := np + 1) (by omega); omega)).trans (xup_s.trans ?_)) ((ho9 _ (by omega) (by have := aAd_n (B := 20) (c := np + 1) (by omega); omega)).trans ((xup_n (by omega)).trans (xup_s.trans ?_))) (fun j h1 h2 h3 h4 => (ho9 j h1 h2).trans ((xup_n h3).trans ((xup_n h4).trans (xup_n h3))))) ?_
  · have e1 : xpow (fup (fup f 19 (upd (f 19) np (nI j))) 20 (upd (f 20) np a)) np = j := by
      unfold xpow
      rw [show (fup (fup f 19 (upd (f 19) np (nI j))) 20 (upd (f 20) np a)) 19 np = nI j from xupd_i, ej]
    have e2 : xsp (fup (fup f 19 (upd (f 19) np (nI j))) 20 (upd (f 20) np a)) (fup jc 1 (upd (jc 1) np a)) np = 0 := by
      unfold xsp
      rw [if_pos (show (fup (fup f 19 (upd (f 19) np (nI j))) 20 (upd (f 20) np a)) 21 np = 0 from z21), show (fup (fup f 19 (upd (f 19) np (nI j))) 20 (upd (f 20) np a)) 20 np = a from xupd_i, show (fup jc 1 (upd (jc 1) np a)) 1 np = a from xupd_i, Int32.sub_self]
    unfold xPo
    rw [e1, e2, show (fup (fup f 19 (upd (f 19) np (nI j))) 20 (upd (f 20) np a)) 21 np = 0 from z21, show (fup jc 1 (upd (jc 1) np a)) 1 np = a from xupd_i]
  · congr 5
    funext q
    unfold xPr
    split
    · exact (z22 q (by assumption)).symm
    · rfl
  refine a_pop C dX6_postPayment_45 rfl ?_
  have hP1 : ∀ i, i < np + 1 → ∃ k, k < nc ∧ (fup (fup f 19 (upd (f 19) np (nI j))) 20 (upd (f 20) np a)) 19 i = nI k := fun i hi => by
    by_cases e : i = np
    · exact ⟨j, hj, by rw [e]; exact xupd_i⟩
    · obtain ⟨k, k1, k2⟩ := hP i (by omega)
      exact ⟨k, k1, (xud e).trans k2⟩
  have ha0 : 0 ≤ a.toInt := by
    have h1 := i32_le.mp hx1.1
    have h2 : (1 : Int32).toInt = 1 := rfl
    omega
  refine a_aload_n (i := 0) C dX6_postPayment_46 rfl rfl ?_
  refine a_aload (i := 4) C dX6_postPayment_47 rfl ?_
  refine a_callV C dX6_postPayment_49 cv_X6_allocateByRule tb572 (m_X6_allocAR hflags (np := np + 1) (f := (fup (fup f 19 (upd (f 19) np (nI j))) 20 (upd (f 20) np a))) (jc := (fup jc 1 (upd (jc 1) np a))) ⟨hc6, hi24, hnp, hl16⟩ (p := np) (w := j) (nup (nup n 0 0) 4 (nI (np + 1))) (Nat.lt_succ_self np) xupd_i hj hO hP1 (fun z => absurd z21 z) hW (by show 0 ≤ (upd (f 20) np a np).toInt; rw [xupd_i]; exact ha0) hl hbs) rfl rfl xC_0 rfl (Nat.le_of_ble_eq_true rfl) ⟨Nat.le_of_ble_eq_true rfl, Nat.le_of_ble_eq_true rfl⟩ ⟨(by show _ ≤ 6 + lCel nl (mAR ni nl np j (nup (nup n 0 0) 4 (nI (np + 1))) (fup (fup f 19 (upd (f 19) np (nI j))) 20 (upd (f 20) np a)) g).2.1; omega), (by show _ ≤ 80 + lSlt nl (mAR ni nl np j (nup (nup n 0 0) 4 (nI (np + 1))) (fup (fup f 19 (upd (f 19) np (nI j))) 20 (upd (f 20) np a)) g).2.1; omega)⟩ (fun _ h => Or.inr ⟨Nat.le_trans (by decide) h.1, h.2⟩) ⟨fun q hq j9 hj9 => (by simp only [List.mem_cons, List.not_mem_nil, or_false] at hq; rcases hq with rfl | rfl | rfl | rfl | rfl <;> first | exact Value.noConfusion hj9 | exact xnwD_no (by omega) (Value.ref.inj hj9)), fun v hv => nomatch hv⟩ (fun _ _ h => h.elim) (fun r49 hp49 hq49 => ?_)
  obtain ⟨rfl, rfl⟩ := hq49
  refine a_pop C dX6_postPayment_52 rfl ?_
  refine a_aload_n (i := 0) C dX6_postPayment_53 rfl rfl ?_
  refine a_get C dX6_postPayment_54 fl_X6_19 xC_0 rfl ?_
  refine a_callV C dX6_postPayment_57 cv_Jx4a65c_size_8abf5 tb142 (m_Jx4a65c_size_8abf5 hflags xC_3) rfl rfl xC_3 rfl (Nat.le_of_ble_eq_true rfl) ⟨Nat.le_of_ble_eq_true rfl, Nat.le_of_ble_eq_true rfl⟩ ⟨(by show _ ≤ 6 + lCel nl _; omega), (by show _ ≤ 80 + lSlt nl _; omega)⟩ (fun _ h => h.elim) xav_no (fun _ _ h => h.elim) (fun r57 hp57 hq57 => ?_)
  obtain ⟨rfl, rfl⟩ := hq57
  refine a_iconst (v := 1) C dX6_postPayment_60 (by decide) ?_
  refine a_isub C dX6_postPayment_61 ?_
  refine a_top (nI np) (nI_pred np) ?_
  exact a_iret C dX6_postPayment_62 (by show _ ≤ 6 + lCel nl _; omega) (by show _ ≤ 80 + lSlt nl _; omega) (hret _ _ (by unfold cP o_postPayment; rw [if_neg (fun z => z (xin_of hj (by omega))), if_neg (fun z => z hx1), if_neg (show ¬ np = 24 by omega), ej]; exact ⟨mAR_nn (Or.inl rfl), rfl, _, _, congrArg (fun z => xC h nc ni (np + 1) (mAR ni nl np j (nup (nup n 0 0) 4 (nI (np + 1))) (fup (fup f 19 (upd (f 19) np (nI j))) 20 (upd (f 20) np a)) g).2.1 z (mAR ni nl np j (nup (nup n 0 0) 4 (nI (np + 1))) (fup (fup f 19 (upd (f 19) np (nI j))) 20 (upd (f 20) np a)) g).2.2.2.1 (mAR ni nl np j (nup (nup n 0 0) 4 (nI (np + 1))) (fup (fup f 19 (upd (f 19) np (nI j))) 20 (upd (f 20) np a)) g).2.2.2.2 (cPJ ni (fup (fup f 19 (upd (f 19) np (nI j))) 20 (upd (f 20) np a)) (fup jc 1 (upd (jc 1) np a)) jr j ((fup (fup f 19 (upd (f 19) np (nI j))) 20 (upd (f 20) np a)) 20 np)).1 (cPJ ni (fup (fup f 19 (upd (f 19) np (nI j))) 20 (upd (f 20) np a)) (fup jc 1 (upd (jc 1) np a)) jr j ((fup (fup f 19 (upd (f 19) np (nI j))) 20 (upd (f 20) np a)) 20 np)).2) (mAR_nn (n := (nup (nup n 0 0) 4 (nI (np + 1)))) (Or.inr rfl)).symm⟩))
