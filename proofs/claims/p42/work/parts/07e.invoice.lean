theorem mEn_0 {ni nl : Nat} {a : Int32} {n : Nat → Int32} : mEn ni nl a n 0 = n 0 := mWn_0
theorem mEn_1 {ni nl : Nat} {a : Int32} {n : Nat → Int32} : mEn ni nl a n 1 = n 1 := mWn_1
theorem drp_s {f : Nat → Nat → Int32} {g : Nat → Nat → Int64} {i j : Nat} (h : f 10 i = nI j) (hj : j < 2 ^ 31) : gup (gup g 15 (xpreL (xdrp f g (nI j)) (g 15) i)) 15 (vp_updL ((gup g 15 (xpreL (xdrp f g (nI j)) (g 15) i)) 15) i ((gup g 15 (xpreL (xdrp f g (nI j)) (g 15) i)) 15 i - (xac f (gup g 15 (xpreL (xdrp f g (nI j)) (g 15) i)) i).toInt64 * xun (f 7 (xow f i)))) = gup g 15 (xpreL (xdrp f g (nI j)) (g 15) (i + 1)) := by
  rw [gup_gg, gup_s, ← xpreL_s]
  congr 2
  unfold xac xdrp
  rw [gup_s, xpreL_ge (Nat.le_refl i), if_pos h, xow_eq h hj, nI_clamp hj]
  unfold xac
  rw [xow_eq h hj]
theorem xpreL_k {t o : Nat → Int64} {i : Nat} (h : t i = o i) : xpreL t o i = xpreL t o (i + 1) := by
  rw [← xpreL_s, h]
  funext q
  unfold vp_updL xpreL
  by_cases hq : q = i
  · subst hq
    rw [if_neg (Nat.lt_irrefl q), if_pos rfl]
  · rw [if_neg hq]
theorem drp_n {f : Nat → Nat → Int32} {g : Nat → Nat → Int64} {i : Nat} {c : Int32} (h : ¬ f 10 i = c) : xpreL (xdrp f g c) (g 15) i = xpreL (xdrp f g c) (g 15) (i + 1) := xpreL_k (by
  unfold xdrp
  rw [if_neg h, Int64.sub_zero])
theorem xr_6z {a : Int32} : a - 0 - a = 0 := by grind
set_option maxRecDepth 100000 in
set_option maxHeartbeats 4000000 in
theorem m_X6_enterInvoice {l : Launch} {N0 : Nat} {D : va_G} {dT : Nat → ClassId} (hflags : l.stackTraces = false) {h : xH} {nc ni np nl : Nat} {n : Nat → Int32} {f : Nat → Nat → Int32} {g : Nat → Nat → Int64} {jc : Nat → Nat → Int32} {jr : Nat → Int64} (hB : nc ≤ 6 ∧ ni ≤ 24 ∧ np ≤ 24 ∧ nl ≤ 16000) {k : Nat} {a d b : Int32} (hk : k < nc) (hni : ni < 24) (z14 : f 14 ni = 0) (z17 : f 17 ni = 0) (z18 : f 18 ni = 0) (z15 : g 15 ni = 0) (hl : nl < 16000) (hO : ∀ i, i < ni → xow f i < nc) (hP : ∀ i, i < np → xpow f i < nc) (hbs : xBs h)  : xMet l N0 D dT yX6_enterInvoice cX6_enterInvoice 3 (some FieldType.int) 7 (1 + lCel nl (mWl nl a)) (33 + lSlt nl (mWl nl a)) [.ref 0, .ref (32 + ni)] ((xup (xC h nc ni np nl (n 1) f g jc jr) (32 + ni) (.inr (2, [.ref (16 + k), .int a, .int d, .int b, .int 0, .int 0, .int 0, .int 0, .int 0, .long 0])))) xnwG (fun r h' => r = some (.int (nI ni)) ∧ h' = xC h nc (ni + 1) np (mWl nl a) (n 1) (mWf nl ni a (fup (fup (fup (fup (fup f 10 (upd (f 10) ni (nI k))) 11 (upd (f 11) ni a)) 12 (upd (f 12) ni d)) 13 (upd (f 13) ni a)) 16 (upd (f 16) ni b))) g (fup jc 0 (upd (jc 0) ni 0)) jr) xNX := by
  refine xMet_of hflags (by decide +kernel) (fun j h1 h2 => by omega) (Nat.le_of_ble_eq_true rfl) ?_
  intro E C I hret hthr
  refine a_loc [(0, .ref 0), (1, .ref (32 + ni))] (xsub_cons rfl (xsub_cons rfl (xsub_nil))) ?_
  obtain ⟨hc6, hi24, hp24, hl16⟩ := id hB
  refine a_aload_n (i := 0) C dX6_enterInvoice_0 rfl rfl ?_
  refine a_get C dX6_enterInvoice_1 fl_X6_16 ((xup_n (by omega)).trans xC_0) rfl ?_
  refine a_callV C dX6_enterInvoice_4 cv_Jx4a65c_size_8abf5 tb142 (m_Jx4a65c_size_8abf5 hflags ((xup_n (by omega)).trans xC_2)) rfl rfl ((xup_n (by omega)).trans xC_2) rfl (Nat.le_of_ble_eq_true rfl) ⟨Nat.le_of_ble_eq_true rfl, Nat.le_of_ble_eq_true rfl⟩ ⟨(by show _ ≤ 1 + lCel nl _; omega), (by show _ ≤ 33 + lSlt nl _; omega)⟩ (fun _ h => h.elim) xav_no (fun _ _ h => h.elim) (fun r4 hp4 hq4 => ?_)
  obtain ⟨rfl, rfl⟩ := hq4
  refine a_istore_n (i := 2) C dX6_enterInvoice_7 rfl (by decide) ?_
  refine a_aload_n (i := 0) C dX6_enterInvoice_8 rfl rfl ?_
  refine a_get C dX6_enterInvoice_9 fl_X6_16 ((xup_n (by omega)).trans xC_0) rfl ?_
  refine a_aload_n (i := 1) C dX6_enterInvoice_12 rfl rfl ?_
  refine a_loc [(0, .ref 0), (1, .ref (32 + ni)), (2, .int (nI ni))] (xsub_cons rfl (xsub_cons rfl (xsub_cons rfl (xsub_nil)))) ?_
  refine a_callV C dX6_enterInvoice_13 cv_Jx4a65c_add_9ea2d tb282 (m_addC hflags (L := 2) (B := 10) (base := 32) (c := ni) ((xup_n (by omega)).trans xC_2) (fun hz => (xup_n (by have := aAd_n (B := 10) hz; have := aGen_le ni; omega)).trans (xC_l2 hz)) (by omega) (by omega) (by omega) (by omega) (by omega) xup_s rfl tb947 (fun i hi => ⟨2, _, _, (xup_n (by omega)).trans (xC_in hi (by omega)), rfl, tb947⟩) (fun hd j e hj he => xnr_up (fun j e _ he => fr_l hB hbs hO hP (Or.inr (Or.inl ⟨rfl, rfl⟩)) hd j e he) (xnr_o (fun y hy => by simp only [List.mem_cons, List.not_mem_nil, or_false] at hy; rcases hy with rfl | rfl | rfl | rfl | rfl | rfl | rfl | rfl | rfl | rfl <;> first | exact fun z => Value.noConfusion z | exact xnwO_no (by have := aAd_n (B := 10) (c := ni + 1) (by omega); omega))) j e hj he)) rfl rfl ((xup_n (by omega)).trans xC_2) rfl (Nat.le_of_ble_eq_true rfl) ⟨Nat.le_of_ble_eq_true rfl, Nat.le_of_ble_eq_true rfl⟩ ⟨(by show _ ≤ 1 + lCel nl _; omega), (by show _ ≤ 33 + lSlt nl _; omega)⟩ (fun j hj => by obtain ⟨e, -⟩ := hj; have q1 := aAd_n (B := 10) (c := ni + 1) (by omega); have q2 := aGen_le (ni + 1); subst e; first | exact Or.inr ⟨by omega, by omega⟩ | exact ⟨by omega, by omega⟩) ⟨fun q hq j hj => (by simp only [List.mem_cons, List.not_mem_nil, or_false] at hq; rcases hq with rfl | rfl | rfl <;> first | exact Value.noConfusion hj | exact fun z => nadd (by omega) z (Value.ref.inj hj)), fun y hy => nomatch hy⟩ (fun _ _ h => h.elim) (fun r13 hp13 hq13 => ?_)
  obtain ⟨rfl, hL9, hA9, ho9⟩ := hq13
  refine aW_sub (xC_addI (c := nI k) (a := a) (d := d) (b := b) hc6 hi24 hp24 hni hL9 hA9 ((ho9 _ (by omega) (by have := aAd_n (B := 10) (c := ni + 1) (by omega); omega)).trans (xup_s.trans ?_)) (fun j h1 h2 h3 => (ho9 j h1 h2).trans (xup_n h3))) ?_
  · unfold xIo xpd
    rw [show (fup (fup (fup (fup (fup f 10 (upd (f 10) ni (nI k))) 11 (upd (f 11) ni a)) 12 (upd (f 12) ni d)) 13 (upd (f 13) ni a)) 16 (upd (f 16) ni b)) 11 ni = a from xupd_i, show (fup (fup (fup (fup (fup f 10 (upd (f 10) ni (nI k))) 11 (upd (f 11) ni a)) 12 (upd (f 12) ni d)) 13 (upd (f 13) ni a)) 16 (upd (f 16) ni b)) 12 ni = d from xupd_i, show (fup (fup (fup (fup (fup f 10 (upd (f 10) ni (nI k))) 11 (upd (f 11) ni a)) 12 (upd (f 12) ni d)) 13 (upd (f 13) ni a)) 16 (upd (f 16) ni b)) 13 ni = a from xupd_i, show (fup (fup (fup (fup (fup f 10 (upd (f 10) ni (nI k))) 11 (upd (f 11) ni a)) 12 (upd (f 12) ni d)) 13 (upd (f 13) ni a)) 16 (upd (f 16) ni b)) 16 ni = b from xupd_i, show xow (fup (fup (fup (fup (fup f 10 (upd (f 10) ni (nI k))) 11 (upd (f 11) ni a)) 12 (upd (f 12) ni d)) 13 (upd (f 13) ni a)) 16 (upd (f 16) ni b)) ni = k from xow_eq (xupd_i) (by omega), show (fup (fup (fup (fup (fup f 10 (upd (f 10) ni (nI k))) 11 (upd (f 11) ni a)) 12 (upd (f 12) ni d)) 13 (upd (f 13) ni a)) 16 (upd (f 16) ni b)) 14 ni = 0 from z14, show (fup (fup (fup (fup (fup f 10 (upd (f 10) ni (nI k))) 11 (upd (f 11) ni a)) 12 (upd (f 12) ni d)) 13 (upd (f 13) ni a)) 16 (upd (f 16) ni b)) 17 ni = 0 from z17, show (fup (fup (fup (fup (fup f 10 (upd (f 10) ni (nI k))) 11 (upd (f 11) ni a)) 12 (upd (f 12) ni d)) 13 (upd (f 13) ni a)) 16 (upd (f 16) ni b)) 18 ni = 0 from z18, z15, show (fup jc 0 (upd (jc 0) ni 0)) 0 ni = 0 from xupd_i, xr_6z]
  have hO1 : ∀ i, i < ni + 1 → xow (fup (fup (fup (fup (fup f 10 (upd (f 10) ni (nI k))) 11 (upd (f 11) ni a)) 12 (upd (f 12) ni d)) 13 (upd (f 13) ni a)) 16 (upd (f 16) ni b)) i < nc := fun i hi => by
    by_cases e : i = ni
    · rw [e, show xow (fup (fup (fup (fup (fup f 10 (upd (f 10) ni (nI k))) 11 (upd (f 11) ni a)) 12 (upd (f 12) ni d)) 13 (upd (f 13) ni a)) 16 (upd (f 16) ni b)) ni = k from xow_eq xupd_i (by omega)]
      exact hk
    · rw [show xow (fup (fup (fup (fup (fup f 10 (upd (f 10) ni (nI k))) 11 (upd (f 11) ni a)) 12 (upd (f 12) ni d)) 13 (upd (f 13) ni a)) 16 (upd (f 16) ni b)) i = xow f i from congrArg Int32.toNatClampNeg (xud e)]
      exact hO i (by omega)
  refine a_pop C dX6_enterInvoice_16 rfl ?_
  refine a_aload_n (i := 0) C dX6_enterInvoice_17 rfl rfl ?_
  refine a_get C dX6_enterInvoice_18 fl_X6_25 xC_0 rfl ?_
  refine a_iload_n (i := 2) C dX6_enterInvoice_21 rfl rfl ?_
  refine a_aload_n (i := 1) C dX6_enterInvoice_22 rfl rfl ?_
  refine a_get C dX6_enterInvoice_23 fl_X6_150 (xC_in (by omega) (by omega)) (congrArg (fun z => some (Value.int z)) xupd_i) ?_
  refine a_callV C dX6_enterInvoice_26 cv_X3_write tb500 (m_X3_write hflags (ni := ni + 1) (f := (fup (fup (fup (fup (fup f 10 (upd (f 10) ni (nI k))) 11 (upd (f 11) ni a)) 12 (upd (f 12) ni d)) 13 (upd (f 13) ni a)) 16 (upd (f 16) ni b))) (jc := (fup jc 0 (upd (jc 0) ni 0))) ⟨hc6, hni, hp24, hl16⟩ hl hbs hO1 hP) rfl rfl xC_7 rfl (Nat.le_of_ble_eq_true rfl) ⟨Nat.le_of_ble_eq_true rfl, Nat.le_of_ble_eq_true rfl⟩ ⟨(by show _ ≤ 1 + lCel nl _; omega), (by show _ ≤ 33 + lSlt nl _; omega)⟩ (fun _ hj => ⟨Nat.le_trans (by decide) hj.1, hj.2⟩) ⟨fun q hq j hj => (by simp only [List.mem_cons, List.not_mem_nil, or_false] at hq; rcases hq with rfl | rfl | rfl <;> first | exact Value.noConfusion hj | exact xnwD_no (by omega) (Value.ref.inj hj)), fun v hv => nomatch hv⟩ (fun _ _ h => h.elim) (fun r26 hp26 hq26 => ?_)
  obtain ⟨rfl, rfl⟩ := hq26
  refine a_iload_n (i := 2) C dX6_enterInvoice_29 rfl rfl ?_
  exact a_iret C dX6_enterInvoice_30 (by show _ ≤ 1 + lCel nl _; omega) (by show _ ≤ 33 + lSlt nl _; omega) (hret _ _ ⟨rfl, rfl⟩)
set_option maxRecDepth 100000 in
set_option maxHeartbeats 4000000 in
theorem m_X6_postInvoice {l : Launch} {N0 : Nat} {D : va_G} {dT : Nat → ClassId} (hflags : l.stackTraces = false) {h : xH} {nc ni np nl : Nat} {n : Nat → Int32} {f : Nat → Nat → Int32} {g : Nat → Nat → Int64} {jc : Nat → Nat → Int32} {jr : Nat → Int64} (hB : nc ≤ 6 ∧ ni ≤ 24 ∧ np ≤ 24 ∧ nl ≤ 16000) {w a t : Int32} (z14 : f 14 ni = 0) (z17 : f 17 ni = 0) (z18 : f 18 ni = 0) (z15 : g 15 ni = 0) (hl : nl < 16000) (hO : ∀ i, i < ni → ∃ k, k < nc ∧ f 10 i = nI k) (hP : ∀ i, i < np → ∃ k, k < nc ∧ f 19 i = nI k) (hbs : xBs h)  : xMet l N0 D dT yX6_postInvoice cX6_postInvoice 5 (some FieldType.int) 9 (6 + lCel nl (mWl nl a)) (67 + lSlt nl (mWl nl a)) [.ref 0, .int w, .int a, .int t] (xC h nc ni np nl (n 1) f g jc jr) xnwB (cP h nc (ni + 1) np (mWl nl a) (o_postInvoice nc ni nl w a t n f g)) (cX (xC h nc ni np nl (n 1) f g jc jr) [("java/lang/IndexOutOfBoundsException", (1 : Int32)), ("java/lang/IllegalArgumentException", (2 : Int32)), ("java/lang/IllegalStateException", (3 : Int32))] (o_postInvoice nc ni nl w a t n f g)) := by
  refine xMet_of hflags (by decide +kernel) (fun j h1 h2 => by omega) (Nat.le_of_ble_eq_true rfl) ?_
  intro E C I hret hthr
  refine a_loc [(0, .ref 0), (1, .int w), (2, .int a), (3, .int t)] (xsub_cons rfl (xsub_cons rfl (xsub_cons rfl (xsub_cons rfl (xsub_nil))))) ?_
  obtain ⟨hc6, hi24, hp24, hl16⟩ := id hB
  refine a_aload_n (i := 0) C dX6_postInvoice_0 rfl rfl ?_
  refine a_iload_n (i := 1) C dX6_postInvoice_1 rfl rfl ?_
  refine a_callV C dX6_postInvoice_2 cv_X6_customerAt tb349 (m_X6_customerAt hflags hB) rfl rfl xC_0 rfl (Nat.le_of_ble_eq_true rfl) ⟨Nat.le_of_ble_eq_true rfl, Nat.le_of_ble_eq_true rfl⟩ ⟨(by show _ ≤ 6 + lCel nl (mWl nl a); omega), (by show _ ≤ 67 + lSlt nl (mWl nl a); omega)⟩ (fun _ h => h.elim) xav_no (fun _ _ ⟨e1, e2, e3⟩ => by subst e1; subst e2; exact a_out C (fun _ h => nomatch h) (hthr _ _ ⟨rfl, by unfold o_postInvoice; rw [if_pos e3]; exact (List.Mem.head _)⟩) (by show _ ≤ 6 + lCel nl (mWl nl a); omega) (by show _ ≤ 67 + lSlt nl (mWl nl a); omega)) (fun r2 hp2 hq2 => ?_)
  obtain ⟨j, hj, rfl, rfl, rfl⟩ := hq2
  refine a_astore (i := 4) C dX6_postInvoice_5 (by decide) ?_
  refine a_iload_n (i := 2) C dX6_postInvoice_7 rfl rfl ?_
  refine a_iconst (v := 1) C dX6_postInvoice_8 (by decide) ?_
  refine a_ldc C dX6_postInvoice_9 tb454 ?_
  refine a_callS C dX6_postInvoice_11 cs_X6_requireRange tb168 (m_X6_requireRange hflags) rfl rfl (Nat.le_of_ble_eq_true rfl) ⟨Nat.le_of_ble_eq_true rfl, Nat.le_of_ble_eq_true rfl⟩ ⟨(by show _ ≤ 6 + lCel nl (mWl nl a); omega), (by show _ ≤ 67 + lSlt nl (mWl nl a); omega)⟩ (fun _ h => h.elim) xav_no (fun _ _ ⟨e1, e2, e3⟩ => by subst e1; subst e2; exact a_out C (fun _ h => nomatch h) (hthr _ _ ⟨rfl, by unfold o_postInvoice; rw [if_neg (fun z => z (xin_of hj (by omega))), if_pos (fun z => e3 z.1)]; exact (List.Mem.tail _ (List.Mem.head _))⟩) (by show _ ≤ 6 + lCel nl (mWl nl a); omega) (by show _ ≤ 67 + lSlt nl (mWl nl a); omega)) (fun r11 hp11 hq11 => ?_)
  obtain ⟨rfl, rfl, hx1⟩ := hq11
  refine a_iload_n (i := 3) C dX6_postInvoice_14 rfl rfl ?_
  refine a_iconst (v := 0) C dX6_postInvoice_15 (by decide) ?_
  refine a_bipush (v := 120) C dX6_postInvoice_16 (by decide) ?_
  refine a_callS C dX6_postInvoice_18 cs_X6_requireRange tb168 (m_X6_requireRange hflags) rfl rfl (Nat.le_of_ble_eq_true rfl) ⟨Nat.le_of_ble_eq_true rfl, Nat.le_of_ble_eq_true rfl⟩ ⟨(by show _ ≤ 6 + lCel nl (mWl nl a); omega), (by show _ ≤ 67 + lSlt nl (mWl nl a); omega)⟩ (fun _ h => h.elim) xav_no (fun _ _ ⟨e1, e2, e3⟩ => by subst e1; subst e2; exact a_out C (fun _ h => nomatch h) (hthr _ _ ⟨rfl, by unfold o_postInvoice; rw [if_neg (fun z => z (xin_of hj (by omega))), if_pos (fun z => e3 z.2)]; exact (List.Mem.tail _ (List.Mem.head _))⟩) (by show _ ≤ 6 + lCel nl (mWl nl a); omega) (by show _ ≤ 67 + lSlt nl (mWl nl a); omega)) (fun r18 hp18 hq18 => ?_)
  obtain ⟨rfl, rfl, hx2⟩ := hq18
  refine a_aload_n (i := 0) C dX6_postInvoice_21 rfl rfl ?_
  refine a_get C dX6_postInvoice_22 fl_X6_16 xC_0 rfl ?_
  refine a_callV C dX6_postInvoice_25 cv_Jx4a65c_size_8abf5 tb142 (m_Jx4a65c_size_8abf5 hflags xC_2) rfl rfl xC_2 rfl (Nat.le_of_ble_eq_true rfl) ⟨Nat.le_of_ble_eq_true rfl, Nat.le_of_ble_eq_true rfl⟩ ⟨(by show _ ≤ 6 + lCel nl (mWl nl a); omega), (by show _ ≤ 67 + lSlt nl (mWl nl a); omega)⟩ (fun _ h => h.elim) xav_no (fun _ _ h => h.elim) (fun r25 hp25 hq25 => ?_)
  obtain ⟨rfl, rfl⟩ := hq25
  refine a_bipush (v := 24) C dX6_postInvoice_28 (by decide) ?_
  refine a_callS C dX6_postInvoice_30 cs_X6_requireRoom tb239 (m_X6_requireRoom hflags) rfl rfl (Nat.le_of_ble_eq_true rfl) ⟨Nat.le_of_ble_eq_true rfl, Nat.le_of_ble_eq_true rfl⟩ ⟨(by show _ ≤ 6 + lCel nl (mWl nl a); omega), (by show _ ≤ 67 + lSlt nl (mWl nl a); omega)⟩ (fun _ h => h.elim) xav_no (fun _ _ ⟨e1, e2, e3⟩ => by subst e1; subst e2; exact a_out C (fun _ h => nomatch h) (hthr _ _ ⟨rfl, by unfold o_postInvoice; rw [if_neg (fun z => z (xin_of hj (by omega))), if_neg (fun z => z ⟨hx1, hx2⟩), if_pos (show ni = 24 by have := mt (nI_ltI (a := ni) (b := 24) (by omega) (by omega)).mpr e3; omega)]; exact (List.Mem.tail _ (List.Mem.tail _ (List.Mem.head _)))⟩) (by show _ ≤ 6 + lCel nl (mWl nl a); omega) (by show _ ≤ 67 + lSlt nl (mWl nl a); omega)) (fun r30 hp30 hq30 => ?_)
  obtain ⟨rfl, rfl, hx4⟩ := hq30
  have hni : ni < 24 := (nI_ltI (a := ni) (b := 24) (by omega) (by omega)).mp hx4
  have hOw := xow_lt hO hc6
  have hPw := pow_lt hP hc6
  refine a_loc [(0, .ref 0), (1, .int (nI j)), (2, .int a), (3, .int t), (4, .ref (16 + j))] (xsub_cons rfl (xsub_cons rfl (xsub_cons rfl (xsub_cons rfl (xsub_cons rfl (xsub_nil)))))) ?_
  refine a_aload_n (i := 0) C dX6_postInvoice_33 rfl rfl ?_
  refine a_new C (32 + ni) (ci := 2) (T := TX2) (ty := tyX2) (fs := zX2) dX6_postInvoice_34 tb409 tb441 tb43 in_X2 tyX2_ok rfl nf_X2 nr_X2 (Or.inl ⟨by omega, by omega⟩) ⟨fun j e _ he => fr_o hB hbs hOw hPw (Or.inr (Or.inl rfl)) j e he, fun q hq => (by simp only [List.mem_cons, List.not_mem_nil, or_false] at hq; rcases hq with rfl | rfl | rfl | rfl | rfl <;> first | exact fun z => Value.noConfusion z | exact xnwO_no (by omega)), fun v hv => (by simp only [Option.toList, List.append_eq, List.nil_append, List.append_nil, List.mem_cons, List.not_mem_nil, or_false] at hv; rcases hv with rfl <;> first | exact fun z => Value.noConfusion z | exact xnwO_no (by omega))⟩ (by show _ ≤ 6 + lCel nl _; omega) (by show _ ≤ 67 + lSlt nl _; omega) ?_
  refine a_dup C dX6_postInvoice_37 rfl ?_
  refine a_aload (i := 4) C dX6_postInvoice_38 rfl ?_
  refine a_iload_n (i := 2) C dX6_postInvoice_40 rfl rfl ?_
  refine a_aload_n (i := 0) C dX6_postInvoice_41 rfl rfl ?_
  refine a_get C dX6_postInvoice_42 fl_X6_36 ((xup_n (by omega)).trans xC_0) rfl ?_
  refine a_iload_n (i := 3) C dX6_postInvoice_45 rfl rfl ?_
  refine a_iadd C dX6_postInvoice_46 ?_
  refine a_iconst (v := 0) C dX6_postInvoice_47 (by decide) ?_
  refine a_callI C dX6_postInvoice_48 ci_X2_init tb455 (m_X2_init hflags rfl rfl xup_s) rfl rfl (Nat.le_of_ble_eq_true rfl) ⟨Nat.le_of_ble_eq_true rfl, Nat.le_of_ble_eq_true rfl⟩ ⟨(by show _ ≤ 6 + lCel nl (mWl nl a); omega), (by show _ ≤ 67 + lSlt nl (mWl nl a); omega)⟩ (fun _ h => h.elim) xav_no (fun r48 hp48 hq48 => ?_)
  obtain ⟨rfl, rfl⟩ := hq48
  refine a_hp xup_uu ?_
  refine a_callV C dX6_postInvoice_51 cv_X6_enterInvoice tb496 (m_X6_enterInvoice hflags (a := a) (d := n 1 + t) (b := 0) hB hj hni z14 z17 z18 z15 hl hOw hPw hbs) rfl rfl ((xup_n (by omega)).trans xC_0) rfl (Nat.le_of_ble_eq_true rfl) ⟨Nat.le_of_ble_eq_true rfl, Nat.le_of_ble_eq_true rfl⟩ ⟨(by show _ ≤ 6 + lCel nl (mWl nl a); omega), (by show _ ≤ 67 + lSlt nl (mWl nl a); omega)⟩ (fun _ hj => Or.inr hj) ⟨fun q hq j hj => (by simp only [List.mem_cons, List.not_mem_nil, or_false] at hq; rcases hq with rfl | rfl | rfl | rfl | rfl <;> first | exact Value.noConfusion hj | exact xnwG_no (by omega) (Value.ref.inj hj)), fun v hv => nomatch hv⟩ (fun _ _ h => h.elim) (fun r51 hp51 hq51 => ?_)
  obtain ⟨rfl, rfl⟩ := hq51
  exact a_iret C dX6_postInvoice_54 (by show _ ≤ 6 + lCel nl _; omega) (by show _ ≤ 67 + lSlt nl _; omega) (hret _ _ (by unfold cP o_postInvoice; rw [if_neg (fun z => z (xin_of hj (by omega))), if_neg (fun z => z ⟨hx1, hx2⟩), if_neg (show ¬ ni = 24 by omega)]; exact ⟨mEn_0 (ni := ni), rfl, _, jr, congrArg (fun z => xC h nc (ni + 1) np (mWl nl a) z (mEf ni nl (nI j) a t 0 n f) g (fup jc 0 (upd (jc 0) ni 0)) jr) (mEn_1 (ni := ni) (n := nup n 0 0)).symm⟩))
set_option maxRecDepth 100000 in
set_option maxHeartbeats 4000000 in
theorem m_X6_chargeInterest {l : Launch} {N0 : Nat} {D : va_G} {dT : Nat → ClassId} (hflags : l.stackTraces = false) {h : xH} {nc ni np nl : Nat} {n : Nat → Int32} {f : Nat → Nat → Int32} {g : Nat → Nat → Int64} {jc : Nat → Nat → Int32} {jr : Nat → Int64} (hB : nc ≤ 6 ∧ ni ≤ 24 ∧ np ≤ 24 ∧ nl ≤ 16000) {w t : Int32} (z14 : f 14 ni = 0) (z17 : f 17 ni = 0) (z18 : f 18 ni = 0) (z15 : g 15 ni = 0) (hl : nl < 16000) (hs0 : 0 ≤ (xsum (xacs f g w) ni)) (hO : ∀ i, i < ni → ∃ k, k < nc ∧ f 10 i = nI k) (hP : ∀ i, i < np → ∃ k, k < nc ∧ f 19 i = nI k) (hbs : xBs h)  : xMet l N0 D dT yX6_chargeInterest cX6_chargeInterest 7 (some FieldType.int) 9 (6 + lCel nl (mWl nl (xsum (xacs f g w) ni))) (67 + lSlt nl (mWl nl (xsum (xacs f g w) ni))) [.ref 0, .int w, .int t] (xC h nc ni np nl (n 1) f g jc jr) xnwB (fun r h' => cP h nc (if (xsum (xacs f g w) ni) = 0 then ni else ni + 1) np (mWl nl (xsum (xacs f g w) ni)) (o_charge nc ni nl w t n f g) r h') (cX (xC h nc ni np nl (n 1) f g jc jr) [("java/lang/IndexOutOfBoundsException", (1 : Int32)), ("java/lang/IllegalArgumentException", (2 : Int32)), ("java/lang/IllegalStateException", (3 : Int32))] (o_charge nc ni nl w t n f g)) := by
  refine xMet_of hflags (by decide +kernel) (fun j h1 h2 => by omega) (Nat.le_of_ble_eq_true rfl) ?_
  intro E C I hret hthr
  refine a_loc [(0, .ref 0), (1, .int w), (2, .int t)] (xsub_cons rfl (xsub_cons rfl (xsub_cons rfl (xsub_nil)))) ?_
  obtain ⟨hc6, hi24, hp24, hl16⟩ := id hB
  refine a_aload_n (i := 0) C dX6_chargeInterest_0 rfl rfl ?_
  refine a_iload_n (i := 1) C dX6_chargeInterest_1 rfl rfl ?_
  refine a_callV C dX6_chargeInterest_2 cv_X6_customerAt tb349 (m_X6_customerAt hflags hB) rfl rfl xC_0 rfl (Nat.le_of_ble_eq_true rfl) ⟨Nat.le_of_ble_eq_true rfl, Nat.le_of_ble_eq_true rfl⟩ ⟨(by show _ ≤ 6 + lCel nl (mWl nl (xsum (xacs f g w) ni)); omega), (by show _ ≤ 67 + lSlt nl (mWl nl (xsum (xacs f g w) ni)); omega)⟩ (fun _ h => h.elim) xav_no (fun _ _ ⟨e1, e2, e3⟩ => by subst e1; subst e2; exact a_out C (fun _ h => nomatch h) (hthr _ _ ⟨rfl, by unfold o_charge; rw [if_pos e3]; exact (List.Mem.head _)⟩) (by show _ ≤ 6 + lCel nl (mWl nl (xsum (xacs f g w) ni)); omega) (by show _ ≤ 67 + lSlt nl (mWl nl (xsum (xacs f g w) ni)); omega)) (fun r2 hp2 hq2 => ?_)
  obtain ⟨j, hj, rfl, rfl, rfl⟩ := hq2
  refine a_astore_n (i := 3) C dX6_chargeInterest_5 rfl (by decide) ?_
  refine a_iload_n (i := 2) C dX6_chargeInterest_6 rfl rfl ?_
  refine a_iconst (v := 0) C dX6_chargeInterest_7 (by decide) ?_
  refine a_bipush (v := 120) C dX6_chargeInterest_8 (by decide) ?_
  refine a_callS C dX6_chargeInterest_10 cs_X6_requireRange tb168 (m_X6_requireRange hflags) rfl rfl (Nat.le_of_ble_eq_true rfl) ⟨Nat.le_of_ble_eq_true rfl, Nat.le_of_ble_eq_true rfl⟩ ⟨(by show _ ≤ 6 + lCel nl (mWl nl (xsum (xacs f g (nI j)) ni)); omega), (by show _ ≤ 67 + lSlt nl (mWl nl (xsum (xacs f g (nI j)) ni)); omega)⟩ (fun _ h => h.elim) xav_no (fun _ _ ⟨e1, e2, e3⟩ => by subst e1; subst e2; exact a_out C (fun _ h => nomatch h) (hthr _ _ ⟨rfl, by unfold o_charge; rw [if_neg (fun z => z (xin_of hj (by omega))), if_pos e3]; exact (List.Mem.tail _ (List.Mem.head _))⟩) (by show _ ≤ 6 + lCel nl (mWl nl (xsum (xacs f g (nI j)) ni)); omega) (by show _ ≤ 67 + lSlt nl (mWl nl (xsum (xacs f g (nI j)) ni)); omega)) (fun r10 hp10 hq10 => ?_)
  obtain ⟨rfl, rfl, hx1⟩ := hq10
  refine a_aload_n (i := 0) C dX6_chargeInterest_13 rfl rfl ?_
  refine a_aload_n (i := 3) C dX6_chargeInterest_14 rfl rfl ?_
  refine a_callV C dX6_chargeInterest_15 cv_X6_accruedOfAll tb689 (m_X6_accruedOfAll hflags hB hj hO) rfl rfl xC_0 rfl (Nat.le_of_ble_eq_true rfl) ⟨Nat.le_of_ble_eq_true rfl, Nat.le_of_ble_eq_true rfl⟩ ⟨(by show _ ≤ 6 + lCel nl (mWl nl (xsum (xacs f g (nI j)) ni)); omega), (by show _ ≤ 67 + lSlt nl (mWl nl (xsum (xacs f g (nI j)) ni)); omega)⟩ (fun _ h => h.elim) xav_no (fun _ _ h => h.elim) (fun r15 hp15 hq15 => ?_)
  obtain ⟨rfl, rfl⟩ := hq15
  refine a_istore (i := 4) C dX6_chargeInterest_18 (by decide) ?_
  refine a_iload (i := 4) C dX6_chargeInterest_20 rfl ?_
  refine a_if_ne (tgt := 27) C dX6_chargeInterest_22 (by decide) (fun c22 => ?_) (fun c22 => ?_)
  · have hpos : 0 < (xsum (xacs f g (nI j)) ni) := Int32.lt_of_le_of_ne hs0 (Ne.symm c22)
    refine a_aload_n (i := 0) C dX6_chargeInterest_27 rfl rfl ?_
    refine a_get C dX6_chargeInterest_28 fl_X6_16 xC_0 rfl ?_
    refine a_callV C dX6_chargeInterest_31 cv_Jx4a65c_size_8abf5 tb142 (m_Jx4a65c_size_8abf5 hflags xC_2) rfl rfl xC_2 rfl (Nat.le_of_ble_eq_true rfl) ⟨Nat.le_of_ble_eq_true rfl, Nat.le_of_ble_eq_true rfl⟩ ⟨(by show _ ≤ 6 + lCel nl (mWl nl (xsum (xacs f g (nI j)) ni)); omega), (by show _ ≤ 67 + lSlt nl (mWl nl (xsum (xacs f g (nI j)) ni)); omega)⟩ (fun _ h => h.elim) xav_no (fun _ _ h => h.elim) (fun r31 hp31 hq31 => ?_)
    obtain ⟨rfl, rfl⟩ := hq31
    refine a_bipush (v := 24) C dX6_chargeInterest_34 (by decide) ?_
    refine a_callS C dX6_chargeInterest_36 cs_X6_requireRoom tb239 (m_X6_requireRoom hflags) rfl rfl (Nat.le_of_ble_eq_true rfl) ⟨Nat.le_of_ble_eq_true rfl, Nat.le_of_ble_eq_true rfl⟩ ⟨(by show _ ≤ 6 + lCel nl (mWl nl (xsum (xacs f g (nI j)) ni)); omega), (by show _ ≤ 67 + lSlt nl (mWl nl (xsum (xacs f g (nI j)) ni)); omega)⟩ (fun _ h => h.elim) xav_no (fun _ _ ⟨e1, e2, e3⟩ => by subst e1; subst e2; exact a_out C (fun _ h => nomatch h) (hthr _ _ ⟨rfl, by unfold o_charge; rw [if_neg (fun z => z (xin_of hj (by omega))), if_neg (fun z => z hx1), if_pos (show 0 < (xsum (xacs f g (nI j)) ni) ∧ ni = 24 from ⟨hpos, by have := mt (nI_ltI (a := ni) (b := 24) (by omega) (by omega)).mpr e3; omega⟩)]; exact (List.Mem.tail _ (List.Mem.tail _ (List.Mem.head _)))⟩) (by show _ ≤ 6 + lCel nl (mWl nl (xsum (xacs f g (nI j)) ni)); omega) (by show _ ≤ 67 + lSlt nl (mWl nl (xsum (xacs f g (nI j)) ni)); omega)) (fun r36 hp36 hq36 => ?_)
    obtain ⟨rfl, rfl, hx4⟩ := hq36
    have hni : ni < 24 := (nI_ltI (a := ni) (b := 24) (by omega) (by omega)).mp hx4
    have hOw := xow_lt hO hc6
    have hPw := pow_lt hP hc6
    refine a_loc [(0, .ref 0), (1, .int (nI j)), (2, .int t), (3, .ref (16 + j)), (4, .int (xsum (xacs f g (nI j)) ni))] (xsub_cons rfl (xsub_cons rfl (xsub_cons rfl (xsub_cons rfl (xsub_cons rfl (xsub_nil)))))) ?_
    have loop : ∀ (k i : Nat), i ≤ ni → ni < i + k → aW E 3 18 (xC h nc ni np nl (n 1) f (gup g 15 (xpreL (xdrp f g (nI j)) (g 15) i)) jc jr) 42 [(0, .ref 0), (1, .int (nI j)), (2, .int t), (3, .ref (16 + j)), (4, .int (xsum (xacs f g (nI j)) ni)), (5, .int (nI i))] [] := by
      intro k
      induction k with
      | zero => intro i h1 h2; exact absurd h2 (by omega)
      | succ k ih =>
        intro i h1 h2
        refine a_iload (i := 5) C dX6_chargeInterest_42 rfl ?_
        refine a_aload_n (i := 0) C dX6_chargeInterest_44 rfl rfl ?_
        refine a_get C dX6_chargeInterest_45 fl_X6_16 xC_0 rfl ?_
        refine a_callV C dX6_chargeInterest_48 cv_Jx4a65c_size_8abf5 tb142 (m_Jx4a65c_size_8abf5 hflags xC_2) rfl rfl xC_2 rfl (Nat.le_of_ble_eq_true rfl) ⟨Nat.le_of_ble_eq_true rfl, Nat.le_of_ble_eq_true rfl⟩ ⟨(by show _ ≤ 6 + lCel nl (mWl nl (xsum (xacs f g (nI j)) ni)); omega), (by show _ ≤ 67 + lSlt nl (mWl nl (xsum (xacs f g (nI j)) ni)); omega)⟩ (fun _ h => h.elim) xav_no (fun _ _ h => h.elim) (fun r48 hp48 hq48 => ?_)
        obtain ⟨rfl, rfl⟩ := hq48
        refine a_icmp_ge (tgt := 88) C dX6_chargeInterest_51 (by decide) (fun c51 => ?_) (fun c51 => ?_)
        · have hie : i = ni := by
            have := (xle (by omega) (by omega)).mp c51
            omega
          rw [hie]
          refine a_loc [(0, .ref 0), (1, .int (nI j)), (2, .int t), (3, .ref (16 + j)), (4, .int (xsum (xacs f g (nI j)) ni)), (5, .int (nI ni))] (xsub_cons rfl (xsub_cons rfl (xsub_cons rfl (xsub_cons rfl (xsub_cons rfl (xsub_cons rfl (xsub_nil))))))) ?_
          refine a_aload_n (i := 0) C dX6_chargeInterest_88 rfl rfl ?_
          refine a_new C (32 + ni) (ci := 2) (T := TX2) (ty := tyX2) (fs := zX2) dX6_chargeInterest_89 tb409 tb441 tb43 in_X2 tyX2_ok rfl nf_X2 nr_X2 (Or.inl ⟨by omega, by omega⟩) ⟨fun j e _ he => fr_o hB hbs hOw hPw (Or.inr (Or.inl rfl)) j e he, fun q hq => (by simp only [List.mem_cons, List.not_mem_nil, or_false] at hq; rcases hq with rfl | rfl | rfl | rfl | rfl | rfl <;> first | exact fun z => Value.noConfusion z | exact xnwO_no (by omega)), fun v hv => (by simp only [Option.toList, List.append_eq, List.nil_append, List.append_nil, List.mem_cons, List.not_mem_nil, or_false] at hv; rcases hv with rfl <;> first | exact fun z => Value.noConfusion z | exact xnwO_no (by omega))⟩ (by show _ ≤ 6 + lCel nl _; omega) (by show _ ≤ 67 + lSlt nl _; omega) ?_
          refine a_dup C dX6_chargeInterest_92 rfl ?_
          refine a_aload_n (i := 3) C dX6_chargeInterest_93 rfl rfl ?_
          refine a_iload (i := 4) C dX6_chargeInterest_94 rfl ?_
          refine a_aload_n (i := 0) C dX6_chargeInterest_96 rfl rfl ?_
          refine a_get C dX6_chargeInterest_97 fl_X6_36 ((xup_n (by omega)).trans xC_0) rfl ?_
          refine a_iload_n (i := 2) C dX6_chargeInterest_100 rfl rfl ?_
          refine a_iadd C dX6_chargeInterest_101 ?_
          refine a_iconst (v := 1) C dX6_chargeInterest_102 (by decide) ?_
          refine a_callI C dX6_chargeInterest_103 ci_X2_init tb455 (m_X2_init hflags rfl rfl xup_s) rfl rfl (Nat.le_of_ble_eq_true rfl) ⟨Nat.le_of_ble_eq_true rfl, Nat.le_of_ble_eq_true rfl⟩ ⟨(by show _ ≤ 6 + lCel nl (mWl nl (xsum (xacs f g (nI j)) ni)); omega), (by show _ ≤ 67 + lSlt nl (mWl nl (xsum (xacs f g (nI j)) ni)); omega)⟩ (fun _ h => h.elim) xav_no (fun r103 hp103 hq103 => ?_)
          obtain ⟨rfl, rfl⟩ := hq103
          refine a_hp xup_uu ?_
          refine a_callV C dX6_chargeInterest_106 cv_X6_enterInvoice tb496 (m_X6_enterInvoice hflags (g := (gup g 15 (xpreL (xdrp f g (nI j)) (g 15) ni))) (a := (xsum (xacs f g (nI j)) ni)) (d := n 1 + t) (b := 1) hB hj hni z14 z17 z18 (by show xpreL (xdrp f g (nI j)) (g 15) ni ni = 0; rw [xpreL_ge (Nat.le_refl ni)]; exact z15) hl hOw hPw hbs) rfl rfl ((xup_n (by omega)).trans xC_0) rfl (Nat.le_of_ble_eq_true rfl) ⟨Nat.le_of_ble_eq_true rfl, Nat.le_of_ble_eq_true rfl⟩ ⟨(by show _ ≤ 6 + lCel nl (mWl nl (xsum (xacs f g (nI j)) ni)); omega), (by show _ ≤ 67 + lSlt nl (mWl nl (xsum (xacs f g (nI j)) ni)); omega)⟩ (fun _ hj => Or.inr hj) ⟨fun q hq j hj => (by simp only [List.mem_cons, List.not_mem_nil, or_false] at hq; rcases hq with rfl | rfl | rfl | rfl | rfl | rfl <;> first | exact Value.noConfusion hj | exact xnwG_no (by omega) (Value.ref.inj hj)), fun v hv => nomatch hv⟩ (fun _ _ h => h.elim) (fun r106 hp106 hq106 => ?_)
          obtain ⟨rfl, rfl⟩ := hq106
          exact a_iret C dX6_chargeInterest_109 (by show _ ≤ 6 + lCel nl _; omega) (by show _ ≤ 67 + lSlt nl _; omega) (hret _ _ (by show cP _ _ (if (xsum (xacs f g (nI j)) ni) = 0 then _ else _) _ _ _ _ _; rw [if_neg c22]; unfold cP o_charge; rw [if_neg (fun z => z (xin_of hj (by omega))), if_neg (fun z => z hx1), if_neg (fun z => absurd z.2 (by omega)), if_neg c22]; exact ⟨mEn_0 (ni := ni), rfl, _, jr, congrArg (fun z => xC h nc (ni + 1) np (mWl nl (xsum (xacs f g (nI j)) ni)) z (mEf ni nl (nI j) (xsum (xacs f g (nI j)) ni) t 1 n f) (gup g 15 (xpreL (xdrp f g (nI j)) (g 15) ni)) (fup jc 0 (upd (jc 0) ni 0)) jr) (mEn_1 (ni := ni) (n := nup n 0 0)).symm⟩))
        · have hlt : i < ni := by
            rcases Nat.lt_or_ge i ni with q | q
            · exact q
            · exact absurd ((xle (by omega) (by omega)).mpr q) c51
          refine a_aload_n (i := 0) C dX6_chargeInterest_54 rfl rfl ?_
          refine a_get C dX6_chargeInterest_55 fl_X6_16 xC_0 rfl ?_
          refine a_iload (i := 5) C dX6_chargeInterest_58 rfl ?_
          refine a_callV C dX6_chargeInterest_60 cv_Jx4a65c_get_915e3 tb372 (m_Jx4a65c_get_915e3 hflags xC_2 (xC_l2 (by omega)) (by omega) (aCap_ge (by omega)) (Nat.lt_of_le_of_lt (aCap_le _) (by decide)) (xLr_lt (by omega))) rfl rfl xC_2 rfl (Nat.le_of_ble_eq_true rfl) ⟨Nat.le_of_ble_eq_true rfl, Nat.le_of_ble_eq_true rfl⟩ ⟨(by show _ ≤ 6 + lCel nl (mWl nl (xsum (xacs f g (nI j)) ni)); omega), (by show _ ≤ 67 + lSlt nl (mWl nl (xsum (xacs f g (nI j)) ni)); omega)⟩ (fun _ h => h.elim) xav_no (fun _ _ h => h.elim) (fun r60 hp60 hq60 => ?_)
          obtain ⟨rfl, rfl⟩ := hq60
          refine a_castS C dX6_chargeInterest_63 tb409 (xC_in (by omega) (by omega)) rfl rfl ?_
          refine a_astore (i := 6) C dX6_chargeInterest_66 (by decide) ?_
          refine a_aload (i := 6) C dX6_chargeInterest_68 rfl ?_
          refine a_get C dX6_chargeInterest_70 fl_X6_127 (xC_in (by omega) (by omega)) rfl ?_
          refine a_aload_n (i := 3) C dX6_chargeInterest_73 rfl rfl ?_
          refine a_acmp_ne (tgt := 82) C dX6_chargeInterest_74 (by decide) (xC_cu (xow_lt hO hc6 i hlt) hc6) (xC_cu hj hc6) (fun c74 => ?_) (fun c74 => ?_)
          · first
            | refine a_hp (show xC h nc ni np nl (n 1) f (gup g 15 (xpreL (xdrp f g (nI j)) (g 15) i)) jc jr = xC h nc ni np nl (n 1) f (gup g 15 (xpreL (xdrp f g (nI j)) (g 15) (i + 1))) jc jr by rw [← drp_n (fun z => c74 ((own_iff hO hc6 hlt hj).mpr z))]) ?_
            | skip
            refine a_iinc (i := 5) (v := nI (i + 1)) C dX6_chargeInterest_82 rfl (nI_1 i) (by decide) ?_
            refine a_goto (tgt := 42) C dX6_chargeInterest_85 (by decide) ?_
            refine a_loc _ ?_ (ih (i + 1) (by omega) (by omega))
            exact xsub_cons rfl (xsub_cons rfl (xsub_cons rfl (xsub_cons rfl (xsub_cons rfl (xsub_cons rfl (xsub_nil))))))
          · refine a_aload (i := 6) C dX6_chargeInterest_77 rfl ?_
            refine a_callV C dX6_chargeInterest_79 cv_X2_dropAccruedCents tb705 (m_X2_dropAccruedCents hflags hB hlt (xow_lt hO hc6 i hlt)) rfl rfl (xC_in (by omega) (by omega)) rfl (Nat.le_of_ble_eq_true rfl) ⟨Nat.le_of_ble_eq_true rfl, Nat.le_of_ble_eq_true rfl⟩ ⟨(by show _ ≤ 6 + lCel nl (mWl nl (xsum (xacs f g (nI j)) ni)); omega), (by show _ ≤ 67 + lSlt nl (mWl nl (xsum (xacs f g (nI j)) ni)); omega)⟩ (fun _ h => h.elim) xav_no (fun _ _ h => h.elim) (fun r79 hp79 hq79 => ?_)
            obtain ⟨rfl, rfl⟩ := hq79
            refine a_hp (show _ = xC h nc ni np nl (n 1) f (gup g 15 (xpreL (xdrp f g (nI j)) (g 15) (i + 1))) jc jr by rw [drp_s ((own_iff hO hc6 hlt hj).mp c74) (by omega)]) ?_
            first
            | refine a_hp (show xC h nc ni np nl (n 1) f (gup g 15 (xpreL (xdrp f g (nI j)) (g 15) i)) jc jr = xC h nc ni np nl (n 1) f (gup g 15 (xpreL (xdrp f g (nI j)) (g 15) (i + 1))) jc jr by rw [← drp_n (fun z => c74 ((own_iff hO hc6 hlt hj).mpr z))]) ?_
            | skip
            refine a_iinc (i := 5) (v := nI (i + 1)) C dX6_chargeInterest_82 rfl (nI_1 i) (by decide) ?_
            refine a_goto (tgt := 42) C dX6_chargeInterest_85 (by decide) ?_
            refine a_loc _ ?_ (ih (i + 1) (by omega) (by omega))
            exact xsub_cons rfl (xsub_cons rfl (xsub_cons rfl (xsub_cons rfl (xsub_cons rfl (xsub_cons rfl (xsub_nil))))))
    refine a_iconst (v := 0) C dX6_chargeInterest_39 (by decide) ?_
    refine a_istore (i := 5) C dX6_chargeInterest_40 (by decide) ?_
    refine a_hp (show _ = xC h nc ni np nl (n 1) f (gup g 15 (xpreL (xdrp f g (nI j)) (g 15) 0)) jc jr by rw [xpreL_0, gup_id]) ?_
    refine a_loc _ ?_ (loop (ni + 1) 0 (Nat.zero_le _) (by omega))
    exact xsub_cons rfl (xsub_cons rfl (xsub_cons rfl (xsub_cons rfl (xsub_cons rfl (xsub_cons rfl (xsub_nil))))))
  · refine a_iconst (v := (-1)) C dX6_chargeInterest_25 (by decide) ?_
    exact a_iret C dX6_chargeInterest_26 (by show _ ≤ 6 + lCel nl _; omega) (by show _ ≤ 67 + lSlt nl _; omega) (hret _ _ (by show cP _ _ (if (xsum (xacs f g (nI j)) ni) = 0 then _ else _) _ _ _ _ _; rw [if_pos c22]; unfold cP o_charge; rw [if_neg (fun z => z (xin_of hj (by omega))), if_neg (fun z => z hx1), if_neg (fun z => absurd z.1 (by rw [c22]; decide)), if_pos c22]; exact ⟨rfl, rfl, jc, jr, by rw [c22]; rfl⟩))
