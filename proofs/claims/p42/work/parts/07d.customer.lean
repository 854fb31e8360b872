abbrev xnwG : Nat → Prop := fun j => 300 ≤ j ∧ j ≤ 399
abbrev xnwB : Nat → Prop := fun j => (16 ≤ j ∧ j ≤ 127) ∨ (300 ≤ j ∧ j ≤ 399)
theorem xnwG_no {a b : Nat} (h : a < 300 ∨ 399 < a) (e : a = b) : ¬ xnwG b := fun z => by
  have z1 : 300 ≤ b := z.1
  have z2 : b ≤ 399 := z.2
  omega
theorem xnwO_no {a b : Nat} (h : a ≠ b) : Value.ref a ≠ .ref b := fun z => h (Value.ref.inj z)
section XFRL
variable {h : xH} {f : Nat → Nat → Int32} {g : Nat → Nat → Int64} {jc : Nat → Nat → Int32} {jr : Nat → Int64}
theorem fr_l {nc ni np nl : Nat} {t : Int32} (hB : nc ≤ 6 ∧ ni ≤ 24 ∧ np ≤ 24 ∧ nl ≤ 16000) (hbs : xBs h) (hO : ∀ i, i < ni → xow f i < nc) (hP : ∀ i, i < np → xpow f i < nc) {B c : Nat} (hBc : (B = 0 ∧ c = nc) ∨ (B = 10 ∧ c = ni) ∨ (B = 20 ∧ c = np)) (hd : aAd B (c + 1) ≠ aAd B c) : ∀ j e, xC h nc ni np nl t f g jc jr j = some e → xnr (aAd B (c + 1)) e := by
  obtain ⟨b1, b2, b3, b4⟩ := hB
  have h1 := aAd_n (B := B) (c := c + 1) (by omega)
  have h2 := aGen_le (c + 1)
  have h3 := aAd_b 0 nc
  have h4 := aAd_b 10 ni
  have h5 := aAd_b 20 np
  have h6 := aGen_0 (c := c + 1) (by omega)
  have h7 := aGen_le nc
  have h8 := aGen_le ni
  have h9 := aGen_le np
  have k1 : nc ≠ 0 → aAd 0 nc = 300 + (0 + aGen nc) := fun z => aAd_n (by omega)
  have k2 : ni ≠ 0 → aAd 10 ni = 300 + (10 + aGen ni) := fun z => aAd_n (by omega)
  have k3 : np ≠ 0 → aAd 20 np = 300 + (20 + aGen np) := fun z => aAd_n (by omega)
  have k4 : nc = 0 → aAd 0 nc = 901 := fun z => by rw [z]; rfl
  have k5 : ni = 0 → aAd 10 ni = 901 := fun z => by rw [z]; rfl
  have k6 : np = 0 → aAd 20 np = 901 := fun z => by rw [z]; rfl
  refine xC_fr (fun j e he => hbs j e he _ (Or.inr ⟨by omega, by omega⟩)) (fun k hk => by simp only [List.mem_cons, List.not_mem_nil, or_false] at hk; omega) ⟨?_, ?_, ?_⟩ ⟨by omega, by omega⟩ (fun i hi => by have := hO i hi; omega) (fun i hi => ⟨by have := hP i hi; omega, by omega⟩) (fun i => ⟨fun z => by omega, fun z => by omega, fun z => by omega⟩)
  · rcases hBc with ⟨rfl, rfl⟩ | ⟨rfl, rfl⟩ | ⟨rfl, rfl⟩ <;> first | exact hd | omega
  · rcases hBc with ⟨rfl, rfl⟩ | ⟨rfl, rfl⟩ | ⟨rfl, rfl⟩ <;> first | exact hd | omega
  · rcases hBc with ⟨rfl, rfl⟩ | ⟨rfl, rfl⟩ | ⟨rfl, rfl⟩ <;> first | exact hd | omega
theorem fr_o {nc ni np nl : Nat} {t : Int32} (hB : nc ≤ 6 ∧ ni ≤ 24 ∧ np ≤ 24 ∧ nl ≤ 16000) (hbs : xBs h) (hO : ∀ i, i < ni → xow f i < nc) (hP : ∀ i, i < np → xpow f i < nc) {b : Nat} (hb : b = 16 + nc ∨ b = 32 + ni ∨ b = 64 + np ∨ b = 96 + np) : ∀ j e, xC h nc ni np nl t f g jc jr j = some e → xnr b e := by
  obtain ⟨b1, b2, b3, b4⟩ := hB
  have h3 := aAd_b 0 nc
  have h4 := aAd_b 10 ni
  have h5 := aAd_b 20 np
  exact xC_fr (fun j e he => hbs j e he _ (Or.inl (by omega))) (fun k hk => by simp only [List.mem_cons, List.not_mem_nil, or_false] at hk; omega) ⟨by omega, by omega, by omega⟩ ⟨by omega, by omega⟩ (fun i hi => by have := hO i hi; omega) (fun i hi => ⟨by have := hP i hi; omega, by omega⟩) (fun i => ⟨fun z => by omega, fun z => by omega, fun z => by omega⟩)
end XFRL
theorem nadd {a b B c : Nat} (h : a < 300) (z : b = aAd B (c + 1) ∧ aAd B (c + 1) ≠ aAd B c) (e : a = b) : False := by
  have := aAd_n (B := B) (c := c + 1) (by omega)
  omega
set_option maxRecDepth 100000 in
set_option maxHeartbeats 4000000 in
theorem m_X6_addCustomer {l : Launch} {N0 : Nat} {D : va_G} {dT : Nat → ClassId} (hflags : l.stackTraces = false) {h : xH} {nc ni np nl : Nat} {n : Nat → Int32} {f : Nat → Nat → Int32} {g : Nat → Nat → Int64} {jc : Nat → Nat → Int32} {jr : Nat → Int64} (hB : nc ≤ 6 ∧ ni ≤ 24 ∧ np ≤ 24 ∧ nl ≤ 16000) {w u v : Int32} (h9 : f 9 nc = 0) (hO : ∀ i, i < ni → xow f i < nc) (hP : ∀ i, i < np → xpow f i < nc) (hbs : xBs h)  : xMet l N0 D dT yX6_addCustomer cX6_addCustomer 4 (some FieldType.int) 9 6 61 [.ref 0, .int w, .int u, .int v] (xC h nc ni np nl (n 1) f g jc jr) xnwB (cP h (nc + 1) ni np nl (o_addCustomer nc w u v n f g)) (cX (xC h nc ni np nl (n 1) f g jc jr) [("java/lang/IllegalArgumentException", (1 : Int32)), ("java/lang/IllegalStateException", (2 : Int32))] (o_addCustomer nc w u v n f g)) := by
  refine xMet_of hflags (by decide +kernel) (fun j h1 h2 => by omega) (Nat.le_of_ble_eq_true rfl) ?_
  intro E C I hret hthr
  refine a_loc [(0, .ref 0), (1, .int w), (2, .int u), (3, .int v)] (xsub_cons rfl (xsub_cons rfl (xsub_cons rfl (xsub_cons rfl (xsub_nil))))) ?_
  obtain ⟨hc6, hi24, hp24, hl16⟩ := id hB
  refine a_iload_n (i := 1) C dX6_addCustomer_0 rfl rfl ?_
  refine a_iconst (v := 0) C dX6_addCustomer_1 (by decide) ?_
  refine a_iconst (v := 2) C dX6_addCustomer_2 (by decide) ?_
  refine a_callS C dX6_addCustomer_3 cs_X6_requireRange tb168 (m_X6_requireRange hflags) rfl rfl (Nat.le_of_ble_eq_true rfl) ⟨Nat.le_of_ble_eq_true rfl, Nat.le_of_ble_eq_true rfl⟩ ⟨Nat.le_of_ble_eq_true rfl, Nat.le_of_ble_eq_true rfl⟩ (fun _ h => h.elim) xav_no (fun _ _ ⟨e1, e2, e3⟩ => by subst e1; subst e2; exact a_out C (fun _ h => nomatch h) (hthr _ _ ⟨rfl, by unfold o_addCustomer; rw [if_pos (fun z => e3 z.1)]; exact (List.Mem.head _)⟩) (Nat.le_of_ble_eq_true rfl) (Nat.le_of_ble_eq_true rfl)) (fun r3 hp3 hq3 => ?_)
  obtain ⟨rfl, rfl, hx1⟩ := hq3
  refine a_iload_n (i := 2) C dX6_addCustomer_6 rfl rfl ?_
  refine a_iconst (v := 0) C dX6_addCustomer_7 (by decide) ?_
  refine a_iconst (v := 2) C dX6_addCustomer_8 (by decide) ?_
  refine a_callS C dX6_addCustomer_9 cs_X6_requireRange tb168 (m_X6_requireRange hflags) rfl rfl (Nat.le_of_ble_eq_true rfl) ⟨Nat.le_of_ble_eq_true rfl, Nat.le_of_ble_eq_true rfl⟩ ⟨Nat.le_of_ble_eq_true rfl, Nat.le_of_ble_eq_true rfl⟩ (fun _ h => h.elim) xav_no (fun _ _ ⟨e1, e2, e3⟩ => by subst e1; subst e2; exact a_out C (fun _ h => nomatch h) (hthr _ _ ⟨rfl, by unfold o_addCustomer; rw [if_pos (fun z => e3 z.2.1)]; exact (List.Mem.head _)⟩) (Nat.le_of_ble_eq_true rfl) (Nat.le_of_ble_eq_true rfl)) (fun r9 hp9 hq9 => ?_)
  obtain ⟨rfl, rfl, hx2⟩ := hq9
  refine a_iload_n (i := 3) C dX6_addCustomer_12 rfl rfl ?_
  refine a_iconst (v := 0) C dX6_addCustomer_13 (by decide) ?_
  refine a_sipush (v := 3000) C dX6_addCustomer_14 (by decide) ?_
  refine a_callS C dX6_addCustomer_17 cs_X6_requireRange tb168 (m_X6_requireRange hflags) rfl rfl (Nat.le_of_ble_eq_true rfl) ⟨Nat.le_of_ble_eq_true rfl, Nat.le_of_ble_eq_true rfl⟩ ⟨Nat.le_of_ble_eq_true rfl, Nat.le_of_ble_eq_true rfl⟩ (fun _ h => h.elim) xav_no (fun _ _ ⟨e1, e2, e3⟩ => by subst e1; subst e2; exact a_out C (fun _ h => nomatch h) (hthr _ _ ⟨rfl, by unfold o_addCustomer; rw [if_pos (fun z => e3 z.2.2)]; exact (List.Mem.head _)⟩) (Nat.le_of_ble_eq_true rfl) (Nat.le_of_ble_eq_true rfl)) (fun r17 hp17 hq17 => ?_)
  obtain ⟨rfl, rfl, hx3⟩ := hq17
  refine a_aload_n (i := 0) C dX6_addCustomer_20 rfl rfl ?_
  refine a_get C dX6_addCustomer_21 fl_X6_10 xC_0 rfl ?_
  refine a_callV C dX6_addCustomer_24 cv_Jx4a65c_size_8abf5 tb142 (m_Jx4a65c_size_8abf5 hflags xC_1) rfl rfl xC_1 rfl (Nat.le_of_ble_eq_true rfl) ⟨Nat.le_of_ble_eq_true rfl, Nat.le_of_ble_eq_true rfl⟩ ⟨Nat.le_of_ble_eq_true rfl, Nat.le_of_ble_eq_true rfl⟩ (fun _ h => h.elim) xav_no (fun _ _ h => h.elim) (fun r24 hp24 hq24 => ?_)
  obtain ⟨rfl, rfl⟩ := hq24
  refine a_bipush (v := 6) C dX6_addCustomer_27 (by decide) ?_
  refine a_callS C dX6_addCustomer_29 cs_X6_requireRoom tb239 (m_X6_requireRoom hflags) rfl rfl (Nat.le_of_ble_eq_true rfl) ⟨Nat.le_of_ble_eq_true rfl, Nat.le_of_ble_eq_true rfl⟩ ⟨Nat.le_of_ble_eq_true rfl, Nat.le_of_ble_eq_true rfl⟩ (fun _ h => h.elim) xav_no (fun _ _ ⟨e1, e2, e3⟩ => by subst e1; subst e2; exact a_out C (fun _ h => nomatch h) (hthr _ _ ⟨rfl, by unfold o_addCustomer; rw [if_neg (fun z => z ⟨hx1, hx2, hx3⟩), if_pos (show nc = 6 by have := mt (nI_ltI (a := nc) (b := 6) (by omega) (by omega)).mpr e3; omega)]; exact (List.Mem.tail _ (List.Mem.head _))⟩) (Nat.le_of_ble_eq_true rfl) (Nat.le_of_ble_eq_true rfl)) (fun r29 hp29 hq29 => ?_)
  obtain ⟨rfl, rfl, hx4⟩ := hq29
  have hnc : nc < 6 := (nI_ltI (a := nc) (b := 6) (by omega) (by omega)).mp hx4
  refine a_aload_n (i := 0) C dX6_addCustomer_32 rfl rfl ?_
  refine a_get C dX6_addCustomer_33 fl_X6_10 xC_0 rfl ?_
  refine a_new C (16 + nc) (ci := 1) (T := TX0) (ty := tyX0) (fs := zX0) dX6_addCustomer_36 tb258 tb259 tb35 in_X0 tyX0_ok rfl nf_X0 nr_X0 (Or.inl ⟨by omega, by omega⟩) ⟨fun j e _ he => fr_o hB hbs hO hP (Or.inl rfl) j e he, fun q hq => (by simp only [List.mem_cons, List.not_mem_nil, or_false] at hq; rcases hq with rfl | rfl | rfl | rfl <;> first | exact fun z => Value.noConfusion z | exact xnwO_no (by omega)), fun v hv => (by simp only [Option.toList, List.append_eq, List.nil_append, List.append_nil, List.mem_cons, List.not_mem_nil, or_false] at hv; rcases hv with rfl <;> first | exact fun z => Value.noConfusion z | exact xnwO_no (by omega))⟩ (Nat.le_of_ble_eq_true rfl) (Nat.le_of_ble_eq_true rfl) ?_
  refine a_dup C dX6_addCustomer_39 rfl ?_
  refine a_iload_n (i := 1) C dX6_addCustomer_40 rfl rfl ?_
  refine a_iload_n (i := 2) C dX6_addCustomer_41 rfl rfl ?_
  refine a_iload_n (i := 3) C dX6_addCustomer_42 rfl rfl ?_
  refine a_callI C dX6_addCustomer_43 ci_X0_init tb260 (m_X0_init hflags xup_s) rfl rfl (Nat.le_of_ble_eq_true rfl) ⟨Nat.le_of_ble_eq_true rfl, Nat.le_of_ble_eq_true rfl⟩ ⟨Nat.le_of_ble_eq_true rfl, Nat.le_of_ble_eq_true rfl⟩ (fun _ h => h.elim) xav_no (fun r43 hp43 hq43 => ?_)
  obtain ⟨rfl, rfl⟩ := hq43
  refine a_hp xup_uu ?_
  refine a_callV C dX6_addCustomer_46 cv_Jx4a65c_add_9ea2d tb282 (m_addC hflags (L := 1) (B := 0) (base := 16) (c := nc) ((xup_n (by omega)).trans xC_1) (fun hz => (xup_n (by have := aAd_n (B := 0) hz; have := aGen_le nc; omega)).trans (xC_l1 hz)) (by omega) (by omega) (by omega) (by omega) (by omega) xup_s rfl tb945 (fun i hi => ⟨1, _, _, (xup_n (by omega)).trans (xC_cu hi (by omega)), rfl, tb945⟩) (fun hd j e hj he => xnr_up (fun j e _ he => fr_l hB hbs hO hP (Or.inl ⟨rfl, rfl⟩) hd j e he) (xnr_o (fun y hy => by simp only [List.mem_cons, List.not_mem_nil, or_false] at hy; rcases hy with rfl | rfl | rfl | rfl <;> exact fun z => Value.noConfusion z)) j e hj he)) rfl rfl ((xup_n (by omega)).trans xC_1) rfl (Nat.le_of_ble_eq_true rfl) ⟨Nat.le_of_ble_eq_true rfl, Nat.le_of_ble_eq_true rfl⟩ ⟨Nat.le_of_ble_eq_true rfl, Nat.le_of_ble_eq_true rfl⟩ (fun j hj => by obtain ⟨e, -⟩ := hj; have q1 := aAd_n (B := 0) (c := nc + 1) (by omega); have q2 := aGen_le (nc + 1); subst e; first | exact Or.inr ⟨by omega, by omega⟩ | exact ⟨by omega, by omega⟩) ⟨fun q hq j hj => (by simp only [List.mem_cons, List.not_mem_nil, or_false] at hq; rcases hq with rfl | rfl | rfl | rfl <;> first | exact Value.noConfusion hj | exact fun z => nadd (by omega) z (Value.ref.inj hj)), fun y hy => nomatch hy⟩ (fun _ _ h => h.elim) (fun r46 hp46 hq46 => ?_)
  obtain ⟨rfl, hL9, hA9, ho9⟩ := hq46
  refine aW_sub (xC_addC (r := w) (c := u) (w := v) hc6 hi24 hp24 (by omega) hL9 hA9 ((ho9 _ (by omega) (by have := aAd_n (B := 0) (c := nc + 1) (by omega); omega)).trans (xup_s.trans ?_)) (fun j h1 h2 h3 => (ho9 j h1 h2).trans (xup_n h3))) ?_
  · unfold xCo
    rw [show (fup (fup (fup f 6 (upd (f 6) nc w)) 7 (upd (f 7) nc u)) 8 (upd (f 8) nc v)) 7 nc = u from xupd_i, show (fup (fup (fup f 6 (upd (f 6) nc w)) 7 (upd (f 7) nc u)) 8 (upd (f 8) nc v)) 6 nc = w from xupd_i, show (fup (fup (fup f 6 (upd (f 6) nc w)) 7 (upd (f 7) nc u)) 8 (upd (f 8) nc v)) 8 nc = v from xupd_i, show (fup (fup (fup f 6 (upd (f 6) nc w)) 7 (upd (f 7) nc u)) 8 (upd (f 8) nc v)) 9 nc = 0 from h9]
  refine a_pop C dX6_addCustomer_49 rfl ?_
  refine a_aload_n (i := 0) C dX6_addCustomer_50 rfl rfl ?_
  refine a_get C dX6_addCustomer_51 fl_X6_10 xC_0 rfl ?_
  refine a_callV C dX6_addCustomer_54 cv_Jx4a65c_size_8abf5 tb142 (m_Jx4a65c_size_8abf5 hflags xC_1) rfl rfl xC_1 rfl (Nat.le_of_ble_eq_true rfl) ⟨Nat.le_of_ble_eq_true rfl, Nat.le_of_ble_eq_true rfl⟩ ⟨Nat.le_of_ble_eq_true rfl, Nat.le_of_ble_eq_true rfl⟩ (fun _ h => h.elim) xav_no (fun _ _ h => h.elim) (fun r54 hp54 hq54 => ?_)
  obtain ⟨rfl, rfl⟩ := hq54
  refine a_iconst (v := 1) C dX6_addCustomer_57 (by decide) ?_
  refine a_isub C dX6_addCustomer_58 ?_
  refine a_top (nI nc) (nI_pred nc) ?_
  exact a_iret C dX6_addCustomer_59 (Nat.le_of_ble_eq_true rfl) (Nat.le_of_ble_eq_true rfl) (hret _ _ (by unfold cP o_addCustomer; rw [if_neg (fun z => z ⟨hx1, hx2, hx3⟩), if_neg (show ¬ nc = 6 by omega)]; exact ⟨rfl, rfl, jc, jr, rfl⟩))
