theorem xnwD_no3 {a b j : Nat} (h : j = b) (hj : (a : Nat) = j) (hab : a ≠ b) : False := hab (hj.trans h)
set_option maxRecDepth 100000 in
set_option maxHeartbeats 4000000 in
theorem m_grow1_e {l : Launch} {N0 : Nat} {D : va_G} {dT : Nat → ClassId} (hflags : l.stackTraces = false) {hp : xH} {L b : Nat} {m : Value} (hL : hp L = some (.inr (0, [m, .ref 901, .int 0]))) (hb : b < 900) (hLb : L ≠ b) (hfr : ∀ j e, j ≠ b → hp j = some e → xnr b e)  : xMet l N0 D dT yJx4a65c_grow_92f84 cJx4a65c_grow_92f84 4 (some (FieldType.array (FieldType.object "java/lang/Object"))) 3 1 10 [.ref L, .int 1] (hp) (fun j => j = b) (fun r h => r = some (.ref b) ∧ h = xup (xup hp b (.inl (3, 10, .inr (.inr (.inr (.inr (fun _ => none))))))) L (.inr (0, [m, .ref b, .int 0]))) xNX := by
  refine xMet_of hflags (by decide +kernel) (fun j h1 h2 => by omega) (Nat.le_of_ble_eq_true rfl) ?_
  intro E C I hret hthr
  refine a_loc [(0, .ref L), (1, .int 1)] (xsub_cons rfl (xsub_cons rfl (xsub_nil))) ?_
  refine a_aload_n (i := 0) C dJx4a65c_grow_92f84_0 rfl rfl ?_
  refine a_get C dJx4a65c_grow_92f84_1 fl_Jx4a65c_9 hL rfl ?_
  refine a_empLen C dJx4a65c_grow_92f84_4 ?_
  refine a_istore_n (i := 2) C dJx4a65c_grow_92f84_5 rfl (by decide) ?_
  refine a_iload_n (i := 2) C dJx4a65c_grow_92f84_6 rfl rfl ?_
  refine a_if_gt (tgt := 20) C dJx4a65c_grow_92f84_7 (by decide) (fun c7 => ?_) (fun c7 => ?_)
  · exact absurd c7 (by decide)
  · refine a_aload_n (i := 0) C dJx4a65c_grow_92f84_10 rfl rfl ?_
    refine a_get C dJx4a65c_grow_92f84_11 fl_Jx4a65c_9 hL rfl ?_
    refine a_getsE C dJx4a65c_grow_92f84_14 tb66 ?_
    refine a_acmp_eqS (tgt := 45) C dJx4a65c_grow_92f84_17 (by decide) ?_
    refine a_aload_n (i := 0) C dJx4a65c_grow_92f84_45 rfl rfl ?_
    refine a_bipush (v := 10) C dJx4a65c_grow_92f84_46 (by decide) ?_
    refine a_iload_n (i := 1) C dJx4a65c_grow_92f84_48 rfl rfl ?_
    refine a_max C dJx4a65c_grow_92f84_49 tb337 tb302 tb37 tb303 (Nat.le_of_ble_eq_true rfl) (Nat.le_of_ble_eq_true rfl) (Nat.le_of_ble_eq_true rfl) (Nat.le_of_ble_eq_true rfl) (Nat.le_of_ble_eq_true rfl) ?_
    refine a_top 10 (by decide) ?_
    refine a_loc [(0, .ref L), (1, .int 1), (2, .int 0)] (xsub_cons rfl (xsub_cons rfl (xsub_cons rfl (xsub_nil)))) ?_
    refine a_newq C b (N := 10) dJx4a65c_grow_92f84_52 tb338 (by decide) (by decide) (by decide) rfl ⟨hfr, fun q hq => ?_, fun v hv => ?_⟩ (Nat.le_of_ble_eq_true rfl) (Nat.le_of_ble_eq_true rfl) ?_
    · simp only [List.mem_cons, List.not_mem_nil, or_false] at hq
      rcases hq with rfl | rfl | rfl <;> first | exact fun z => hLb (Value.ref.inj z) | exact fun z => Value.noConfusion z
    · simp only [List.mem_cons, List.not_mem_nil, or_false] at hv
      subst hv
      exact fun z => hLb (Value.ref.inj z)
    · refine a_dup_x1 C dJx4a65c_grow_92f84_55 rfl rfl ?_
      refine a_put C dJx4a65c_grow_92f84_56 fl_Jx4a65c_9 ((xup_n hLb).trans hL) (Nat.le_of_ble_eq_true rfl) rfl rfl ?_
      exact a_aret C dJx4a65c_grow_92f84_59 (by first | exact Or.inl ⟨_, rfl⟩ | exact Or.inr ⟨_, rfl⟩) (Nat.le_of_ble_eq_true rfl) (Nat.le_of_ble_eq_true rfl) (hret _ _ ⟨rfl, rfl⟩)
set_option maxRecDepth 100000 in
set_option maxHeartbeats 4000000 in
theorem m_grow1_g {l : Launch} {N0 : Nat} {D : va_G} {dT : Nat → ClassId} (hflags : l.stackTraces = false) {hp : xH} {L a b c : Nat} {m : Value} {F : Nat → Option Nat} (hL : hp L = some (.inr (0, [m, .ref a, .int (nI c)]))) (hA : hp a = some (.inl (3, c, .inr (.inr (.inr (.inr (F))))))) (hc : c = 10 ∨ c = 15 ∨ c = 22) (hb : b < 900) (hLb : L ≠ b) (hab : a ≠ b) (hfr : ∀ j e, j ≠ b → hp j = some e → xnr b e) (hel : ∀ i, i < c → ∀ y, F i = some y → y ≠ b ∧ ∃ (ci : Nat) (fs : List Value) (q : vw_C), hp y = some (.inr (ci, fs)) ∧ vwCl[ci]? = some q ∧ Cond.castable q.1 "java/lang/Object" ∈ xTN)  : xMet l N0 D dT yJx4a65c_grow_92f84 cJx4a65c_grow_92f84 4 (some (FieldType.array (FieldType.object "java/lang/Object"))) 3 1 (c + c / 2) [.ref L, .int (nI (c + 1))] (hp) (fun j => j = b) (fun r h => r = some (.ref b) ∧ h = xup (xup hp b (.inl (3, (c + c / 2), .inr (.inr (.inr (.inr (va_cpy F (fun _ => none) 0 0 c))))))) L (.inr (0, [m, .ref b, .int (nI c)]))) xNX := by
  refine xMet_of hflags (by decide +kernel) (fun j h1 h2 => by omega) (Nat.le_of_ble_eq_true rfl) ?_
  intro E C I hret hthr
  refine a_loc [(0, .ref L), (1, .int (nI (c + 1)))] (xsub_cons rfl (xsub_cons rfl (xsub_nil))) ?_
  refine a_aload_n (i := 0) C dJx4a65c_grow_92f84_0 rfl rfl ?_
  refine a_get C dJx4a65c_grow_92f84_1 fl_Jx4a65c_9 hL rfl ?_
  refine a_alen C dJx4a65c_grow_92f84_4 (by decide) hA ?_
  refine a_istore_n (i := 2) C dJx4a65c_grow_92f84_5 rfl (by decide) ?_
  refine a_iload_n (i := 2) C dJx4a65c_grow_92f84_6 rfl rfl ?_
  refine a_if_gt (tgt := 20) C dJx4a65c_grow_92f84_7 (by decide) (fun c7 => ?_) (fun c7 => ?_)
  · refine a_iload_n (i := 2) C dJx4a65c_grow_92f84_20 rfl rfl ?_
    refine a_iload_n (i := 1) C dJx4a65c_grow_92f84_21 rfl rfl ?_
    refine a_iload_n (i := 2) C dJx4a65c_grow_92f84_22 rfl rfl ?_
    refine a_isub C dJx4a65c_grow_92f84_23 ?_
    refine a_top 1 (by rcases hc with rfl | rfl | rfl <;> decide) ?_
    refine a_iload_n (i := 2) C dJx4a65c_grow_92f84_24 rfl rfl ?_
    refine a_iconst (v := 1) C dJx4a65c_grow_92f84_25 (by decide) ?_
    refine a_ishr C dJx4a65c_grow_92f84_26 ?_
    refine a_callS C dJx4a65c_grow_92f84_27 cs_J8_newLength_cabcc tb298 (m_J8_newLength_cabcc hflags (x := nI c) (y := 1) (by rcases hc with rfl | rfl | rfl <;> decide) (by rcases hc with rfl | rfl | rfl <;> decide)) rfl rfl (Nat.le_of_ble_eq_true rfl) ⟨Nat.le_of_ble_eq_true rfl, Nat.le_of_ble_eq_true rfl⟩ ⟨Nat.zero_le _, Nat.zero_le _⟩ (fun _ h => h.elim) xav_no (fun _ _ h => h.elim) (fun r27 hp27 hq27 => ?_)
    obtain ⟨rfl, rfl⟩ := hq27
    refine a_top (nI (c + c / 2)) (by rcases hc with rfl | rfl | rfl <;> decide) ?_
    refine a_istore_n (i := 3) C dJx4a65c_grow_92f84_30 rfl (by decide) ?_
    refine a_aload_n (i := 0) C dJx4a65c_grow_92f84_31 rfl rfl ?_
    refine a_aload_n (i := 0) C dJx4a65c_grow_92f84_32 rfl rfl ?_
    refine a_get C dJx4a65c_grow_92f84_33 fl_Jx4a65c_9 hL rfl ?_
    refine a_iload_n (i := 3) C dJx4a65c_grow_92f84_36 rfl rfl ?_
    refine a_loc [(0, .ref L), (1, .int (nI (c + 1))), (2, .int (nI c)), (3, .int (nI (c + c / 2)))] (xsub_cons rfl (xsub_cons rfl (xsub_cons rfl (xsub_cons rfl (xsub_nil))))) ?_
    refine a_callS C dJx4a65c_grow_92f84_37 cs_J7_copyOf_1904c tb308 (m_J7_copyOf_1904c hflags (b := b) (N := c) (M := c + c / 2) hA (by omega) (by omega) hb hab hfr hel) rfl rfl (Nat.le_of_ble_eq_true rfl) ⟨Nat.le_of_ble_eq_true rfl, Nat.le_of_ble_eq_true rfl⟩ ⟨Nat.le_of_ble_eq_true rfl, show 0 + (c + c / 2) ≤ c + c / 2 by omega⟩ (fun _ h => h) ⟨fun q hq j hj => (by simp only [List.mem_cons, List.not_mem_nil, or_false] at hq; rcases hq with rfl | rfl | rfl | rfl <;> first | exact Value.noConfusion hj | exact fun z => xnwD_no3 z (Value.ref.inj hj) (by omega)), fun v hv j hj => (by cases List.mem_singleton.mp hv; exact fun z => xnwD_no3 z (Value.ref.inj hj) (by omega))⟩ (fun _ _ h => h.elim) (fun r37 hp37 hq37 => ?_)
    obtain ⟨rfl, rfl⟩ := hq37
    refine a_dup_x1 C dJx4a65c_grow_92f84_40 rfl rfl ?_
    refine a_put C dJx4a65c_grow_92f84_41 fl_Jx4a65c_9 ((xup_n hLb).trans hL) (Nat.le_of_ble_eq_true rfl) rfl rfl ?_
    exact a_aret C dJx4a65c_grow_92f84_44 (by first | exact Or.inl ⟨_, rfl⟩ | exact Or.inr ⟨_, rfl⟩) (Nat.le_of_ble_eq_true rfl) (by show 0 + 0 + (c + c / 2) ≤ c + c / 2; omega) (hret _ _ ⟨rfl, rfl⟩)
  · exact absurd (show (0 : Int32) < nI c by rcases hc with rfl | rfl | rfl <;> decide) c7
set_option maxRecDepth 100000 in
set_option maxHeartbeats 4000000 in
theorem m_grow0_e {l : Launch} {N0 : Nat} {D : va_G} {dT : Nat → ClassId} (hflags : l.stackTraces = false) {hp : xH} {L b : Nat} {m : Value} (hL : hp L = some (.inr (0, [m, .ref 901, .int 0]))) (hb : b < 900) (hLb : L ≠ b) (hfr : ∀ j e, j ≠ b → hp j = some e → xnr b e)  : xMet l N0 D dT yJx4a65c_grow_d5877 cJx4a65c_grow_d5877 1 (some (FieldType.array (FieldType.object "java/lang/Object"))) 4 1 10 [.ref L] (hp) (fun j => j = b) (fun r h => r = some (.ref b) ∧ h = xup (xup hp b (.inl (3, 10, .inr (.inr (.inr (.inr (fun _ => none))))))) L (.inr (0, [m, .ref b, .int 0]))) xNX := by
  refine xMet_of hflags (by decide +kernel) (fun j h1 h2 => by omega) (Nat.le_of_ble_eq_true rfl) ?_
  intro E C I hret hthr
  refine a_loc [(0, .ref L)] (xsub_cons rfl (xsub_nil)) ?_
  refine a_aload_n (i := 0) C dJx4a65c_grow_d5877_0 rfl rfl ?_
  refine a_aload_n (i := 0) C dJx4a65c_grow_d5877_1 rfl rfl ?_
  refine a_get C dJx4a65c_grow_d5877_2 fl_Jx4a65c_48 hL rfl ?_
  refine a_iconst (v := 1) C dJx4a65c_grow_d5877_5 (by decide) ?_
  refine a_iadd C dJx4a65c_grow_d5877_6 ?_
  refine a_top 1 (by decide) ?_
  refine a_callV C dJx4a65c_grow_d5877_7 cv_Jx4a65c_grow_92f84 tb294 (m_grow1_e hflags hL hb hLb hfr) rfl rfl hL rfl (Nat.le_of_ble_eq_true rfl) ⟨Nat.le_of_ble_eq_true rfl, Nat.le_of_ble_eq_true rfl⟩ ⟨Nat.le_of_ble_eq_true rfl, Nat.le_of_ble_eq_true rfl⟩ (fun _ h => h) ⟨fun q hq j hj => (by simp only [List.mem_cons, List.not_mem_nil, or_false] at hq; rcases hq with rfl <;> first | exact Value.noConfusion hj | exact fun z => xnwD_no3 z (Value.ref.inj hj) (by omega)), fun v hv j hj => nomatch hv⟩ (fun _ _ h => h.elim) (fun r7 hp7 hq7 => ?_)
  obtain ⟨rfl, rfl⟩ := hq7
  exact a_aret C dJx4a65c_grow_d5877_10 (by first | exact Or.inl ⟨_, rfl⟩ | exact Or.inr ⟨_, rfl⟩) (Nat.le_of_ble_eq_true rfl) (Nat.le_of_ble_eq_true rfl) (hret _ _ ⟨rfl, rfl⟩)
set_option maxRecDepth 100000 in
set_option maxHeartbeats 4000000 in
theorem m_grow0_g {l : Launch} {N0 : Nat} {D : va_G} {dT : Nat → ClassId} (hflags : l.stackTraces = false) {hp : xH} {L a b c : Nat} {m : Value} {F : Nat → Option Nat} (hL : hp L = some (.inr (0, [m, .ref a, .int (nI c)]))) (hA : hp a = some (.inl (3, c, .inr (.inr (.inr (.inr (F))))))) (hc : c = 10 ∨ c = 15 ∨ c = 22) (hb : b < 900) (hLb : L ≠ b) (hab : a ≠ b) (hfr : ∀ j e, j ≠ b → hp j = some e → xnr b e) (hel : ∀ i, i < c → ∀ y, F i = some y → y ≠ b ∧ ∃ (ci : Nat) (fs : List Value) (q : vw_C), hp y = some (.inr (ci, fs)) ∧ vwCl[ci]? = some q ∧ Cond.castable q.1 "java/lang/Object" ∈ xTN)  : xMet l N0 D dT yJx4a65c_grow_d5877 cJx4a65c_grow_d5877 1 (some (FieldType.array (FieldType.object "java/lang/Object"))) 4 1 (c + c / 2) [.ref L] (hp) (fun j => j = b) (fun r h => r = some (.ref b) ∧ h = xup (xup hp b (.inl (3, (c + c / 2), .inr (.inr (.inr (.inr (va_cpy F (fun _ => none) 0 0 c))))))) L (.inr (0, [m, .ref b, .int (nI c)]))) xNX := by
  refine xMet_of hflags (by decide +kernel) (fun j h1 h2 => by omega) (Nat.le_of_ble_eq_true rfl) ?_
  intro E C I hret hthr
  refine a_loc [(0, .ref L)] (xsub_cons rfl (xsub_nil)) ?_
  refine a_aload_n (i := 0) C dJx4a65c_grow_d5877_0 rfl rfl ?_
  refine a_aload_n (i := 0) C dJx4a65c_grow_d5877_1 rfl rfl ?_
  refine a_get C dJx4a65c_grow_d5877_2 fl_Jx4a65c_48 hL rfl ?_
  refine a_iconst (v := 1) C dJx4a65c_grow_d5877_5 (by decide) ?_
  refine a_iadd C dJx4a65c_grow_d5877_6 ?_
  refine a_top (nI (c + 1)) (nI_1 c) ?_
  refine a_callV C dJx4a65c_grow_d5877_7 cv_Jx4a65c_grow_92f84 tb294 (m_grow1_g hflags hL hA hc hb hLb hab hfr hel) rfl rfl hL rfl (Nat.le_of_ble_eq_true rfl) ⟨Nat.le_of_ble_eq_true rfl, Nat.le_of_ble_eq_true rfl⟩ ⟨Nat.le_of_ble_eq_true rfl, show 0 + (c + c / 2) ≤ c + c / 2 by omega⟩ (fun _ h => h) ⟨fun q hq j hj => (by simp only [List.mem_cons, List.not_mem_nil, or_false] at hq; rcases hq with rfl <;> first | exact Value.noConfusion hj | exact fun z => xnwD_no3 z (Value.ref.inj hj) (by omega)), fun v hv j hj => nomatch hv⟩ (fun _ _ h => h.elim) (fun r7 hp7 hq7 => ?_)
  obtain ⟨rfl, rfl⟩ := hq7
  exact a_aret C dJx4a65c_grow_d5877_10 (by first | exact Or.inl ⟨_, rfl⟩ | exact Or.inr ⟨_, rfl⟩) (Nat.le_of_ble_eq_true rfl) (by show 0 + (c + c / 2) ≤ c + c / 2; omega) (hret _ _ ⟨rfl, rfl⟩)
set_option maxRecDepth 100000 in
set_option maxHeartbeats 4000000 in
theorem m_add3_s {l : Launch} {N0 : Nat} {D : va_G} {dT : Nat → ClassId} (hflags : l.stackTraces = false) {hp : xH} {L a c N : Nat} {m : Value} {F : Nat → Option Nat} (hL : hp L = some (.inr (0, [m, .ref a, .int (nI c)]))) (hA : hp a = some (.inl (3, N, .inr (.inr (.inr (.inr (F))))))) (hcN : c < N) (hN : N ≤ 33) (hLa : L ≠ a) {v ci : Nat} {fs : List Value} {q : vw_C} (hv : hp v = some (.inr (ci, fs))) (hcq : vwCl[ci]? = some q) (hca : Cond.castable q.1 "java/lang/Object" ∈ xTN)  : xMet l N0 D dT yJx4a65c_add_72be8 cJx4a65c_add_72be8 4 none 5 1 33 [.ref L, .ref v, .ref a, .int (nI c)] (hp) xNo (fun r h => r = none ∧ h = xup (xup (hp) a (.inl (3, N, .inr (.inr (.inr (.inr (va_up F (c) (some v)))))))) L (.inr (0, [m, .ref a, .int (nI (c + 1))]))) xNX := by
  refine xMet_of hflags (by decide +kernel) (fun _ _ h => h) (Nat.le_of_ble_eq_true rfl) ?_
  intro E C I hret hthr
  refine a_loc [(0, .ref L), (1, .ref v), (2, .ref a), (3, .int (nI c))] (xsub_cons rfl (xsub_cons rfl (xsub_cons rfl (xsub_cons rfl (xsub_nil))))) ?_
  refine a_iload_n (i := 3) C dJx4a65c_add_72be8_0 rfl rfl ?_
  refine a_aload_n (i := 2) C dJx4a65c_add_72be8_1 rfl rfl ?_
  refine a_alen C dJx4a65c_add_72be8_2 (by decide) hA ?_
  refine a_icmp_ne (tgt := 11) C dJx4a65c_add_72be8_3 (by decide) (fun c3 => ?_) (fun c3 => ?_)
  · refine a_aload_n (i := 2) C dJx4a65c_add_72be8_11 rfl rfl ?_
    refine a_iload_n (i := 3) C dJx4a65c_add_72be8_12 rfl rfl ?_
    refine a_aload_n (i := 1) C dJx4a65c_add_72be8_13 rfl rfl ?_
    refine a_aast C dJx4a65c_add_72be8_14 hA hv hcq hca (vp_in_nI hcN (by omega)) ?_
    rw [nI_clamp (show c < 2 ^ 31 by omega)]
    refine a_aload_n (i := 0) C dJx4a65c_add_72be8_15 rfl rfl ?_
    refine a_iload_n (i := 3) C dJx4a65c_add_72be8_16 rfl rfl ?_
    refine a_iconst (v := 1) C dJx4a65c_add_72be8_17 (by decide) ?_
    refine a_iadd C dJx4a65c_add_72be8_18 ?_
    refine a_top (nI (c + 1)) (nI_1 c) ?_
    refine a_put C dJx4a65c_add_72be8_19 fl_Jx4a65c_48 ((xup_n hLa).trans hL) (Nat.le_of_ble_eq_true rfl) rfl rfl ?_
    exact a_vret C dJx4a65c_add_72be8_22 (Nat.le_of_ble_eq_true rfl) (Nat.le_of_ble_eq_true rfl) (hret _ _ ⟨rfl, rfl⟩)
  · exact absurd ((nI_eq (a := c) (b := N) (by omega) (by omega)).mp c3) (by omega)
set_option maxRecDepth 100000 in
set_option maxHeartbeats 4000000 in
theorem m_add3_e {l : Launch} {N0 : Nat} {D : va_G} {dT : Nat → ClassId} (hflags : l.stackTraces = false) {hp : xH} {L b : Nat} {m : Value} (hL : hp L = some (.inr (0, [m, .ref 901, .int 0]))) (hb : b < 900) (hLb : L ≠ b) (hfr : ∀ j e, j ≠ b → hp j = some e → xnr b e) {v ci : Nat} {fs : List Value} {q : vw_C} (hv : hp v = some (.inr (ci, fs))) (hcq : vwCl[ci]? = some q) (hca : Cond.castable q.1 "java/lang/Object" ∈ xTN) (hvb : v ≠ b) (hvL : v ≠ L)  : xMet l N0 D dT yJx4a65c_add_72be8 cJx4a65c_add_72be8 4 none 5 1 33 [.ref L, .ref v, .ref 901, .int 0] (hp) (fun j => j = b) (fun r h => r = none ∧ h = xup (xup (xup (xup hp b (.inl (3, 10, .inr (.inr (.inr (.inr (fun _ => none))))))) L (.inr (0, [m, .ref b, .int 0]))) b (.inl (3, 10, .inr (.inr (.inr (.inr (va_up (fun _ => none) (0) (some v)))))))) L (.inr (0, [m, .ref b, .int 1]))) xNX := by
  refine xMet_of hflags (by decide +kernel) (fun j h1 h2 => by omega) (Nat.le_of_ble_eq_true rfl) ?_
  intro E C I hret hthr
  refine a_loc [(0, .ref L), (1, .ref v), (2, .ref 901), (3, .int 0)] (xsub_cons rfl (xsub_cons rfl (xsub_cons rfl (xsub_cons rfl (xsub_nil))))) ?_
  refine a_iload_n (i := 3) C dJx4a65c_add_72be8_0 rfl rfl ?_
  refine a_aload_n (i := 2) C dJx4a65c_add_72be8_1 rfl rfl ?_
  refine a_empLen C dJx4a65c_add_72be8_2 ?_
  refine a_icmp_ne (tgt := 11) C dJx4a65c_add_72be8_3 (by decide) (fun c3 => ?_) (fun c3 => ?_)
  · exact absurd rfl c3
  · refine a_aload_n (i := 0) C dJx4a65c_add_72be8_6 rfl rfl ?_
    refine a_callV C dJx4a65c_add_72be8_7 cv_Jx4a65c_grow_d5877 tb290 (m_grow0_e hflags hL hb hLb hfr) rfl rfl hL rfl (Nat.le_of_ble_eq_true rfl) ⟨Nat.le_of_ble_eq_true rfl, Nat.le_of_ble_eq_true rfl⟩ ⟨Nat.le_of_ble_eq_true rfl, Nat.le_of_ble_eq_true rfl⟩ (fun _ h => h) ⟨fun q hq j hj => (by simp only [List.mem_cons, List.not_mem_nil, or_false] at hq; rcases hq with rfl | rfl | rfl | rfl <;> first | exact Value.noConfusion hj | exact fun z => xnwD_no3 z (Value.ref.inj hj) (by omega)), fun v hv j hj => nomatch hv⟩ (fun _ _ h => h.elim) (fun r7 hp7 hq7 => ?_)
    obtain ⟨rfl, rfl⟩ := hq7
    refine a_astore_n (i := 2) C dJx4a65c_add_72be8_10 rfl (by decide) ?_
    refine a_aload_n (i := 2) C dJx4a65c_add_72be8_11 rfl rfl ?_
    refine a_iload_n (i := 3) C dJx4a65c_add_72be8_12 rfl rfl ?_
    refine a_aload_n (i := 1) C dJx4a65c_add_72be8_13 rfl rfl ?_
    refine a_aast C dJx4a65c_add_72be8_14 ((xup_n (Ne.symm hLb)).trans xup_s) ((xup_n hvL).trans ((xup_n hvb).trans hv)) hcq hca (show vp_in (nI 0) 10 from vp_in_nI (by decide) (by decide)) ?_
    refine a_aload_n (i := 0) C dJx4a65c_add_72be8_15 rfl rfl ?_
    refine a_iload_n (i := 3) C dJx4a65c_add_72be8_16 rfl rfl ?_
    refine a_iconst (v := 1) C dJx4a65c_add_72be8_17 (by decide) ?_
    refine a_iadd C dJx4a65c_add_72be8_18 ?_
    refine a_top 1 (by decide) ?_
    refine a_put C dJx4a65c_add_72be8_19 fl_Jx4a65c_48 ((xup_n hLb).trans xup_s) (Nat.le_of_ble_eq_true rfl) rfl rfl ?_
    exact a_vret C dJx4a65c_add_72be8_22 (Nat.le_of_ble_eq_true rfl) (Nat.le_of_ble_eq_true rfl) (hret _ _ ⟨rfl, rfl⟩)
set_option maxRecDepth 100000 in
set_option maxHeartbeats 4000000 in
theorem m_add3_g {l : Launch} {N0 : Nat} {D : va_G} {dT : Nat → ClassId} (hflags : l.stackTraces = false) {hp : xH} {L a b c : Nat} {m : Value} {F : Nat → Option Nat} (hL : hp L = some (.inr (0, [m, .ref a, .int (nI c)]))) (hA : hp a = some (.inl (3, c, .inr (.inr (.inr (.inr (F))))))) (hc : c = 10 ∨ c = 15 ∨ c = 22) (hb : b < 900) (hLb : L ≠ b) (hab : a ≠ b) (hfr : ∀ j e, j ≠ b → hp j = some e → xnr b e) (hel : ∀ i, i < c → ∀ y, F i = some y → y ≠ b ∧ ∃ (ci : Nat) (fs : List Value) (q : vw_C), hp y = some (.inr (ci, fs)) ∧ vwCl[ci]? = some q ∧ Cond.castable q.1 "java/lang/Object" ∈ xTN) {v ci : Nat} {fs : List Value} {q : vw_C} (hv : hp v = some (.inr (ci, fs))) (hcq : vwCl[ci]? = some q) (hca : Cond.castable q.1 "java/lang/Object" ∈ xTN) (hvb : v ≠ b) (hvL : v ≠ L)  : xMet l N0 D dT yJx4a65c_add_72be8 cJx4a65c_add_72be8 4 none 5 1 33 [.ref L, .ref v, .ref a, .int (nI c)] (hp) (fun j => j = b) (fun r h => r = none ∧ h = xup (xup (xup (xup hp b (.inl (3, (c + c / 2), .inr (.inr (.inr (.inr (va_cpy F (fun _ => none) 0 0 c))))))) L (.inr (0, [m, .ref b, .int (nI c)]))) b (.inl (3, (c + c / 2), .inr (.inr (.inr (.inr (va_up (va_cpy F (fun _ => none) 0 0 c) (c) (some v)))))))) L (.inr (0, [m, .ref b, .int (nI (c + 1))]))) xNX := by
  refine xMet_of hflags (by decide +kernel) (fun j h1 h2 => by omega) (Nat.le_of_ble_eq_true rfl) ?_
  intro E C I hret hthr
  refine a_loc [(0, .ref L), (1, .ref v), (2, .ref a), (3, .int (nI c))] (xsub_cons rfl (xsub_cons rfl (xsub_cons rfl (xsub_cons rfl (xsub_nil))))) ?_
  refine a_iload_n (i := 3) C dJx4a65c_add_72be8_0 rfl rfl ?_
  refine a_aload_n (i := 2) C dJx4a65c_add_72be8_1 rfl rfl ?_
  refine a_alen C dJx4a65c_add_72be8_2 (by decide) hA ?_
  refine a_icmp_ne (tgt := 11) C dJx4a65c_add_72be8_3 (by decide) (fun c3 => ?_) (fun c3 => ?_)
  · exact absurd rfl c3
  · refine a_aload_n (i := 0) C dJx4a65c_add_72be8_6 rfl rfl ?_
    refine a_callV C dJx4a65c_add_72be8_7 cv_Jx4a65c_grow_d5877 tb290 (m_grow0_g hflags hL hA hc hb hLb hab hfr hel) rfl rfl hL rfl (Nat.le_of_ble_eq_true rfl) ⟨Nat.le_of_ble_eq_true rfl, Nat.le_of_ble_eq_true rfl⟩ ⟨Nat.le_of_ble_eq_true rfl, show 0 + (c + c / 2) ≤ 33 by omega⟩ (fun _ h => h) ⟨fun q hq j hj => (by simp only [List.mem_cons, List.not_mem_nil, or_false] at hq; rcases hq with rfl | rfl | rfl | rfl <;> first | exact Value.noConfusion hj | exact fun z => xnwD_no3 z (Value.ref.inj hj) (by omega)), fun v hv j hj => nomatch hv⟩ (fun _ _ h => h.elim) (fun r7 hp7 hq7 => ?_)
    obtain ⟨rfl, rfl⟩ := hq7
    refine a_astore_n (i := 2) C dJx4a65c_add_72be8_10 rfl (by decide) ?_
    refine a_aload_n (i := 2) C dJx4a65c_add_72be8_11 rfl rfl ?_
    refine a_iload_n (i := 3) C dJx4a65c_add_72be8_12 rfl rfl ?_
    refine a_aload_n (i := 1) C dJx4a65c_add_72be8_13 rfl rfl ?_
    refine a_aast C dJx4a65c_add_72be8_14 ((xup_n (Ne.symm hLb)).trans xup_s) ((xup_n hvL).trans ((xup_n hvb).trans hv)) hcq hca (vp_in_nI (show c < c + c / 2 by omega) (by omega)) ?_
    rw [nI_clamp (show c < 2 ^ 31 by omega)]
    refine a_aload_n (i := 0) C dJx4a65c_add_72be8_15 rfl rfl ?_
    refine a_iload_n (i := 3) C dJx4a65c_add_72be8_16 rfl rfl ?_
    refine a_iconst (v := 1) C dJx4a65c_add_72be8_17 (by decide) ?_
    refine a_iadd C dJx4a65c_add_72be8_18 ?_
    refine a_top (nI (c + 1)) (nI_1 c) ?_
    refine a_put C dJx4a65c_add_72be8_19 fl_Jx4a65c_48 ((xup_n hLb).trans xup_s) (Nat.le_of_ble_eq_true rfl) rfl rfl ?_
    exact a_vret C dJx4a65c_add_72be8_22 (Nat.le_of_ble_eq_true rfl) (by show 0 + (c + c / 2) ≤ 33; omega) (hret _ _ ⟨rfl, rfl⟩)
set_option maxRecDepth 100000 in
set_option maxHeartbeats 4000000 in
theorem m_add_s {l : Launch} {N0 : Nat} {D : va_G} {dT : Nat → ClassId} (hflags : l.stackTraces = false) {hp : xH} {L a c N : Nat} {F : Nat → Option Nat} (hL : hp L = some (.inr (0, [.int (nI c), .ref a, .int (nI c)]))) (hA : hp a = some (.inl (3, N, .inr (.inr (.inr (.inr (F))))))) (hcN : c < N) (hN : N ≤ 33) (hLa : L ≠ a) {v ci : Nat} {fs : List Value} {q : vw_C} (hv : hp v = some (.inr (ci, fs))) (hcq : vwCl[ci]? = some q) (hca : Cond.castable q.1 "java/lang/Object" ∈ xTN) (hvL : v ≠ L)  : xMet l N0 D dT yJx4a65c_add_9ea2d cJx4a65c_add_9ea2d 2 (some FieldType.boolean) 6 1 33 [.ref L, .ref v] (hp) xNo (fun r h => r = some (.int 1) ∧ h = xup (xup (xup hp L (.inr (0, [.int (nI (c + 1)), .ref a, .int (nI c)]))) a (.inl (3, N, .inr (.inr (.inr (.inr (va_up F c (some v)))))))) L (.inr (0, [.int (nI (c + 1)), .ref a, .int (nI (c + 1))]))) xNX := by
  refine xMet_of hflags (by decide +kernel) (fun _ _ h => h) (Nat.le_of_ble_eq_true rfl) ?_
  intro E C I hret hthr
  refine a_loc [(0, .ref L), (1, .ref v)] (xsub_cons rfl (xsub_cons rfl (xsub_nil))) ?_
  refine a_aload_n (i := 0) C dJx4a65c_add_9ea2d_0 rfl rfl ?_
  refine a_dup C dJx4a65c_add_9ea2d_1 rfl ?_
  refine a_get C dJx4a65c_add_9ea2d_2 fl_Jx4a65c_63 hL rfl ?_
  refine a_iconst (v := 1) C dJx4a65c_add_9ea2d_5 (by decide) ?_
  refine a_iadd C dJx4a65c_add_9ea2d_6 ?_
  refine a_top (nI (c + 1)) (nI_1 c) ?_
  refine a_put C dJx4a65c_add_9ea2d_7 fl_Jx4a65c_63 hL (Nat.le_of_ble_eq_true rfl) rfl rfl ?_
  refine a_aload_n (i := 0) C dJx4a65c_add_9ea2d_10 rfl rfl ?_
  refine a_aload_n (i := 1) C dJx4a65c_add_9ea2d_11 rfl rfl ?_
  refine a_aload_n (i := 0) C dJx4a65c_add_9ea2d_12 rfl rfl ?_
  refine a_get C dJx4a65c_add_9ea2d_13 fl_Jx4a65c_9 xup_s rfl ?_
  refine a_aload_n (i := 0) C dJx4a65c_add_9ea2d_16 rfl rfl ?_
  refine a_get C dJx4a65c_add_9ea2d_17 fl_Jx4a65c_48 xup_s rfl ?_
  refine a_callV C dJx4a65c_add_9ea2d_20 cv_Jx4a65c_add_72be8 tb286 (m_add3_s hflags (m := .int (nI (c + 1))) xup_s ((xup_n (Ne.symm hLa)).trans hA) hcN hN hLa ((xup_n hvL).trans hv) hcq hca) rfl rfl xup_s rfl (Nat.le_of_ble_eq_true rfl) ⟨Nat.le_of_ble_eq_true rfl, Nat.le_of_ble_eq_true rfl⟩ ⟨Nat.le_of_ble_eq_true rfl, Nat.le_of_ble_eq_true rfl⟩ (fun _ h => h.elim) xav_no (fun _ _ h => h.elim) (fun r20 hp20 hq20 => ?_)
  obtain ⟨rfl, rfl⟩ := hq20
  refine a_iconst (v := 1) C dJx4a65c_add_9ea2d_23 (by decide) ?_
  exact a_zret C dJx4a65c_add_9ea2d_24 (by first | rfl | exact bI_nar) (Nat.le_of_ble_eq_true rfl) (Nat.le_of_ble_eq_true rfl) (hret _ _ ⟨rfl, rfl⟩)
set_option maxRecDepth 100000 in
set_option maxHeartbeats 4000000 in
theorem m_add_e {l : Launch} {N0 : Nat} {D : va_G} {dT : Nat → ClassId} (hflags : l.stackTraces = false) {hp : xH} {L b : Nat} (hL : hp L = some (.inr (0, [.int 0, .ref 901, .int 0]))) (hb : b < 900) (hLb : L ≠ b) (hfr : ∀ j e, j ≠ b → hp j = some e → xnr b e) {v ci : Nat} {fs : List Value} {q : vw_C} (hv : hp v = some (.inr (ci, fs))) (hcq : vwCl[ci]? = some q) (hca : Cond.castable q.1 "java/lang/Object" ∈ xTN) (hvb : v ≠ b) (hvL : v ≠ L)  : xMet l N0 D dT yJx4a65c_add_9ea2d cJx4a65c_add_9ea2d 2 (some FieldType.boolean) 6 1 33 [.ref L, .ref v] (hp) (fun j => j = b) (fun r h => r = some (.int 1) ∧ h = xup (xup (xup (xup (xup hp L (.inr (0, [.int 1, .ref 901, .int 0]))) b (.inl (3, 10, .inr (.inr (.inr (.inr (fun _ => none))))))) L (.inr (0, [.int 1, .ref b, .int 0]))) b (.inl (3, 10, .inr (.inr (.inr (.inr (va_up (fun _ => none) 0 (some v)))))))) L (.inr (0, [.int 1, .ref b, .int 1]))) xNX := by
  refine xMet_of hflags (by decide +kernel) (fun j h1 h2 => by omega) (Nat.le_of_ble_eq_true rfl) ?_
  intro E C I hret hthr
  refine a_loc [(0, .ref L), (1, .ref v)] (xsub_cons rfl (xsub_cons rfl (xsub_nil))) ?_
  refine a_aload_n (i := 0) C dJx4a65c_add_9ea2d_0 rfl rfl ?_
  refine a_dup C dJx4a65c_add_9ea2d_1 rfl ?_
  refine a_get C dJx4a65c_add_9ea2d_2 fl_Jx4a65c_63 hL rfl ?_
  refine a_iconst (v := 1) C dJx4a65c_add_9ea2d_5 (by decide) ?_
  refine a_iadd C dJx4a65c_add_9ea2d_6 ?_
  refine a_top 1 (by decide) ?_
  refine a_put C dJx4a65c_add_9ea2d_7 fl_Jx4a65c_63 hL (Nat.le_of_ble_eq_true rfl) rfl rfl ?_
  refine a_aload_n (i := 0) C dJx4a65c_add_9ea2d_10 rfl rfl ?_
  refine a_aload_n (i := 1) C dJx4a65c_add_9ea2d_11 rfl rfl ?_
  refine a_aload_n (i := 0) C dJx4a65c_add_9ea2d_12 rfl rfl ?_
  refine a_get C dJx4a65c_add_9ea2d_13 fl_Jx4a65c_9 xup_s rfl ?_
  refine a_aload_n (i := 0) C dJx4a65c_add_9ea2d_16 rfl rfl ?_
  refine a_get C dJx4a65c_add_9ea2d_17 fl_Jx4a65c_48 xup_s rfl ?_
  refine a_callV C dJx4a65c_add_9ea2d_20 cv_Jx4a65c_add_72be8 tb286 (m_add3_e hflags (m := .int 1) xup_s hb hLb (fun j e hj he => xnr_up hfr (xnr_o (fun w hw => by simp only [List.mem_cons, List.not_mem_nil, or_false] at hw; rcases hw with rfl | rfl | rfl <;> first | exact fun z => Value.noConfusion z | exact fun z => (fun y : (901 : Nat) = b => absurd y (by omega)) (Value.ref.inj z))) j e hj he) ((xup_n hvL).trans hv) hcq hca hvb hvL) rfl rfl xup_s rfl (Nat.le_of_ble_eq_true rfl) ⟨Nat.le_of_ble_eq_true rfl, Nat.le_of_ble_eq_true rfl⟩ ⟨Nat.le_of_ble_eq_true rfl, Nat.le_of_ble_eq_true rfl⟩ (fun _ h => h) ⟨fun q hq j hj => (by simp only [List.mem_cons, List.not_mem_nil, or_false] at hq; rcases hq with rfl | rfl <;> first | exact Value.noConfusion hj | exact fun z => xnwD_no3 z (Value.ref.inj hj) (by omega)), fun v hv j hj => nomatch hv⟩ (fun _ _ h => h.elim) (fun r20 hp20 hq20 => ?_)
  obtain ⟨rfl, rfl⟩ := hq20
  refine a_iconst (v := 1) C dJx4a65c_add_9ea2d_23 (by decide) ?_
  exact a_zret C dJx4a65c_add_9ea2d_24 (by first | rfl | exact bI_nar) (Nat.le_of_ble_eq_true rfl) (Nat.le_of_ble_eq_true rfl) (hret _ _ ⟨rfl, rfl⟩)
set_option maxRecDepth 100000 in
set_option maxHeartbeats 4000000 in
theorem m_add_g {l : Launch} {N0 : Nat} {D : va_G} {dT : Nat → ClassId} (hflags : l.stackTraces = false) {hp : xH} {L a b c : Nat} {F : Nat → Option Nat} (hL : hp L = some (.inr (0, [.int (nI c), .ref a, .int (nI c)]))) (hA : hp a = some (.inl (3, c, .inr (.inr (.inr (.inr (F))))))) (hc : c = 10 ∨ c = 15 ∨ c = 22) (hb : b < 900) (hLb : L ≠ b) (hab : a ≠ b) (hfr : ∀ j e, j ≠ b → hp j = some e → xnr b e) (hel : ∀ i, i < c → ∀ y, F i = some y → y ≠ b ∧ y ≠ L ∧ ∃ (ci : Nat) (fs : List Value) (q : vw_C), hp y = some (.inr (ci, fs)) ∧ vwCl[ci]? = some q ∧ Cond.castable q.1 "java/lang/Object" ∈ xTN) {v ci : Nat} {fs : List Value} {q : vw_C} (hv : hp v = some (.inr (ci, fs))) (hcq : vwCl[ci]? = some q) (hca : Cond.castable q.1 "java/lang/Object" ∈ xTN) (hLa : L ≠ a) (hvb : v ≠ b) (hvL : v ≠ L)  : xMet l N0 D dT yJx4a65c_add_9ea2d cJx4a65c_add_9ea2d 2 (some FieldType.boolean) 6 1 33 [.ref L, .ref v] (hp) (fun j => j = b) (fun r h => r = some (.int 1) ∧ h = xup (xup (xup (xup (xup hp L (.inr (0, [.int (nI (c + 1)), .ref a, .int (nI c)]))) b (.inl (3, (c + c / 2), .inr (.inr (.inr (.inr (va_cpy F (fun _ => none) 0 0 c))))))) L (.inr (0, [.int (nI (c + 1)), .ref b, .int (nI c)]))) b (.inl (3, (c + c / 2), .inr (.inr (.inr (.inr (va_up (va_cpy F (fun _ => none) 0 0 c) c (some v)))))))) L (.inr (0, [.int (nI (c + 1)), .ref b, .int (nI (c + 1))]))) xNX := by
  refine xMet_of hflags (by decide +kernel) (fun j h1 h2 => by omega) (Nat.le_of_ble_eq_true rfl) ?_
  intro E C I hret hthr
  refine a_loc [(0, .ref L), (1, .ref v)] (xsub_cons rfl (xsub_cons rfl (xsub_nil))) ?_
  refine a_aload_n (i := 0) C dJx4a65c_add_9ea2d_0 rfl rfl ?_
  refine a_dup C dJx4a65c_add_9ea2d_1 rfl ?_
  refine a_get C dJx4a65c_add_9ea2d_2 fl_Jx4a65c_63 hL rfl ?_
  refine a_iconst (v := 1) C dJx4a65c_add_9ea2d_5 (by decide) ?_
  refine a_iadd C dJx4a65c_add_9ea2d_6 ?_
  refine a_top (nI (c + 1)) (nI_1 c) ?_
  refine a_put C dJx4a65c_add_9ea2d_7 fl_Jx4a65c_63 hL (Nat.le_of_ble_eq_true rfl) rfl rfl ?_
  refine a_aload_n (i := 0) C dJx4a65c_add_9ea2d_10 rfl rfl ?_
  refine a_aload_n (i := 1) C dJx4a65c_add_9ea2d_11 rfl rfl ?_
  refine a_aload_n (i := 0) C dJx4a65c_add_9ea2d_12 rfl rfl ?_
  refine a_get C dJx4a65c_add_9ea2d_13 fl_Jx4a65c_9 xup_s rfl ?_
  refine a_aload_n (i := 0) C dJx4a65c_add_9ea2d_16 rfl rfl ?_
  refine a_get C dJx4a65c_add_9ea2d_17 fl_Jx4a65c_48 xup_s rfl ?_
  refine a_callV C dJx4a65c_add_9ea2d_20 cv_Jx4a65c_add_72be8 tb286 (m_add3_g hflags (m := .int (nI (c + 1))) xup_s ((xup_n (Ne.symm hLa)).trans hA) hc hb hLb hab (fun j e hj he => xnr_up hfr (xnr_o (fun w hw => by simp only [List.mem_cons, List.not_mem_nil, or_false] at hw; rcases hw with rfl | rfl | rfl <;> first | exact fun z => Value.noConfusion z | exact fun z => hab (Value.ref.inj z))) j e hj he) (fun i hi y hy => by obtain ⟨y1, y2, ci, fs, q, y3, y4⟩ := hel i hi y hy; exact ⟨y1, ci, fs, q, (xup_n y2).trans y3, y4⟩) ((xup_n hvL).trans hv) hcq hca hvb hvL) rfl rfl xup_s rfl (Nat.le_of_ble_eq_true rfl) ⟨Nat.le_of_ble_eq_true rfl, Nat.le_of_ble_eq_true rfl⟩ ⟨Nat.le_of_ble_eq_true rfl, Nat.le_of_ble_eq_true rfl⟩ (fun _ h => h) ⟨fun q hq j hj => (by simp only [List.mem_cons, List.not_mem_nil, or_false] at hq; rcases hq with rfl | rfl <;> first | exact Value.noConfusion hj | exact fun z => xnwD_no3 z (Value.ref.inj hj) (by omega)), fun v hv j hj => nomatch hv⟩ (fun _ _ h => h.elim) (fun r20 hp20 hq20 => ?_)
  obtain ⟨rfl, rfl⟩ := hq20
  refine a_iconst (v := 1) C dJx4a65c_add_9ea2d_23 (by decide) ?_
  exact a_zret C dJx4a65c_add_9ea2d_24 (by first | rfl | exact bI_nar) (Nat.le_of_ble_eq_true rfl) (Nat.le_of_ble_eq_true rfl) (hret _ _ ⟨rfl, rfl⟩)
