theorem fl_Jxc12de_7 : xFL RJxc12de 7 0 0 .int false := ⟨RJx4a65c, TJx4a65c, 3, "java/util/AbstractList", tyJx4a65c, rfl, by decide, in_Jx4a65c, tb70, Or.inl rfl, tyJx4a65c_ok, nmJx4a65c, rfl, rfl⟩
theorem xup_nr {hp : xH} {a b : Nat} {e : va_E} (h : ∀ j e', hp j = some e' → xnr b e') (he : xnr b e) : ∀ j e', xup hp a e j = some e' → xnr b e' := fun j e' hje => by
  by_cases hja : j = a
  · subst hja
    rw [xup_s] at hje
    cases hje
    exact he
  · rw [xup_n hja] at hje
    exact h j e' hje
theorem xDr_0 {w : Nat → Int32} : (fun _ => 0) = xDr 0 w := by
  funext q
  unfold xDr
  rw [if_neg (Nat.not_lt_zero q)]
theorem a_gen {E : xEnv} {k n : Nat} {hp : xH} {pc : Nat} {L : List (Nat × Value)} {S : List Value} (kk : ∀ H, H = hp → aW E k n H pc L S) : aW E k n hp pc L S := kk hp rfl
set_option maxRecDepth 100000 in
set_option maxHeartbeats 4000000 in
theorem m_Jxa1e45_init_da8c8 {l : Launch} {N0 : Nat} {D : va_G} {dT : Nat → ClassId} (hflags : l.stackTraces = false) {hp : xH} {v : Nat}  : xMet l N0 D dT yJxa1e45_init_da8c8 cJxa1e45_init_da8c8 1 none 1 0 0 [.ref v] (hp) xNo (fun rr h => rr = none ∧ h = hp) xNX := by
  refine xMet_of hflags (by decide +kernel) (fun _ _ h => h) (Nat.le_of_ble_eq_true rfl) ?_
  intro E C I hret hthr
  refine a_loc [(0, .ref v)] (xsub_cons rfl (xsub_nil)) ?_
  refine a_aload_n (i := 0) C dJxa1e45_init_da8c8_0 rfl rfl ?_
  refine a_oinit C dJxa1e45_init_da8c8_1 tb65 tb52 tb53 (Nat.le_of_ble_eq_true rfl) (Nat.le_of_ble_eq_true rfl) (Nat.le_of_ble_eq_true rfl) ?_
  exact a_vret C dJxa1e45_init_da8c8_4 (Nat.le_of_ble_eq_true rfl) (Nat.le_of_ble_eq_true rfl) (hret _ _ ⟨rfl, rfl⟩)
set_option maxRecDepth 100000 in
set_option maxHeartbeats 4000000 in
theorem m_Jxc12de_init_da8c8 {l : Launch} {N0 : Nat} {D : va_G} {dT : Nat → ClassId} (hflags : l.stackTraces = false) {hp : xH} {v : Nat} (hv : hp v = some (.inr (0, zJx4a65c)))  : xMet l N0 D dT yJxc12de_init_da8c8 cJxc12de_init_da8c8 1 none 2 0 0 [.ref v] (hp) xNo (fun rr h => rr = none ∧ h = xup hp v (.inr (0, [.int 0, .null, .int 0]))) xNX := by
  refine xMet_of hflags (by decide +kernel) (fun _ _ h => h) (Nat.le_of_ble_eq_true rfl) ?_
  intro E C I hret hthr
  refine a_loc [(0, .ref v)] (xsub_cons rfl (xsub_nil)) ?_
  refine a_aload_n (i := 0) C dJxc12de_init_da8c8_0 rfl rfl ?_
  refine a_callI C dJxc12de_init_da8c8_1 ci_Jxa1e45_init_da8c8 tb62 (m_Jxa1e45_init_da8c8 hflags) rfl rfl (Nat.le_of_ble_eq_true rfl) ⟨Nat.le_of_ble_eq_true rfl, Nat.le_of_ble_eq_true rfl⟩ ⟨Nat.le_of_ble_eq_true rfl, Nat.le_of_ble_eq_true rfl⟩ (fun _ h => h.elim) xav_no (fun r1 hp1 hq1 => ?_)
  obtain ⟨rfl, rfl⟩ := hq1
  refine a_aload_n (i := 0) C dJxc12de_init_da8c8_4 rfl rfl ?_
  refine a_iconst (v := 0) C dJxc12de_init_da8c8_5 (by decide) ?_
  refine a_put C dJxc12de_init_da8c8_6 fl_Jxc12de_7 hv (Nat.le_of_ble_eq_true rfl) rfl rfl ?_
  exact a_vret C dJxc12de_init_da8c8_9 (Nat.le_of_ble_eq_true rfl) (Nat.le_of_ble_eq_true rfl) (hret _ _ ⟨rfl, rfl⟩)
set_option maxRecDepth 100000 in
set_option maxHeartbeats 4000000 in
theorem m_Jx4a65c_init_da8c8 {l : Launch} {N0 : Nat} {D : va_G} {dT : Nat → ClassId} (hflags : l.stackTraces = false) {hp : xH} {v : Nat} (hv : hp v = some (.inr (0, zJx4a65c)))  : xMet l N0 D dT yJx4a65c_init_da8c8 cJx4a65c_init_da8c8 1 none 3 0 0 [.ref v] (hp) xNo (fun rr h => rr = none ∧ h = xup hp v (.inr (0, xLo 0 0))) xNX := by
  refine xMet_of hflags (by decide +kernel) (fun _ _ h => h) (Nat.le_of_ble_eq_true rfl) ?_
  intro E C I hret hthr
  refine a_loc [(0, .ref v)] (xsub_cons rfl (xsub_nil)) ?_
  refine a_aload_n (i := 0) C dJx4a65c_init_da8c8_0 rfl rfl ?_
  refine a_callI C dJx4a65c_init_da8c8_1 ci_Jxc12de_init_da8c8 tb59 (m_Jxc12de_init_da8c8 hflags hv) rfl rfl (Nat.le_of_ble_eq_true rfl) ⟨Nat.le_of_ble_eq_true rfl, Nat.le_of_ble_eq_true rfl⟩ ⟨Nat.le_of_ble_eq_true rfl, Nat.le_of_ble_eq_true rfl⟩ (fun _ h => h.elim) xav_no (fun r1 hp1 hq1 => ?_)
  obtain ⟨rfl, rfl⟩ := hq1
  refine a_aload_n (i := 0) C dJx4a65c_init_da8c8_4 rfl rfl ?_
  refine a_getsE C dJx4a65c_init_da8c8_5 tb66 ?_
  refine a_put C dJx4a65c_init_da8c8_8 fl_Jx4a65c_9 xup_s (Nat.le_of_ble_eq_true rfl) rfl rfl ?_
  refine a_hp xup_uu ?_
  exact a_vret C dJx4a65c_init_da8c8_11 (Nat.le_of_ble_eq_true rfl) (Nat.le_of_ble_eq_true rfl) (hret _ _ ⟨rfl, rfl⟩)
set_option maxRecDepth 100000 in
set_option maxHeartbeats 4000000 in
theorem m_X3_init {l : Launch} {N0 : Nat} {D : va_G} {dT : Nat → ClassId} (hflags : l.stackTraces = false) {hp : xH} {v : Nat} (hv : hp v = some (.inr (3, zX3))) (hvb : ∀ b, b ∈ ([340, 350] : List Nat) → v ≠ b) (hF : ∀ b, b ∈ ([340, 350] : List Nat) → ∀ j e, hp j = some e → xnr b e)  : xMet l N0 D dT yX3_init cX3_init 1 none 1 2 128 [.ref v] (hp) (fun j => j ∈ ([340, 350] : List Nat)) (fun rr h => rr = none ∧ h = xup (xup (xup (xup (hp) 340 (.inl (0, 64, .inl (fun _ => 0)))) v (.inr (3, [.int 0, .ref 340, .null]))) 350 (.inl (0, 64, .inl (fun _ => 0)))) v (.inr (3, [.int 0, .ref 340, .ref 350]))) xNX := by
  refine xMet_of hflags (by decide +kernel) (fun j h1 h2 => by simp only [List.mem_cons, List.not_mem_nil, or_false] at h2; omega) (Nat.le_of_ble_eq_true rfl) ?_
  intro E C I hret hthr
  refine a_loc [(0, .ref v)] (xsub_cons rfl (xsub_nil)) ?_
  refine a_aload_n (i := 0) C dX3_init_0 rfl rfl ?_
  refine a_oinit C dX3_init_1 tb85 tb52 tb53 (Nat.le_of_ble_eq_true rfl) (Nat.le_of_ble_eq_true rfl) (Nat.le_of_ble_eq_true rfl) ?_
  refine a_aload_n (i := 0) C dX3_init_4 rfl rfl ?_
  refine a_bipush (v := 64) C dX3_init_5 (by decide) ?_
  refine a_newa C 340 0 (ty := .int) (N := 64) (f := .inl (fun _ => 0)) dX3_init_7 rfl (fun _ => rfl) (fun _ z => FieldType.noConfusion z) tb97 (fun _ => rfl) (fun _ => rfl) (by decide) (by decide) (by decide) (by decide) ⟨(fun j e _ he => hF 340 (by decide) j e he), fun q hq => ?_, fun v9 hv9 => ?_⟩ (Nat.le_of_ble_eq_true rfl) (Nat.le_of_ble_eq_true rfl) ?_
  · cases List.mem_singleton.mp hq
    exact fun z => hvb 340 (by decide) (Value.ref.inj z)
  · cases List.mem_singleton.mp hv9
    exact fun z => hvb 340 (by decide) (Value.ref.inj z)
  · refine a_put C dX3_init_9 fl_X3_9 ((xup_n (hvb 340 (by decide))).trans hv) (Nat.le_of_ble_eq_true rfl) rfl rfl ?_
    refine a_aload_n (i := 0) C dX3_init_12 rfl rfl ?_
    refine a_bipush (v := 64) C dX3_init_13 (by decide) ?_
    refine a_newa C 350 0 (ty := .int) (N := 64) (f := .inl (fun _ => 0)) dX3_init_15 rfl (fun _ => rfl) (fun _ z => FieldType.noConfusion z) tb97 (fun _ => rfl) (fun _ => rfl) (by decide) (by decide) (by decide) (by decide) ⟨(xnr_up (xnr_up (fun j e _ he => hF 350 (by decide) j e he) xnr_i) (xnr_o (fun y hy => by simp only [List.set, zX3, zX5, zX6, List.mem_cons, List.not_mem_nil, or_false] at hy; rcases hy with rfl | rfl | rfl <;> first | exact fun z => Value.noConfusion z | exact xnwO_no (by decide)))), fun q hq => ?_, fun v9 hv9 => ?_⟩ (Nat.le_of_ble_eq_true rfl) (Nat.le_of_ble_eq_true rfl) ?_
    · cases List.mem_singleton.mp hq
      exact fun z => hvb 350 (by decide) (Value.ref.inj z)
    · cases List.mem_singleton.mp hv9
      exact fun z => hvb 350 (by decide) (Value.ref.inj z)
    · refine a_put C dX3_init_17 fl_X3_13 ((xup_n (hvb 350 (by decide))).trans xup_s) (Nat.le_of_ble_eq_true rfl) rfl rfl ?_
      exact a_vret C dX3_init_20 (Nat.le_of_ble_eq_true rfl) (Nat.le_of_ble_eq_true rfl) (hret _ _ ⟨rfl, rfl⟩)
set_option maxRecDepth 100000 in
set_option maxHeartbeats 4000000 in
theorem m_X5_init {l : Launch} {N0 : Nat} {D : va_G} {dT : Nat → ClassId} (hflags : l.stackTraces = false) {hp : xH} {v : Nat} (hv : hp v = some (.inr (5, zX5))) (hvb : ∀ b, b ∈ ([11, 12, 13] : List Nat) → v ≠ b) (hF : ∀ b, b ∈ ([11, 12, 13] : List Nat) → ∀ j e, hp j = some e → xnr b e)  : xMet l N0 D dT yX5_init cX5_init 1 none 1 3 72 [.ref v] (hp) (fun j => j ∈ ([11, 12, 13] : List Nat)) (fun rr h => rr = none ∧ h = xup (xup (xup (xup (xup (xup (hp) 11 (.inl (0, 24, .inl (fun _ => 0)))) v (.inr (5, [.ref 11, .null, .null]))) 12 (.inl (0, 24, .inl (fun _ => 0)))) v (.inr (5, [.ref 11, .ref 12, .null]))) 13 (.inl (1, 24, .inr (.inl (fun _ => 0))))) v (.inr (5, [.ref 11, .ref 12, .ref 13]))) xNX := by
  refine xMet_of hflags (by decide +kernel) (fun j h1 h2 => by simp only [List.mem_cons, List.not_mem_nil, or_false] at h2; omega) (Nat.le_of_ble_eq_true rfl) ?_
  intro E C I hret hthr
  refine a_loc [(0, .ref v)] (xsub_cons rfl (xsub_nil)) ?_
  refine a_aload_n (i := 0) C dX5_init_0 rfl rfl ?_
  refine a_oinit C dX5_init_1 tb103 tb52 tb53 (Nat.le_of_ble_eq_true rfl) (Nat.le_of_ble_eq_true rfl) (Nat.le_of_ble_eq_true rfl) ?_
  refine a_aload_n (i := 0) C dX5_init_4 rfl rfl ?_
  refine a_bipush (v := 24) C dX5_init_5 (by decide) ?_
  refine a_newa C 11 0 (ty := .int) (N := 24) (f := .inl (fun _ => 0)) dX5_init_7 rfl (fun _ => rfl) (fun _ z => FieldType.noConfusion z) tb97 (fun _ => rfl) (fun _ => rfl) (by decide) (by decide) (by decide) (by decide) ⟨(fun j e _ he => hF 11 (by decide) j e he), fun q hq => ?_, fun v9 hv9 => ?_⟩ (Nat.le_of_ble_eq_true rfl) (Nat.le_of_ble_eq_true rfl) ?_
  · cases List.mem_singleton.mp hq
    exact fun z => hvb 11 (by decide) (Value.ref.inj z)
  · cases List.mem_singleton.mp hv9
    exact fun z => hvb 11 (by decide) (Value.ref.inj z)
  · refine a_putF C (I rfl) dX5_init_9 fl_X5_9 rfl ((xup_n (hvb 11 (by decide))).trans hv) (Nat.le_of_ble_eq_true rfl) rfl rfl ?_
    refine a_aload_n (i := 0) C dX5_init_12 rfl rfl ?_
    refine a_bipush (v := 24) C dX5_init_13 (by decide) ?_
    refine a_newa C 12 0 (ty := .int) (N := 24) (f := .inl (fun _ => 0)) dX5_init_15 rfl (fun _ => rfl) (fun _ z => FieldType.noConfusion z) tb97 (fun _ => rfl) (fun _ => rfl) (by decide) (by decide) (by decide) (by decide) ⟨(xnr_up (xnr_up (fun j e _ he => hF 12 (by decide) j e he) xnr_i) (xnr_o (fun y hy => by simp only [List.set, zX3, zX5, zX6, List.mem_cons, List.not_mem_nil, or_false] at hy; rcases hy with rfl | rfl | rfl <;> first | exact fun z => Value.noConfusion z | exact xnwO_no (by decide)))), fun q hq => ?_, fun v9 hv9 => ?_⟩ (Nat.le_of_ble_eq_true rfl) (Nat.le_of_ble_eq_true rfl) ?_
    · cases List.mem_singleton.mp hq
      exact fun z => hvb 12 (by decide) (Value.ref.inj z)
    · cases List.mem_singleton.mp hv9
      exact fun z => hvb 12 (by decide) (Value.ref.inj z)
    · refine a_putF C (I rfl) dX5_init_17 fl_X5_15 rfl ((xup_n (hvb 12 (by decide))).trans xup_s) (Nat.le_of_ble_eq_true rfl) rfl rfl ?_
      refine a_aload_n (i := 0) C dX5_init_20 rfl rfl ?_
      refine a_bipush (v := 24) C dX5_init_21 (by decide) ?_
      refine a_newa C 13 1 (ty := .long) (N := 24) (f := .inr (.inl (fun _ => 0))) dX5_init_23 rfl (fun _ => rfl) (fun _ z => FieldType.noConfusion z) tb114 (fun _ => rfl) (fun _ => rfl) (by decide) (by decide) (by decide) (by decide) ⟨(xnr_up (xnr_up (xnr_up (xnr_up (fun j e _ he => hF 13 (by decide) j e he) xnr_i) (xnr_o (fun y hy => by simp only [List.set, zX3, zX5, zX6, List.mem_cons, List.not_mem_nil, or_false] at hy; rcases hy with rfl | rfl | rfl <;> first | exact fun z => Value.noConfusion z | exact xnwO_no (by decide)))) xnr_i) (xnr_o (fun y hy => by simp only [List.set, zX3, zX5, zX6, List.mem_cons, List.not_mem_nil, or_false] at hy; rcases hy with rfl | rfl | rfl <;> first | exact fun z => Value.noConfusion z | exact xnwO_no (by decide)))), fun q hq => ?_, fun v9 hv9 => ?_⟩ (Nat.le_of_ble_eq_true rfl) (Nat.le_of_ble_eq_true rfl) ?_
      · cases List.mem_singleton.mp hq
        exact fun z => hvb 13 (by decide) (Value.ref.inj z)
      · cases List.mem_singleton.mp hv9
        exact fun z => hvb 13 (by decide) (Value.ref.inj z)
      · refine a_putF C (I rfl) dX5_init_25 fl_X5_18 rfl ((xup_n (hvb 13 (by decide))).trans xup_s) (Nat.le_of_ble_eq_true rfl) rfl rfl ?_
        exact a_vret C dX5_init_28 (Nat.le_of_ble_eq_true rfl) (Nat.le_of_ble_eq_true rfl) (hret _ _ ⟨rfl, rfl⟩)
set_option maxRecDepth 100000 in
set_option maxHeartbeats 4000000 in
theorem m_X6_init {l : Launch} {N0 : Nat} {D : va_G} {dT : Nat → ClassId} (hflags : l.stackTraces = false) {h : xH} (hbs : xBs h)  : xMet l N0 D dT yX6_init cX6_init 1 none 4 10 215 [.ref 0] (xup h 0 (.inr (6, zX6))) (fun j => (1 ≤ j ∧ j ≤ 13) ∨ (300 ≤ j ∧ j ≤ 399)) (fun r h' => r = none ∧ h' = xC h 0 0 0 0 0 z_f z_g (fun _ _ => 0) (fun _ => 0)) xNX := by
  refine xMet_of hflags (by decide +kernel) (fun j h1 h2 => by omega) (Nat.le_of_ble_eq_true rfl) ?_
  intro E C I hret hthr
  refine a_loc [(0, .ref 0)] (xsub_cons rfl (xsub_nil)) ?_
  refine a_aload_n (i := 0) C dX6_init_0 rfl rfl ?_
  refine a_oinit C dX6_init_1 tb51 tb52 tb53 (Nat.le_of_ble_eq_true rfl) (Nat.le_of_ble_eq_true rfl) (Nat.le_of_ble_eq_true rfl) ?_
  obtain ⟨H0, hH0⟩ : ∃ H, H = xup h 0 (.inr (6, zX6)) := ⟨_, rfl⟩
  rw [← hH0]
  have b0 : H0 0 = some (.inr (6, [.null, .null, .null, .null, .null, .int 0])) := by rw [hH0]; exact xup_s
  have o0 : ∀ j, j ∉ ([0] : List Nat) → H0 j = h j := fun j hj => by rw [hH0]; exact xup_n (fun z => hj (by rw [z]; decide))
  have F0 : ∀ b, (b < 200 ∨ (300 ≤ b ∧ b ≤ 399)) → b ∉ ([0] : List Nat) → ∀ j e, H0 j = some e → xnr b e := fun b hb hn j e he => by
    by_cases hj : j = 0
    · subst hj
      rw [b0] at he
      cases he
      exact xnr_o (fun y hy => by simp only [List.mem_cons, List.not_mem_nil, or_false] at hy; rcases hy with rfl | rfl | rfl | rfl | rfl | rfl <;> exact fun z => Value.noConfusion z)
    · exact hbs j e (by rw [← o0 j (fun z => hj (List.mem_singleton.mp z))]; exact he) b hb
  clear hH0
  refine a_aload_n (i := 0) C dX6_init_4 rfl rfl ?_
  refine a_new C (1) (ci := 0) (T := TJx4a65c) (ty := tyJx4a65c) (fs := zJx4a65c) dX6_init_5 tb54 tb55 tb27 in_Jx4a65c tyJx4a65c_ok rfl nf_Jx4a65c nr_Jx4a65c (by decide) ⟨fun j e _ he => F0 1 (by decide) (by decide) j e he, fun q hq => (by cases List.mem_singleton.mp hq; exact xnwO_no (by decide)), fun v hv => (by cases List.mem_singleton.mp hv; exact xnwO_no (by decide))⟩ (Nat.le_of_ble_eq_true rfl) (Nat.le_of_ble_eq_true rfl) ?_
  refine a_dup C dX6_init_8 rfl ?_
  refine a_callI C dX6_init_9 ci_Jx4a65c_init_da8c8 tb56 (m_Jx4a65c_init_da8c8 hflags xup_s) rfl rfl (Nat.le_of_ble_eq_true rfl) ⟨Nat.le_of_ble_eq_true rfl, Nat.le_of_ble_eq_true rfl⟩ ⟨Nat.le_of_ble_eq_true rfl, Nat.le_of_ble_eq_true rfl⟩ (fun _ h => h.elim) xav_no (fun r9 hp9 hq9 => ?_)
  obtain ⟨rfl, rfl⟩ := hq9
  refine a_putF C (I rfl) dX6_init_12 fl_X6_10 rfl ((xup_n (by decide)).trans ((xup_n (by decide)).trans b0)) (Nat.le_of_ble_eq_true rfl) rfl rfl ?_
  refine a_gen ?_
  intro H1 hH1
  have b1 : H1 0 = some (.inr (6, [.ref 1, .null, .null, .null, .null, .int 0])) := by rw [hH1]; exact xup_s
  have e1_1 : H1 1 = some (.inr (0, xLo 0 0)) := by rw [hH1]; exact ((xup_n (by decide)).trans xup_s)
  have o1 : ∀ j, j ∉ ([0, 1] : List Nat) → H1 j = h j := fun j hj => by rw [hH1]; exact ((xup_n (fun z => hj (by rw [z]; decide))).trans ((xup_n (fun z => hj (by rw [z]; decide))).trans ((xup_n (fun z => hj (by rw [z]; decide))).trans (o0 j (fun z => hj (by simp only [List.mem_cons, List.not_mem_nil, or_false] at z ⊢; omega))))))
  have F1 : ∀ b, (b < 200 ∨ (300 ≤ b ∧ b ≤ 399)) → b ∉ ([0, 1] : List Nat) → ∀ j e, H1 j = some e → xnr b e := fun b hb hn => by rw [hH1]; exact (fun j e he => xup_nr (fun j e he => xup_nr (fun j e he => xup_nr (fun j e he => F0 b hb (fun z => hn (by simp only [List.mem_cons, List.not_mem_nil, or_false] at z ⊢; omega)) j e he) (by first | exact xnr_o (fun y hy => nr_Jx4a65c y hy _) | exact xnr_o (fun y hy => by simp only [List.set, zX3, zX5, xLo, List.mem_cons, List.not_mem_nil, or_false] at hy; rcases hy with rfl | rfl | rfl <;> first | exact fun z => Value.noConfusion z | exact fun z => hn (by rw [← (Value.ref.inj z : (_ : Nat) = b)]; decide) | (intro z; have z2 : (901 : Nat) = b := Value.ref.inj z; omega))) j e he) (by first | exact xnr_o (fun y hy => nr_Jx4a65c y hy _) | exact xnr_o (fun y hy => by simp only [List.set, zX3, zX5, xLo, List.mem_cons, List.not_mem_nil, or_false] at hy; rcases hy with rfl | rfl | rfl <;> first | exact fun z => Value.noConfusion z | exact fun z => hn (by rw [← (Value.ref.inj z : (_ : Nat) = b)]; decide) | (intro z; have z2 : (901 : Nat) = b := Value.ref.inj z; omega))) j e he) (xnr_o (fun y hy => by simp only [List.set, zX3, zX5, zX6, List.mem_cons, List.not_mem_nil, or_false] at hy; rcases hy with rfl | rfl | rfl | rfl | rfl | rfl <;> first | exact fun z => Value.noConfusion z | exact fun z => hn (by rw [← (Value.ref.inj z : (_ : Nat) = b)]; decide))) j e he)
  clear hH1 b0 o0 F0 
  refine a_aload_n (i := 0) C dX6_init_15 rfl rfl ?_
  refine a_new C (2) (ci := 0) (T := TJx4a65c) (ty := tyJx4a65c) (fs := zJx4a65c) dX6_init_16 tb54 tb55 tb27 in_Jx4a65c tyJx4a65c_ok rfl nf_Jx4a65c nr_Jx4a65c (by decide) ⟨fun j e _ he => F1 2 (by decide) (by decide) j e he, fun q hq => (by cases List.mem_singleton.mp hq; exact xnwO_no (by decide)), fun v hv => (by cases List.mem_singleton.mp hv; exact xnwO_no (by decide))⟩ (Nat.le_of_ble_eq_true rfl) (Nat.le_of_ble_eq_true rfl) ?_
  refine a_dup C dX6_init_19 rfl ?_
  refine a_callI C dX6_init_20 ci_Jx4a65c_init_da8c8 tb56 (m_Jx4a65c_init_da8c8 hflags xup_s) rfl rfl (Nat.le_of_ble_eq_true rfl) ⟨Nat.le_of_ble_eq_true rfl, Nat.le_of_ble_eq_true rfl⟩ ⟨Nat.le_of_ble_eq_true rfl, Nat.le_of_ble_eq_true rfl⟩ (fun _ h => h.elim) xav_no (fun r20 hp20 hq20 => ?_)
  obtain ⟨rfl, rfl⟩ := hq20
  refine a_putF C (I rfl) dX6_init_23 fl_X6_16 rfl ((xup_n (by decide)).trans ((xup_n (by decide)).trans b1)) (Nat.le_of_ble_eq_true rfl) rfl rfl ?_
  refine a_gen ?_
  intro H2 hH2
  have b2 : H2 0 = some (.inr (6, [.ref 1, .ref 2, .null, .null, .null, .int 0])) := by rw [hH2]; exact xup_s
  have e2_2 : H2 2 = some (.inr (0, xLo 0 0)) := by rw [hH2]; exact ((xup_n (by decide)).trans xup_s)
  have e2_1 : H2 1 = some (.inr (0, xLo 0 0)) := by rw [hH2]; exact ((xup_n (by decide)).trans ((xup_n (by decide)).trans ((xup_n (by decide)).trans e1_1)))
  have o2 : ∀ j, j ∉ ([0, 1, 2] : List Nat) → H2 j = h j := fun j hj => by rw [hH2]; exact ((xup_n (fun z => hj (by rw [z]; decide))).trans ((xup_n (fun z => hj (by rw [z]; decide))).trans ((xup_n (fun z => hj (by rw [z]; decide))).trans (o1 j (fun z => hj (by simp only [List.mem_cons, List.not_mem_nil, or_false] at z ⊢; omega))))))
  have F2 : ∀ b, (b < 200 ∨ (300 ≤ b ∧ b ≤ 399)) → b ∉ ([0, 1, 2] : List Nat) → ∀ j e, H2 j = some e → xnr b e := fun b hb hn => by rw [hH2]; exact (fun j e he => xup_nr (fun j e he => xup_nr (fun j e he => xup_nr (fun j e he => F1 b hb (fun z => hn (by simp only [List.mem_cons, List.not_mem_nil, or_false] at z ⊢; omega)) j e he) (by first | exact xnr_o (fun y hy => nr_Jx4a65c y hy _) | exact xnr_o (fun y hy => by simp only [List.set, zX3, zX5, xLo, List.mem_cons, List.not_mem_nil, or_false] at hy; rcases hy with rfl | rfl | rfl <;> first | exact fun z => Value.noConfusion z | exact fun z => hn (by rw [← (Value.ref.inj z : (_ : Nat) = b)]; decide) | (intro z; have z2 : (901 : Nat) = b := Value.ref.inj z; omega))) j e he) (by first | exact xnr_o (fun y hy => nr_Jx4a65c y hy _) | exact xnr_o (fun y hy => by simp only [List.set, zX3, zX5, xLo, List.mem_cons, List.not_mem_nil, or_false] at hy; rcases hy with rfl | rfl | rfl <;> first | exact fun z => Value.noConfusion z | exact fun z => hn (by rw [← (Value.ref.inj z : (_ : Nat) = b)]; decide) | (intro z; have z2 : (901 : Nat) = b := Value.ref.inj z; omega))) j e he) (xnr_o (fun y hy => by simp only [List.set, zX3, zX5, zX6, List.mem_cons, List.not_mem_nil, or_false] at hy; rcases hy with rfl | rfl | rfl | rfl | rfl | rfl <;> first | exact fun z => Value.noConfusion z | exact fun z => hn (by rw [← (Value.ref.inj z : (_ : Nat) = b)]; decide))) j e he)
  clear hH2 b1 o1 F1 e1_1
  refine a_aload_n (i := 0) C dX6_init_26 rfl rfl ?_
  refine a_new C (3) (ci := 0) (T := TJx4a65c) (ty := tyJx4a65c) (fs := zJx4a65c) dX6_init_27 tb54 tb55 tb27 in_Jx4a65c tyJx4a65c_ok rfl nf_Jx4a65c nr_Jx4a65c (by decide) ⟨fun j e _ he => F2 3 (by decide) (by decide) j e he, fun q hq => (by cases List.mem_singleton.mp hq; exact xnwO_no (by decide)), fun v hv => (by cases List.mem_singleton.mp hv; exact xnwO_no (by decide))⟩ (Nat.le_of_ble_eq_true rfl) (Nat.le_of_ble_eq_true rfl) ?_
  refine a_dup C dX6_init_30 rfl ?_
  refine a_callI C dX6_init_31 ci_Jx4a65c_init_da8c8 tb56 (m_Jx4a65c_init_da8c8 hflags xup_s) rfl rfl (Nat.le_of_ble_eq_true rfl) ⟨Nat.le_of_ble_eq_true rfl, Nat.le_of_ble_eq_true rfl⟩ ⟨Nat.le_of_ble_eq_true rfl, Nat.le_of_ble_eq_true rfl⟩ (fun _ h => h.elim) xav_no (fun r31 hp31 hq31 => ?_)
  obtain ⟨rfl, rfl⟩ := hq31
  refine a_putF C (I rfl) dX6_init_34 fl_X6_19 rfl ((xup_n (by decide)).trans ((xup_n (by decide)).trans b2)) (Nat.le_of_ble_eq_true rfl) rfl rfl ?_
  refine a_gen ?_
  intro H3 hH3
  have b3 : H3 0 = some (.inr (6, [.ref 1, .ref 2, .ref 3, .null, .null, .int 0])) := by rw [hH3]; exact xup_s
  have e3_3 : H3 3 = some (.inr (0, xLo 0 0)) := by rw [hH3]; exact ((xup_n (by decide)).trans xup_s)
  have e3_1 : H3 1 = some (.inr (0, xLo 0 0)) := by rw [hH3]; exact ((xup_n (by decide)).trans ((xup_n (by decide)).trans ((xup_n (by decide)).trans e2_1)))
  have e3_2 : H3 2 = some (.inr (0, xLo 0 0)) := by rw [hH3]; exact ((xup_n (by decide)).trans ((xup_n (by decide)).trans ((xup_n (by decide)).trans e2_2)))
  have o3 : ∀ j, j ∉ ([0, 1, 2, 3] : List Nat) → H3 j = h j := fun j hj => by rw [hH3]; exact ((xup_n (fun z => hj (by rw [z]; decide))).trans ((xup_n (fun z => hj (by rw [z]; decide))).trans ((xup_n (fun z => hj (by rw [z]; decide))).trans (o2 j (fun z => hj (by simp only [List.mem_cons, List.not_mem_nil, or_false] at z ⊢; omega))))))
  have F3 : ∀ b, (b < 200 ∨ (300 ≤ b ∧ b ≤ 399)) → b ∉ ([0, 1, 2, 3] : List Nat) → ∀ j e, H3 j = some e → xnr b e := fun b hb hn => by rw [hH3]; exact (fun j e he => xup_nr (fun j e he => xup_nr (fun j e he => xup_nr (fun j e he => F2 b hb (fun z => hn (by simp only [List.mem_cons, List.not_mem_nil, or_false] at z ⊢; omega)) j e he) (by first | exact xnr_o (fun y hy => nr_Jx4a65c y hy _) | exact xnr_o (fun y hy => by simp only [List.set, zX3, zX5, xLo, List.mem_cons, List.not_mem_nil, or_false] at hy; rcases hy with rfl | rfl | rfl <;> first | exact fun z => Value.noConfusion z | exact fun z => hn (by rw [← (Value.ref.inj z : (_ : Nat) = b)]; decide) | (intro z; have z2 : (901 : Nat) = b := Value.ref.inj z; omega))) j e he) (by first | exact xnr_o (fun y hy => nr_Jx4a65c y hy _) | exact xnr_o (fun y hy => by simp only [List.set, zX3, zX5, xLo, List.mem_cons, List.not_mem_nil, or_false] at hy; rcases hy with rfl | rfl | rfl <;> first | exact fun z => Value.noConfusion z | exact fun z => hn (by rw [← (Value.ref.inj z : (_ : Nat) = b)]; decide) | (intro z; have z2 : (901 : Nat) = b := Value.ref.inj z; omega))) j e he) (xnr_o (fun y hy => by simp only [List.set, zX3, zX5, zX6, List.mem_cons, List.not_mem_nil, or_false] at hy; rcases hy with rfl | rfl | rfl | rfl | rfl | rfl <;> first | exact fun z => Value.noConfusion z | exact fun z => hn (by rw [← (Value.ref.inj z : (_ : Nat) = b)]; decide))) j e he)
  clear hH3 b2 o2 F2 e2_1 e2_2
  refine a_aload_n (i := 0) C dX6_init_37 rfl rfl ?_
  refine a_new C (7) (ci := 3) (T := TX3) (ty := tyX3) (fs := zX3) dX6_init_38 tb80 tb81 tb28 in_X3 tyX3_ok rfl nf_X3 nr_X3 (by decide) ⟨fun j e _ he => F3 7 (by decide) (by decide) j e he, fun q hq => (by cases List.mem_singleton.mp hq; exact xnwO_no (by decide)), fun v hv => (by cases List.mem_singleton.mp hv; exact xnwO_no (by decide))⟩ (Nat.le_of_ble_eq_true rfl) (Nat.le_of_ble_eq_true rfl) ?_
  refine a_dup C dX6_init_41 rfl ?_
  refine a_callIN C dX6_init_42 ci_X3_init tb82 (m_X3_init hflags xup_s (fun b hb => by simp only [List.mem_cons, List.not_mem_nil, or_false] at hb; omega) (fun b hb j e he => xup_nr (fun j e he => F3 b (by simp only [List.mem_cons, List.not_mem_nil, or_false] at hb; omega) (by simp only [List.mem_cons, List.not_mem_nil, or_false] at hb ⊢; omega) j e he) (xnr_o (fun y hy => nr_X3 y hy _)) j e he)) rfl rfl (Nat.le_of_ble_eq_true rfl) ⟨Nat.le_of_ble_eq_true rfl, Nat.le_of_ble_eq_true rfl⟩ ⟨Nat.le_of_ble_eq_true rfl, Nat.le_of_ble_eq_true rfl⟩ (fun j hj => by simp only [List.mem_cons, List.not_mem_nil, or_false] at hj; show (1 ≤ j ∧ j ≤ 13) ∨ (300 ≤ j ∧ j ≤ 399); omega) ⟨fun q hq j hj => (by cases List.mem_singleton.mp hq; cases Value.ref.inj hj; show 0 ∉ _; decide), fun v hv j hj => (by simp only [Option.toList, List.append_eq, List.nil_append, List.append_nil, List.mem_cons, List.not_mem_nil, or_false] at hv; rcases hv with rfl | rfl <;> (cases Value.ref.inj hj; show _ ∉ _; decide))⟩ (fun r42 hp42 hq42 => ?_)
  obtain ⟨rfl, rfl⟩ := hq42
  refine a_putF C (I rfl) dX6_init_45 fl_X6_25 rfl ((xup_n (by decide)).trans ((xup_n (by decide)).trans ((xup_n (by decide)).trans ((xup_n (by decide)).trans ((xup_n (by decide)).trans b3))))) (Nat.le_of_ble_eq_true rfl) rfl rfl ?_
  refine a_gen ?_
  intro H4 hH4
  have b4 : H4 0 = some (.inr (6, [.ref 1, .ref 2, .ref 3, .ref 7, .null, .int 0])) := by rw [hH4]; exact xup_s
  have e4_7 : H4 7 = some (.inr (3, [.int 0, .ref 340, .ref 350])) := by rw [hH4]; exact ((xup_n (by decide)).trans xup_s)
  have e4_340 : H4 340 = some ((.inl (0, 64, .inl (fun _ => 0)))) := by rw [hH4]; exact ((xup_n (by decide)).trans ((xup_n (by decide)).trans ((xup_n (by decide)).trans ((xup_n (by decide)).trans xup_s))))
  have e4_350 : H4 350 = some ((.inl (0, 64, .inl (fun _ => 0)))) := by rw [hH4]; exact ((xup_n (by decide)).trans ((xup_n (by decide)).trans xup_s))
  have e4_1 : H4 1 = some (.inr (0, xLo 0 0)) := by rw [hH4]; exact ((xup_n (by decide)).trans ((xup_n (by decide)).trans ((xup_n (by decide)).trans ((xup_n (by decide)).trans ((xup_n (by decide)).trans ((xup_n (by decide)).trans e3_1))))))
  have e4_2 : H4 2 = some (.inr (0, xLo 0 0)) := by rw [hH4]; exact ((xup_n (by decide)).trans ((xup_n (by decide)).trans ((xup_n (by decide)).trans ((xup_n (by decide)).trans ((xup_n (by decide)).trans ((xup_n (by decide)).trans e3_2))))))
  have e4_3 : H4 3 = some (.inr (0, xLo 0 0)) := by rw [hH4]; exact ((xup_n (by decide)).trans ((xup_n (by decide)).trans ((xup_n (by decide)).trans ((xup_n (by decide)).trans ((xup_n (by decide)).trans ((xup_n (by decide)).trans e3_3))))))
  have o4 : ∀ j, j ∉ ([0, 1, 2, 3, 7, 340, 350] : List Nat) → H4 j = h j := fun j hj => by rw [hH4]; exact ((xup_n (fun z => hj (by rw [z]; decide))).trans ((xup_n (fun z => hj (by rw [z]; decide))).trans ((xup_n (fun z => hj (by rw [z]; decide))).trans ((xup_n (fun z => hj (by rw [z]; decide))).trans ((xup_n (fun z => hj (by rw [z]; decide))).trans ((xup_n (fun z => hj (by rw [z]; decide))).trans (o3 j (fun z => hj (by simp only [List.mem_cons, List.not_mem_nil, or_false] at z ⊢; omega)))))))))
  have F4 : ∀ b, (b < 200 ∨ (300 ≤ b ∧ b ≤ 399)) → b ∉ ([0, 1, 2, 3, 7, 340, 350] : List Nat) → ∀ j e, H4 j = some e → xnr b e := fun b hb hn => by rw [hH4]; exact (fun j e he => xup_nr (fun j e he => xup_nr (fun j e he => xup_nr (fun j e he => xup_nr (fun j e he => xup_nr (fun j e he => xup_nr (fun j e he => F3 b hb (fun z => hn (by simp only [List.mem_cons, List.not_mem_nil, or_false] at z ⊢; omega)) j e he) (by first | exact xnr_o (fun y hy => nr_X3 y hy _) | exact xnr_o (fun y hy => by simp only [List.set, zX3, zX5, xLo, List.mem_cons, List.not_mem_nil, or_false] at hy; rcases hy with rfl | rfl | rfl <;> first | exact fun z => Value.noConfusion z | exact fun z => hn (by rw [← (Value.ref.inj z : (_ : Nat) = b)]; decide) | (intro z; have z2 : (901 : Nat) = b := Value.ref.inj z; omega))) j e he) xnr_i j e he) (by first | exact xnr_o (fun y hy => nr_X3 y hy _) | exact xnr_o (fun y hy => by simp only [List.set, zX3, zX5, xLo, List.mem_cons, List.not_mem_nil, or_false] at hy; rcases hy with rfl | rfl | rfl <;> first | exact fun z => Value.noConfusion z | exact fun z => hn (by rw [← (Value.ref.inj z : (_ : Nat) = b)]; decide) | (intro z; have z2 : (901 : Nat) = b := Value.ref.inj z; omega))) j e he) xnr_i j e he) (by first | exact xnr_o (fun y hy => nr_X3 y hy _) | exact xnr_o (fun y hy => by simp only [List.set, zX3, zX5, xLo, List.mem_cons, List.not_mem_nil, or_false] at hy; rcases hy with rfl | rfl | rfl <;> first | exact fun z => Value.noConfusion z | exact fun z => hn (by rw [← (Value.ref.inj z : (_ : Nat) = b)]; decide) | (intro z; have z2 : (901 : Nat) = b := Value.ref.inj z; omega))) j e he) (xnr_o (fun y hy => by simp only [List.set, zX3, zX5, zX6, List.mem_cons, List.not_mem_nil, or_false] at hy; rcases hy with rfl | rfl | rfl | rfl | rfl | rfl <;> first | exact fun z => Value.noConfusion z | exact fun z => hn (by rw [← (Value.ref.inj z : (_ : Nat) = b)]; decide))) j e he)
  clear hH4 b3 o3 F3 e3_1 e3_2 e3_3
  refine a_aload_n (i := 0) C dX6_init_48 rfl rfl ?_
  refine a_new C (10) (ci := 5) (T := TX5) (ty := tyX5) (fs := zX5) dX6_init_49 tb98 tb99 tb29 in_X5 tyX5_ok rfl nf_X5 nr_X5 (by decide) ⟨fun j e _ he => F4 10 (by decide) (by decide) j e he, fun q hq => (by cases List.mem_singleton.mp hq; exact xnwO_no (by decide)), fun v hv => (by cases List.mem_singleton.mp hv; exact xnwO_no (by decide))⟩ (Nat.le_of_ble_eq_true rfl) (Nat.le_of_ble_eq_true rfl) ?_
  refine a_dup C dX6_init_52 rfl ?_
  refine a_callIN C dX6_init_53 ci_X5_init tb100 (m_X5_init hflags xup_s (fun b hb => by simp only [List.mem_cons, List.not_mem_nil, or_false] at hb; omega) (fun b hb j e he => xup_nr (fun j e he => F4 b (by simp only [List.mem_cons, List.not_mem_nil, or_false] at hb; omega) (by simp only [List.mem_cons, List.not_mem_nil, or_false] at hb ⊢; omega) j e he) (xnr_o (fun y hy => nr_X5 y hy _)) j e he)) rfl rfl (Nat.le_of_ble_eq_true rfl) ⟨Nat.le_of_ble_eq_true rfl, Nat.le_of_ble_eq_true rfl⟩ ⟨Nat.le_of_ble_eq_true rfl, Nat.le_of_ble_eq_true rfl⟩ (fun j hj => by simp only [List.mem_cons, List.not_mem_nil, or_false] at hj; show (1 ≤ j ∧ j ≤ 13) ∨ (300 ≤ j ∧ j ≤ 399); omega) ⟨fun q hq j hj => (by cases List.mem_singleton.mp hq; cases Value.ref.inj hj; show 0 ∉ _; decide), fun v hv j hj => (by simp only [Option.toList, List.append_eq, List.nil_append, List.append_nil, List.mem_cons, List.not_mem_nil, or_false] at hv; rcases hv with rfl | rfl <;> (cases Value.ref.inj hj; show _ ∉ _; decide))⟩ (fun r53 hp53 hq53 => ?_)
  obtain ⟨rfl, rfl⟩ := hq53
  refine a_putF C (I rfl) dX6_init_56 fl_X6_32 rfl ((xup_n (by decide)).trans ((xup_n (by decide)).trans ((xup_n (by decide)).trans ((xup_n (by decide)).trans ((xup_n (by decide)).trans ((xup_n (by decide)).trans ((xup_n (by decide)).trans b4))))))) (Nat.le_of_ble_eq_true rfl) rfl rfl ?_
  refine a_gen ?_
  intro H5 hH5
  have b5 : H5 0 = some (.inr (6, [.ref 1, .ref 2, .ref 3, .ref 7, .ref 10, .int 0])) := by rw [hH5]; exact xup_s
  have e5_10 : H5 10 = some (.inr (5, [.ref 11, .ref 12, .ref 13])) := by rw [hH5]; exact ((xup_n (by decide)).trans xup_s)
  have e5_11 : H5 11 = some ((.inl (0, 24, .inl (fun _ => 0)))) := by rw [hH5]; exact ((xup_n (by decide)).trans ((xup_n (by decide)).trans ((xup_n (by decide)).trans ((xup_n (by decide)).trans ((xup_n (by decide)).trans ((xup_n (by decide)).trans xup_s))))))
  have e5_12 : H5 12 = some ((.inl (0, 24, .inl (fun _ => 0)))) := by rw [hH5]; exact ((xup_n (by decide)).trans ((xup_n (by decide)).trans ((xup_n (by decide)).trans ((xup_n (by decide)).trans xup_s))))
  have e5_13 : H5 13 = some ((.inl (1, 24, .inr (.inl (fun _ => 0))))) := by rw [hH5]; exact ((xup_n (by decide)).trans ((xup_n (by decide)).trans xup_s))
  have e5_1 : H5 1 = some (.inr (0, xLo 0 0)) := by rw [hH5]; exact ((xup_n (by decide)).trans ((xup_n (by decide)).trans ((xup_n (by decide)).trans ((xup_n (by decide)).trans ((xup_n (by decide)).trans ((xup_n (by decide)).trans ((xup_n (by decide)).trans ((xup_n (by decide)).trans e4_1))))))))
  have e5_2 : H5 2 = some (.inr (0, xLo 0 0)) := by rw [hH5]; exact ((xup_n (by decide)).trans ((xup_n (by decide)).trans ((xup_n (by decide)).trans ((xup_n (by decide)).trans ((xup_n (by decide)).trans ((xup_n (by decide)).trans ((xup_n (by decide)).trans ((xup_n (by decide)).trans e4_2))))))))
  have e5_3 : H5 3 = some (.inr (0, xLo 0 0)) := by rw [hH5]; exact ((xup_n (by decide)).trans ((xup_n (by decide)).trans ((xup_n (by decide)).trans ((xup_n (by decide)).trans ((xup_n (by decide)).trans ((xup_n (by decide)).trans ((xup_n (by decide)).trans ((xup_n (by decide)).trans e4_3))))))))
  have e5_7 : H5 7 = some (.inr (3, [.int 0, .ref 340, .ref 350])) := by rw [hH5]; exact ((xup_n (by decide)).trans ((xup_n (by decide)).trans ((xup_n (by decide)).trans ((xup_n (by decide)).trans ((xup_n (by decide)).trans ((xup_n (by decide)).trans ((xup_n (by decide)).trans ((xup_n (by decide)).trans e4_7))))))))
  have e5_340 : H5 340 = some ((.inl (0, 64, .inl (fun _ => 0)))) := by rw [hH5]; exact ((xup_n (by decide)).trans ((xup_n (by decide)).trans ((xup_n (by decide)).trans ((xup_n (by decide)).trans ((xup_n (by decide)).trans ((xup_n (by decide)).trans ((xup_n (by decide)).trans ((xup_n (by decide)).trans e4_340))))))))
  have e5_350 : H5 350 = some ((.inl (0, 64, .inl (fun _ => 0)))) := by rw [hH5]; exact ((xup_n (by decide)).trans ((xup_n (by decide)).trans ((xup_n (by decide)).trans ((xup_n (by decide)).trans ((xup_n (by decide)).trans ((xup_n (by decide)).trans ((xup_n (by decide)).trans ((xup_n (by decide)).trans e4_350))))))))
  have o5 : ∀ j, j ∉ ([0, 1, 2, 3, 7, 340, 350, 10, 11, 12, 13] : List Nat) → H5 j = h j := fun j hj => by rw [hH5]; exact ((xup_n (fun z => hj (by rw [z]; decide))).trans ((xup_n (fun z => hj (by rw [z]; decide))).trans ((xup_n (fun z => hj (by rw [z]; decide))).trans ((xup_n (fun z => hj (by rw [z]; decide))).trans ((xup_n (fun z => hj (by rw [z]; decide))).trans ((xup_n (fun z => hj (by rw [z]; decide))).trans ((xup_n (fun z => hj (by rw [z]; decide))).trans ((xup_n (fun z => hj (by rw [z]; decide))).trans (o4 j (fun z => hj (by simp only [List.mem_cons, List.not_mem_nil, or_false] at z ⊢; omega)))))))))))
  have F5 : ∀ b, (b < 200 ∨ (300 ≤ b ∧ b ≤ 399)) → b ∉ ([0, 1, 2, 3, 7, 340, 350, 10, 11, 12, 13] : List Nat) → ∀ j e, H5 j = some e → xnr b e := fun b hb hn => by rw [hH5]; exact (fun j e he => xup_nr (fun j e he => xup_nr (fun j e he => xup_nr (fun j e he => xup_nr (fun j e he => xup_nr (fun j e he => xup_nr (fun j e he => xup_nr (fun j e he => xup_nr (fun j e he => F4 b hb (fun z => hn (by simp only [List.mem_cons, List.not_mem_nil, or_false] at z ⊢; omega)) j e he) (by first | exact xnr_o (fun y hy => nr_X5 y hy _) | exact xnr_o (fun y hy => by simp only [List.set, zX3, zX5, xLo, List.mem_cons, List.not_mem_nil, or_false] at hy; rcases hy with rfl | rfl | rfl <;> first | exact fun z => Value.noConfusion z | exact fun z => hn (by rw [← (Value.ref.inj z : (_ : Nat) = b)]; decide) | (intro z; have z2 : (901 : Nat) = b := Value.ref.inj z; omega))) j e he) xnr_i j e he) (by first | exact xnr_o (fun y hy => nr_X5 y hy _) | exact xnr_o (fun y hy => by simp only [List.set, zX3, zX5, xLo, List.mem_cons, List.not_mem_nil, or_false] at hy; rcases hy with rfl | rfl | rfl <;> first | exact fun z => Value.noConfusion z | exact fun z => hn (by rw [← (Value.ref.inj z : (_ : Nat) = b)]; decide) | (intro z; have z2 : (901 : Nat) = b := Value.ref.inj z; omega))) j e he) xnr_i j e he) (by first | exact xnr_o (fun y hy => nr_X5 y hy _) | exact xnr_o (fun y hy => by simp only [List.set, zX3, zX5, xLo, List.mem_cons, List.not_mem_nil, or_false] at hy; rcases hy with rfl | rfl | rfl <;> first | exact fun z => Value.noConfusion z | exact fun z => hn (by rw [← (Value.ref.inj z : (_ : Nat) = b)]; decide) | (intro z; have z2 : (901 : Nat) = b := Value.ref.inj z; omega))) j e he) xnr_l j e he) (by first | exact xnr_o (fun y hy => nr_X5 y hy _) | exact xnr_o (fun y hy => by simp only [List.set, zX3, zX5, xLo, List.mem_cons, List.not_mem_nil, or_false] at hy; rcases hy with rfl | rfl | rfl <;> first | exact fun z => Value.noConfusion z | exact fun z => hn (by rw [← (Value.ref.inj z : (_ : Nat) = b)]; decide) | (intro z; have z2 : (901 : Nat) = b := Value.ref.inj z; omega))) j e he) (xnr_o (fun y hy => by simp only [List.set, zX3, zX5, zX6, List.mem_cons, List.not_mem_nil, or_false] at hy; rcases hy with rfl | rfl | rfl | rfl | rfl | rfl <;> first | exact fun z => Value.noConfusion z | exact fun z => hn (by rw [← (Value.ref.inj z : (_ : Nat) = b)]; decide))) j e he)
  clear hH5 b4 o4 F4 e4_1 e4_2 e4_3 e4_7 e4_340 e4_350
  refine a_aload_n (i := 0) C dX6_init_59 rfl rfl ?_
  refine a_iconst (v := 0) C dX6_init_60 (by decide) ?_
  refine a_put C dX6_init_61 fl_X6_36 b5 (Nat.le_of_ble_eq_true rfl) rfl rfl ?_
  refine aW_sub (xC_to (h := h) (nc := 0) (ni := 0) (np := 0) (nl := 0) (t := 0) (f := z_f) (g := z_g) (jc := fun _ _ => 0) (jr := fun _ => 0) xup_s (by rw [xup_n (by decide)]; exact e5_1) (by rw [xup_n (by decide)]; exact e5_2) (by rw [xup_n (by decide)]; exact e5_3) (by rw [xup_n (by decide)]; exact e5_7) (by rw [xup_n (by decide)]; exact e5_10) (by rw [xup_n (by decide)]; exact e5_11) (by rw [xup_n (by decide)]; exact e5_12) (by rw [xup_n (by decide)]; exact e5_13) (fun i hi => absurd hi (Nat.not_lt_zero i)) (fun i hi => absurd hi (Nat.not_lt_zero i)) (fun i hi => absurd hi (Nat.not_lt_zero i)) (fun i hi => absurd hi (Nat.not_lt_zero i)) (fun z => absurd z (Nat.lt_irrefl 0)) (fun z => absurd z (Nat.lt_irrefl 0)) (fun z => absurd z (Nat.lt_irrefl 0)) (by show xup _ _ _ 340 = _; rw [xup_n (by decide), e5_340]; exact congrArg (fun z => some (Sum.inl (0, 64, Sum.inl z) : va_E)) xDr_0) (by show xup _ _ _ 350 = _; rw [xup_n (by decide), e5_350]; exact congrArg (fun z => some (Sum.inl (0, 64, Sum.inl z) : va_E)) xDr_0) (fun j e h1 h2 h3 => by rw [xup_n (by omega), o5 j (by simp only [List.mem_cons, List.not_mem_nil, or_false]; omega)]; exact h3)) ?_
  exact a_vret C dX6_init_64 (Nat.le_of_ble_eq_true rfl) (Nat.le_of_ble_eq_true rfl) (hret _ _ ⟨rfl, rfl⟩)
