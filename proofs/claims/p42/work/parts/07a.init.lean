abbrev zJx4a65c : List Value := [.int 0, .null, .int 0]
theorem nf_Jx4a65c : ∀ j, j < 3 → defaultValue (tyJx4a65c j) = vp_V zJx4a65c j := fun j hj => by
  have : j = 0 ∨ j = 1 ∨ j = 2 := by omega
  rcases this with rfl | rfl | rfl <;> rfl
theorem nr_Jx4a65c : ∀ v ∈ zJx4a65c, ∀ j, v ≠ .ref j := fun v hv j => by
  simp only [zJx4a65c, List.mem_cons, List.not_mem_nil, or_false] at hv
  rcases hv with rfl | rfl | rfl <;> exact fun z => Value.noConfusion z
abbrev zX0 : List Value := [.int 0, .int 0, .int 0, .int 0]
theorem nf_X0 : ∀ j, j < 4 → defaultValue (tyX0 j) = vp_V zX0 j := fun j hj => by
  have : j = 0 ∨ j = 1 ∨ j = 2 ∨ j = 3 := by omega
  rcases this with rfl | rfl | rfl | rfl <;> rfl
theorem nr_X0 : ∀ v ∈ zX0, ∀ j, v ≠ .ref j := fun v hv j => by
  simp only [zX0, List.mem_cons, List.not_mem_nil, or_false] at hv
  rcases hv with rfl | rfl | rfl | rfl <;> exact fun z => Value.noConfusion z
abbrev zX2 : List Value := [.null, .int 0, .int 0, .int 0, .int 0, .int 0, .int 0, .int 0, .int 0, .long 0]
theorem nf_X2 : ∀ j, j < 10 → defaultValue (tyX2 j) = vp_V zX2 j := fun j hj => by
  have : j = 0 ∨ j = 1 ∨ j = 2 ∨ j = 3 ∨ j = 4 ∨ j = 5 ∨ j = 6 ∨ j = 7 ∨ j = 8 ∨ j = 9 := by omega
  rcases this with rfl | rfl | rfl | rfl | rfl | rfl | rfl | rfl | rfl | rfl <;> rfl
theorem nr_X2 : ∀ v ∈ zX2, ∀ j, v ≠ .ref j := fun v hv j => by
  simp only [zX2, List.mem_cons, List.not_mem_nil, or_false] at hv
  rcases hv with rfl | rfl | rfl | rfl | rfl | rfl | rfl | rfl | rfl | rfl <;> exact fun z => Value.noConfusion z
abbrev zX3 : List Value := [.int 0, .null, .null]
theorem nf_X3 : ∀ j, j < 3 → defaultValue (tyX3 j) = vp_V zX3 j := fun j hj => by
  have : j = 0 ∨ j = 1 ∨ j = 2 := by omega
  rcases this with rfl | rfl | rfl <;> rfl
theorem nr_X3 : ∀ v ∈ zX3, ∀ j, v ≠ .ref j := fun v hv j => by
  simp only [zX3, List.mem_cons, List.not_mem_nil, or_false] at hv
  rcases hv with rfl | rfl | rfl <;> exact fun z => Value.noConfusion z
abbrev zX4 : List Value := [.null, .int 0, .int 0, .null, .int 0]
theorem nf_X4 : ∀ j, j < 5 → defaultValue (tyX4 j) = vp_V zX4 j := fun j hj => by
  have : j = 0 ∨ j = 1 ∨ j = 2 ∨ j = 3 ∨ j = 4 := by omega
  rcases this with rfl | rfl | rfl | rfl | rfl <;> rfl
theorem nr_X4 : ∀ v ∈ zX4, ∀ j, v ≠ .ref j := fun v hv j => by
  simp only [zX4, List.mem_cons, List.not_mem_nil, or_false] at hv
  rcases hv with rfl | rfl | rfl | rfl | rfl <;> exact fun z => Value.noConfusion z
abbrev zX5 : List Value := [.null, .null, .null]
theorem nf_X5 : ∀ j, j < 3 → defaultValue (tyX5 j) = vp_V zX5 j := fun j hj => by
  have : j = 0 ∨ j = 1 ∨ j = 2 := by omega
  rcases this with rfl | rfl | rfl <;> rfl
theorem nr_X5 : ∀ v ∈ zX5, ∀ j, v ≠ .ref j := fun v hv j => by
  simp only [zX5, List.mem_cons, List.not_mem_nil, or_false] at hv
  rcases hv with rfl | rfl | rfl <;> exact fun z => Value.noConfusion z
abbrev zX6 : List Value := [.null, .null, .null, .null, .null, .int 0]
theorem nf_X6 : ∀ j, j < 6 → defaultValue (tyX6 j) = vp_V zX6 j := fun j hj => by
  have : j = 0 ∨ j = 1 ∨ j = 2 ∨ j = 3 ∨ j = 4 ∨ j = 5 := by omega
  rcases this with rfl | rfl | rfl | rfl | rfl | rfl <;> rfl
theorem nr_X6 : ∀ v ∈ zX6, ∀ j, v ≠ .ref j := fun v hv j => by
  simp only [zX6, List.mem_cons, List.not_mem_nil, or_false] at hv
  rcases hv with rfl | rfl | rfl | rfl | rfl | rfl <;> exact fun z => Value.noConfusion z
set_option maxRecDepth 100000 in
set_option maxHeartbeats 4000000 in
theorem m_X0_init {l : Launch} {N0 : Nat} {D : va_G} {dT : Nat → ClassId} (hflags : l.stackTraces = false) {hp : xH} {v : Nat} {r c t : Int32} (hv : hp v = some (.inr (1, zX0)))  : xMet l N0 D dT yX0_init cX0_init 4 none 1 0 0 [.ref v, .int r, .int c, .int t] (hp) xNo (fun rr h => rr = none ∧ h = xup hp v (.inr (1, [.int c, .int r, .int t, .int 0]))) xNX := by
  refine xMet_of hflags (by decide +kernel) (fun _ _ h => h) (Nat.le_of_ble_eq_true rfl) ?_
  intro E C I hret hthr
  refine a_loc [(0, .ref v), (1, .int r), (2, .int c), (3, .int t)] (xsub_cons rfl (xsub_cons rfl (xsub_cons rfl (xsub_cons rfl (xsub_nil))))) ?_
  refine a_aload_n (i := 0) C dX0_init_0 rfl rfl ?_
  refine a_oinit C dX0_init_1 tb263 tb52 tb53 (Nat.le_of_ble_eq_true rfl) (Nat.le_of_ble_eq_true rfl) (Nat.le_of_ble_eq_true rfl) ?_
  refine a_aload_n (i := 0) C dX0_init_4 rfl rfl ?_
  refine a_iload_n (i := 1) C dX0_init_5 rfl rfl ?_
  refine a_put C dX0_init_6 fl_X0_9 hv (Nat.le_of_ble_eq_true rfl) rfl rfl ?_
  refine a_aload_n (i := 0) C dX0_init_9 rfl rfl ?_
  refine a_iload_n (i := 2) C dX0_init_10 rfl rfl ?_
  refine a_putF C (I rfl) dX0_init_11 fl_X0_15 rfl xup_s (Nat.le_of_ble_eq_true rfl) rfl rfl ?_
  refine a_hp xup_uu ?_
  refine a_aload_n (i := 0) C dX0_init_14 rfl rfl ?_
  refine a_iload_n (i := 3) C dX0_init_15 rfl rfl ?_
  refine a_put C dX0_init_16 fl_X0_18 xup_s (Nat.le_of_ble_eq_true rfl) rfl rfl ?_
  refine a_hp xup_uu ?_
  exact a_vret C dX0_init_19 (Nat.le_of_ble_eq_true rfl) (Nat.le_of_ble_eq_true rfl) (hret _ _ ⟨rfl, rfl⟩)
set_option maxRecDepth 100000 in
set_option maxHeartbeats 4000000 in
theorem m_X2_init {l : Launch} {N0 : Nat} {D : va_G} {dT : Nat → ClassId} (hflags : l.stackTraces = false) {hp : xH} {v o : Nat} {a d b : Int32} (hnb : narrow .boolean (.int b) = .int b) (hft : fits .boolean (.int b) = true) (hv : hp v = some (.inr (2, zX2)))  : xMet l N0 D dT yX2_init cX2_init 5 none 1 0 0 [.ref v, .ref o, .int a, .int d, .int b] (hp) xNo (fun rr h => rr = none ∧ h = xup hp v (.inr (2, [.ref o, .int a, .int d, .int b, .int 0, .int 0, .int 0, .int 0, .int 0, .long 0]))) xNX := by
  refine xMet_of hflags (by decide +kernel) (fun _ _ h => h) (Nat.le_of_ble_eq_true rfl) ?_
  intro E C I hret hthr
  refine a_loc [(0, .ref v), (1, .ref o), (2, .int a), (3, .int d), (4, .int b)] (xsub_cons rfl (xsub_cons rfl (xsub_cons rfl (xsub_cons rfl (xsub_cons rfl (xsub_nil)))))) ?_
  refine a_aload_n (i := 0) C dX2_init_0 rfl rfl ?_
  refine a_oinit C dX2_init_1 tb458 tb52 tb53 (Nat.le_of_ble_eq_true rfl) (Nat.le_of_ble_eq_true rfl) (Nat.le_of_ble_eq_true rfl) ?_
  refine a_aload_n (i := 0) C dX2_init_4 rfl rfl ?_
  refine a_aload_n (i := 1) C dX2_init_5 rfl rfl ?_
  refine a_putF C (I rfl) dX2_init_6 fl_X2_9 rfl hv (Nat.le_of_ble_eq_true rfl) rfl rfl ?_
  refine a_aload_n (i := 0) C dX2_init_9 rfl rfl ?_
  refine a_iload_n (i := 2) C dX2_init_10 rfl rfl ?_
  refine a_putF C (I rfl) dX2_init_11 fl_X2_15 rfl xup_s (Nat.le_of_ble_eq_true rfl) rfl rfl ?_
  refine a_hp xup_uu ?_
  refine a_aload_n (i := 0) C dX2_init_14 rfl rfl ?_
  refine a_iload_n (i := 3) C dX2_init_15 rfl rfl ?_
  refine a_putF C (I rfl) dX2_init_16 fl_X2_19 rfl xup_s (Nat.le_of_ble_eq_true rfl) rfl rfl ?_
  refine a_hp xup_uu ?_
  refine a_aload_n (i := 0) C dX2_init_19 rfl rfl ?_
  refine a_iload (i := 4) C dX2_init_20 rfl ?_
  refine a_putF C (I rfl) dX2_init_22 fl_X2_22 rfl xup_s (Nat.le_of_ble_eq_true rfl) hnb hft ?_
  refine a_hp xup_uu ?_
  exact a_vret C dX2_init_25 (Nat.le_of_ble_eq_true rfl) (Nat.le_of_ble_eq_true rfl) (hret _ _ ⟨rfl, rfl⟩)
set_option maxRecDepth 100000 in
set_option maxHeartbeats 4000000 in
theorem m_X4_init {l : Launch} {N0 : Nat} {D : va_G} {dT : Nat → ClassId} (hflags : l.stackTraces = false) {hp : xH} {v o b : Nat} {a : Int32} (hv9 : hp v = some (.inr (4, zX4))) (hb : b < 900) (hvb : v ≠ b) (hob : o ≠ b) (hfr : ∀ j e, j ≠ b → hp j = some e → xnr b e)  : xMet l N0 D dT yX4_init cX4_init 3 none 1 1 24 [.ref v, .ref o, .int a] (hp) (fun j => j = b) (fun rr h => rr = none ∧ h = xup (xup hp b (.inl (0, 24, .inl (fun _ => 0)))) v (.inr (4, [.ref o, .int 0, .int a, .ref b, .int 0]))) xNX := by
  refine xMet_of hflags (by decide +kernel) (fun j h1 h2 => by omega) (Nat.le_of_ble_eq_true rfl) ?_
  intro E C I hret hthr
  refine a_loc [(0, .ref v), (1, .ref o), (2, .int a)] (xsub_cons rfl (xsub_cons rfl (xsub_cons rfl (xsub_nil)))) ?_
  refine a_aload_n (i := 0) C dX4_init_0 rfl rfl ?_
  refine a_oinit C dX4_init_1 tb809 tb52 tb53 (Nat.le_of_ble_eq_true rfl) (Nat.le_of_ble_eq_true rfl) (Nat.le_of_ble_eq_true rfl) ?_
  refine a_aload_n (i := 0) C dX4_init_4 rfl rfl ?_
  refine a_bipush (v := 24) C dX4_init_5 (by decide) ?_
  refine a_newa C (b) 0 (ty := .int) (N := 24) (f := .inl (fun _ => 0)) dX4_init_7 rfl (fun _ => rfl) (fun _ z => FieldType.noConfusion z) tb97 (fun _ => rfl) (fun _ => rfl) (by decide) (by decide) (by decide) rfl ⟨hfr, fun q hq => ?_, fun v hv => ?_⟩ (Nat.le_of_ble_eq_true rfl) (Nat.le_of_ble_eq_true rfl) ?_
  · simp only [List.mem_cons, List.not_mem_nil, or_false] at hq
    rcases hq with rfl | rfl | rfl <;> first | exact fun z => Value.noConfusion z | first | exact fun z => hvb (Value.ref.inj z) | exact fun z => hob (Value.ref.inj z)
  · simp only [List.mem_cons, List.not_mem_nil, or_false] at hv
    subst hv
    exact fun z => hvb (Value.ref.inj z)
  · refine a_putF C (I rfl) dX4_init_9 fl_X4_9 rfl ((xup_n hvb).trans hv9) (Nat.le_of_ble_eq_true rfl) rfl rfl ?_
    refine a_aload_n (i := 0) C dX4_init_12 rfl rfl ?_
    refine a_aload_n (i := 1) C dX4_init_13 rfl rfl ?_
    refine a_putF C (I rfl) dX4_init_14 fl_X4_15 rfl xup_s (Nat.le_of_ble_eq_true rfl) rfl rfl ?_
    refine a_hp xup_uu ?_
    refine a_aload_n (i := 0) C dX4_init_17 rfl rfl ?_
    refine a_iload_n (i := 2) C dX4_init_18 rfl rfl ?_
    refine a_putF C (I rfl) dX4_init_19 fl_X4_19 rfl xup_s (Nat.le_of_ble_eq_true rfl) rfl rfl ?_
    refine a_hp xup_uu ?_
    exact a_vret C dX4_init_22 (Nat.le_of_ble_eq_true rfl) (Nat.le_of_ble_eq_true rfl) (hret _ _ ⟨rfl, rfl⟩)
