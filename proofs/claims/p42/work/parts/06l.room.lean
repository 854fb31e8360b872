theorem bif_ble {a b x y : Nat} : (bif Nat.ble a b then x else y) = if a ≤ b then x else y := by
  by_cases h : a ≤ b
  · rw [xleT h, if_pos h]; rfl
  · rw [xleF (by omega), if_neg h]; rfl
theorem lC_grow {c : Nat} (h : c ≤ 16000) (h2 : lCap c ≤ c) : lCap (c + 1) = 2 * c ∧ lGen (c + 1) = lGen c + 1 ∧ lCap c = c ∧ c ≤ 8192 ∧ 64 ≤ c := by
  have h3 := lCap_ge h
  have h4 : lCap c = c := by omega
  have : c = 64 ∨ c = 128 ∨ c = 256 ∨ c = 512 ∨ c = 1024 ∨ c = 2048 ∨ c = 4096 ∨ c = 8192 := by
    unfold lCap at h4
    simp only [bif_ble] at h4
    repeat' split at h4
    all_goals omega
  rcases this with rfl | rfl | rfl | rfl | rfl | rfl | rfl | rfl <;> decide
theorem lC_stay {c : Nat} (h2 : c < lCap c) : lCap (c + 1) = lCap c ∧ lGen (c + 1) = lGen c := by
  unfold lCap at h2
  simp only [bif_ble] at h2
  unfold lCap lGen
  simp only [bif_ble]
  repeat' split at h2
  all_goals (first | omega | (constructor <;> (repeat' split) <;> first | rfl | omega))
abbrev xnwD : Nat → Prop := fun j => 340 ≤ j ∧ j ≤ 399
theorem xr_2n (N : Nat) : 2 * Int32.ofNat N = nI (2 * N) := by
  rw [← pk_mul]
  rfl
set_option maxRecDepth 100000 in
set_option maxHeartbeats 4000000 in
theorem m_X3_doubleRoom {l : Launch} {N0 : Nat} {D : va_G} {dT : Nat → ClassId} (hflags : l.stackTraces = false) {hp : xH} {a1 a2 b1 b2 N : Nat} {F1 F2 : Nat → Int32} (h7 : hp 7 = some (.inr (3, [.int (nI N), .ref a1, .ref a2]))) (hA1 : hp a1 = some (.inl (0, N, .inl F1))) (hA2 : hp a2 = some (.inl (0, N, .inl F2))) (hN : 0 < N ∧ N ≤ 8192) (hb1 : 340 ≤ b1 ∧ b1 ≤ 399) (hb2 : 340 ≤ b2 ∧ b2 ≤ 399) (n1 : a1 ≠ b1) (n2 : a2 ≠ b2) (n3 : a2 ≠ b1) (n4 : b1 ≠ b2) (n5 : a2 ≠ 7) (hf1 : ∀ j e, j ≠ b1 → hp j = some e → xnr b1 e) (hf2 : ∀ j e, j ≠ b2 → hp j = some e → xnr b2 e)  : xMet l N0 D dT yX3_doubleRoom cX3_doubleRoom 2 none 2 2 (4 * N) [.ref 7] (hp) xnwD (fun r h => r = none ∧ h = xup (xup (xup (xup hp b1 (.inl (0, 2 * N, .inl (va_cpy F1 (fun _ => 0) 0 0 N)))) 7 (.inr (3, [.int (nI N), .ref b1, .ref a2]))) b2 (.inl (0, 2 * N, .inl (va_cpy F2 (fun _ => 0) 0 0 N)))) 7 (.inr (3, [.int (nI N), .ref b1, .ref b2]))) xNX := by
  refine xMet_of hflags (by decide +kernel) (fun j h1 h2 => by omega) (Nat.le_of_ble_eq_true rfl) ?_
  intro E C I hret hthr
  refine a_loc [(0, .ref 7)] (xsub_cons rfl (xsub_nil)) ?_
  refine a_iconst (v := 2) C dX3_doubleRoom_0 (by decide) ?_
  refine a_aload_n (i := 0) C dX3_doubleRoom_1 rfl rfl ?_
  refine a_get C dX3_doubleRoom_2 fl_X3_16 h7 rfl ?_
  refine a_imul C dX3_doubleRoom_5 ?_
  refine a_top (nI (2 * N)) (xr_2n N) ?_
  refine a_sipush (v := 16384) C dX3_doubleRoom_6 (by decide) ?_
  refine a_min C dX3_doubleRoom_9 tb512 tb332 tb37 tb333 (Nat.le_of_ble_eq_true rfl) (Nat.le_of_ble_eq_true rfl) (Nat.le_of_ble_eq_true rfl) (Nat.le_of_ble_eq_true rfl) (Nat.zero_le _) ?_
  refine a_top (nI (2 * N)) (if_neg (fun z => absurd ((nI_ltI (a := 16384) (b := 2 * N) (by omega) (by omega)).mp z) (by omega))) ?_
  refine a_istore_n (i := 1) C dX3_doubleRoom_12 rfl (by decide) ?_
  refine a_loc [(0, .ref 7), (1, .int (nI (2 * N)))] (xsub_cons rfl (xsub_cons rfl xsub_nil)) ?_
  refine a_iload_n (i := 1) C dX3_doubleRoom_13 rfl rfl ?_
  refine a_aload_n (i := 0) C dX3_doubleRoom_14 rfl rfl ?_
  refine a_get C dX3_doubleRoom_15 fl_X3_16 h7 rfl ?_
  refine a_icmp_le (tgt := 45) C dX3_doubleRoom_18 (by decide) (fun c18 => ?_) (fun c18 => ?_)
  · exact absurd ((xle (a := 2 * N) (b := N) (by omega) (by omega)).mp c18) (by omega)
  · refine a_aload_n (i := 0) C dX3_doubleRoom_21 rfl rfl ?_
    refine a_aload_n (i := 0) C dX3_doubleRoom_22 rfl rfl ?_
    refine a_get C dX3_doubleRoom_23 fl_X3_9 h7 rfl ?_
    refine a_iload_n (i := 1) C dX3_doubleRoom_26 rfl rfl ?_
    refine a_callS C dX3_doubleRoom_27 cs_J7_copyOf_59c91 tb513 (m_J7_copyOf_59c91 hflags (b := b1) hA1 (show N < 2 * N by omega) (show 2 * N ≤ 32768 by omega) (by omega) n1 hf1) rfl rfl (Nat.le_of_ble_eq_true rfl) ⟨Nat.le_of_ble_eq_true rfl, Nat.le_of_ble_eq_true rfl⟩ ⟨Nat.le_of_ble_eq_true rfl, show 0 + 2 * N ≤ 4 * N by omega⟩ (fun j h => by subst h; exact hb1) ⟨fun q hq j hj => (by simp only [List.mem_cons, List.not_mem_nil, or_false] at hq; rcases hq with rfl | rfl <;> first | exact Value.noConfusion hj | (have := Value.ref.inj hj; show ¬ j = b1; rw [← this]; show ¬ (7 : Nat) = _; omega)), fun v hv j hj => (by simp only [List.mem_cons, List.not_mem_nil, or_false] at hv; subst hv; have := Value.ref.inj hj; show ¬ j = b1; rw [← this]; show ¬ (7 : Nat) = _; omega)⟩ (fun _ _ h => h.elim) (fun r27 hp27 hq27 => ?_)
    obtain ⟨rfl, rfl⟩ := hq27
    refine a_put C dX3_doubleRoom_30 fl_X3_9 ((xup_n (show (7 : Nat) ≠ b1 by omega)).trans h7) (Nat.le_of_ble_eq_true rfl) rfl rfl ?_
    refine a_aload_n (i := 0) C dX3_doubleRoom_33 rfl rfl ?_
    refine a_aload_n (i := 0) C dX3_doubleRoom_34 rfl rfl ?_
    refine a_get C dX3_doubleRoom_35 fl_X3_13 xup_s rfl ?_
    refine a_iload_n (i := 1) C dX3_doubleRoom_38 rfl rfl ?_
    refine a_callS C dX3_doubleRoom_39 cs_J7_copyOf_59c91 tb513 (m_J7_copyOf_59c91 hflags (b := b2) ((xup_n n5).trans ((xup_n n3).trans hA2)) (show N < 2 * N by omega) (show 2 * N ≤ 32768 by omega) (by omega) n2 (xnr_up (xnr_up hf2 xnr_i) (xnr_o (fs := [.int (nI N), .ref b1, .ref a2]) (fun v hv => by simp only [List.mem_cons, List.not_mem_nil, or_false] at hv; rcases hv with rfl | rfl | rfl <;> first | exact fun z => Value.noConfusion z | exact fun z => n4 (Value.ref.inj z) | exact fun z => n2 (Value.ref.inj z))))) rfl rfl (Nat.le_of_ble_eq_true rfl) ⟨Nat.le_of_ble_eq_true rfl, Nat.le_of_ble_eq_true rfl⟩ ⟨Nat.le_of_ble_eq_true rfl, show 0 + 2 * N + 2 * N ≤ 4 * N by omega⟩ (fun j h => by subst h; exact hb2) ⟨fun q hq j hj => (by simp only [List.mem_cons, List.not_mem_nil, or_false] at hq; rcases hq with rfl | rfl <;> first | exact Value.noConfusion hj | (have := Value.ref.inj hj; show ¬ j = b2; rw [← this]; show ¬ (7 : Nat) = _; omega)), fun v hv j hj => (by simp only [List.mem_cons, List.not_mem_nil, or_false] at hv; subst hv; have := Value.ref.inj hj; show ¬ j = b2; rw [← this]; show ¬ (7 : Nat) = _; omega)⟩ (fun _ _ h => h.elim) (fun r39 hp39 hq39 => ?_)
    obtain ⟨rfl, rfl⟩ := hq39
    refine a_put C dX3_doubleRoom_42 fl_X3_13 ((xup_n (show (7 : Nat) ≠ b2 by omega)).trans xup_s) (Nat.le_of_ble_eq_true rfl) rfl rfl ?_
    exact a_vret C dX3_doubleRoom_45 (Nat.le_of_ble_eq_true rfl) (show 0 + 2 * N + 2 * N ≤ 4 * N by omega) (hret _ _ ⟨rfl, rfl⟩)
