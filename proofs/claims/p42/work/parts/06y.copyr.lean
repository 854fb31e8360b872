section XEMP
variable {E : xEnv} {l9 : Launch} {N9 : Nat} {D9 : va_G} {T9 : Nat → ClassId} {cc : ByteArray} {own : String} {nL9 : Nat} {ret : Option FieldType} {tab : List ExceptionTableEntry} {R9 : Room} {nw9 : Nat → Prop} {k n : Nat} {hp : xH} {pc : Nat} {L : List (Nat × Value)} {S S' : List Value}
/-- two references to one cell -/
theorem a_acmp_neS (C : aC E l9 N9 D9 T9 cc own nL9 ret tab R9 nw9) {a : Nat} {off : Int} {tgt : Nat} (hd : decode cc pc = .ok (.if_acmp .ne off, 3)) (ht : (pc : Int) + off = (tgt : Int)) (kf : aW E k n hp (pc + 3) L S) : aW E k n hp pc L (.ref a :: .ref a :: S) := by
  obtain ⟨p, l, e, R, s, m, args, below, meth, c, D, dT, N0, nL, nw, ad0, Q⟩ := E
  obtain ⟨⟨hx, hb, hml, hown, hts⟩, hr, hlk, htab, hK, hZ, hnw, hst, rfl, rfl, rfl, rfl, rfl, rfl, rfl⟩ := C
  intro ad H locs ls ha hR hS hl
  exact lv_acmp_ne (rx := some (ad a)) (ry := some (ad a)) hx hb hd ht (fun z => absurd rfl z) (fun _ => kf ad H locs ls ha hR hS hl)
theorem a_acmp_eqS (C : aC E l9 N9 D9 T9 cc own nL9 ret tab R9 nw9) {a : Nat} {off : Int} {tgt : Nat} (hd : decode cc pc = .ok (.if_acmp .eq off, 3)) (ht : (pc : Int) + off = (tgt : Int)) (kf : aW E k n hp tgt L S) : aW E k n hp pc L (.ref a :: .ref a :: S) := by
  obtain ⟨p, l, e, R, s, m, args, below, meth, c, D, dT, N0, nL, nw, ad0, Q⟩ := E
  obtain ⟨⟨hx, hb, hml, hown, hts⟩, hr, hlk, htab, hK, hZ, hnw, hst, rfl, rfl, rfl, rfl, rfl, rfl, rfl⟩ := C
  intro ad H locs ls ha hR hS hl
  exact lv_acmp_eq (rx := some (ad a)) (ry := some (ad a)) hx hb hd ht (fun _ => kf ad H locs ls ha hR hS hl) (fun z => absurd rfl z)
/-- the length of the lists' empty row -/
theorem a_empLen (C : aC E l9 N9 D9 T9 cc own nL9 ret tab R9 nw9) (hd : decode cc pc = .ok (.arraylength, 1)) (kk : aW E k n hp (pc + 1) L (.int 0 :: S)) : aW E k n hp pc L (.ref 901 :: S) := by
  obtain ⟨p, l, e, R, s, m, args, below, meth, c, D, dT, N0, nL, nw, ad0, Q⟩ := E
  obtain ⟨⟨hx, hb, hml, hown, hts⟩, hr, hlk, htab, hK, hZ, hnw, hst, rfl, rfl, rfl, rfl, rfl, rfl, rfl⟩ := C
  intro ad H locs ls ha hR hS hl
  have e9 : ad 901 = ad0 901 := ha 901 (hnw 901 (by decide))
  obtain ⟨scr, h1, h2, h3, h4⟩ := hZ.2.2.1.2.1
  have h5 : H[ad 901]? = some scr := by
    rw [e9, hS.2.1 _ (Nat.lt_of_lt_of_le hZ.2.2.1.2.2 hZ.1) (Nat.not_le.mpr hZ.2.2.1.2.2)]
    exact h1
  exact W.alen (n := 0) hx hb h5 h2 (by rw [h4] <;> rfl) rfl rfl hd (kk ad H locs ls ha hR hS hl)
end XEMP
set_option maxRecDepth 100000 in
set_option maxHeartbeats 4000000 in
theorem m_J7_copyOf_6403c {l : Launch} {N0 : Nat} {D : va_G} {dT : Nat → ClassId} (hflags : l.stackTraces = false) {hp : xH} {a b N M : Nat} {F : Nat → Option Nat} (h1 : hp a = some (.inl (3, N, .inr (.inr (.inr (.inr (F))))))) (hNM : N < M) (hM : M ≤ 64) (hb : b < 900) (hab : a ≠ b) (hfr : ∀ j e, j ≠ b → hp j = some e → xnr b e) (hel : ∀ i, i < N → ∀ y, F i = some y → y ≠ b ∧ ∃ (ci : Nat) (fs : List Value) (q : vw_C), hp y = some (.inr (ci, fs)) ∧ vwCl[ci]? = some q ∧ Cond.castable q.1 "java/lang/Object" ∈ xTN)  : xMet l N0 D dT yJ7_copyOf_6403c cJ7_copyOf_6403c 4 (some (FieldType.array (FieldType.object "java/lang/Object"))) 1 1 M [.ref a, .int (nI M), .ref 907] (hp) (fun j => j = b) (fun r h => r = some (.ref b) ∧ h = xup hp b (.inl (3, M, .inr (.inr (.inr (.inr (va_cpy F (fun _ => none) 0 0 N))))))) xNX := by
  refine xMet_of hflags (by decide +kernel) (fun j h1 h2 => by omega) (Nat.le_of_ble_eq_true rfl) ?_
  intro E C I hret hthr
  refine a_loc [(0, .ref a), (1, .int (nI M)), (2, .ref 907)] (xsub_cons rfl (xsub_cons rfl (xsub_cons rfl (xsub_nil)))) ?_
  refine a_aload_n (i := 2) C dJ7_copyOf_6403c_0 rfl rfl ?_
  refine a_ldcM C dJ7_copyOf_6403c_1 tb328 ?_
  refine a_acmp_neS (tgt := 13) C dJ7_copyOf_6403c_3 (by decide) ?_
  refine a_iload_n (i := 1) C dJ7_copyOf_6403c_6 rfl rfl ?_
  refine a_newq C b (N := M) dJ7_copyOf_6403c_7 tb330 (Int32.not_lt.mpr ((xle (a := 0) (by omega) (by omega)).mpr (Nat.zero_le _))) (nI_clamp (by omega)) (show M * 4 ≤ 536870912 by omega) rfl ⟨hfr, fun q hq => ?_, fun v hv => ?_⟩ (Nat.le_of_ble_eq_true rfl) (by show 0 + M ≤ M; omega) ?_
  · simp only [List.mem_cons, List.not_mem_nil, or_false] at hq
    rcases hq with rfl | rfl | rfl
    · exact fun z => hab (Value.ref.inj z)
    · exact fun z => Value.noConfusion z
    · exact fun z => by
        have : (907 : Nat) = b := Value.ref.inj z
        omega
  · cases hv
  · have h2 : xup hp b (.inl (3, M, .inr (.inr (.inr (.inr (fun _ => none)))))) a = some (.inl (3, N, .inr (.inr (.inr (.inr (F)))))) := (xup_n hab).trans h1
    refine a_goto (tgt := 24) C dJ7_copyOf_6403c_10 (by decide) ?_
    refine a_astore_n (i := 3) C dJ7_copyOf_6403c_24 rfl (by decide) ?_
    refine a_aload_n (i := 0) C dJ7_copyOf_6403c_25 rfl rfl ?_
    refine a_iconst (v := 0) C dJ7_copyOf_6403c_26 (by decide) ?_
    refine a_aload_n (i := 3) C dJ7_copyOf_6403c_27 rfl rfl ?_
    refine a_iconst (v := 0) C dJ7_copyOf_6403c_28 (by decide) ?_
    refine a_aload_n (i := 0) C dJ7_copyOf_6403c_29 rfl rfl ?_
    refine a_alen C dJ7_copyOf_6403c_30 (by decide) h2 ?_
    refine a_iload_n (i := 1) C dJ7_copyOf_6403c_31 rfl rfl ?_
    refine a_min C dJ7_copyOf_6403c_32 tb331 tb332 tb37 tb333 (Nat.le_of_ble_eq_true rfl) (Nat.le_of_ble_eq_true rfl) (Nat.le_of_ble_eq_true rfl) (Nat.le_refl _) (by show 0 + M ≤ M; omega) ?_
    refine a_top (nI N) (xr_mn hNM (by omega)) ?_
    refine a_copyQ C dJ7_copyOf_6403c_35 tb334 tb336 tb335 tb39 h2 xup_s (by omega) (by omega) (by omega) (fun i hi y hy => ?_) (Nat.le_of_ble_eq_true rfl) (show 0 + (nativeFrameWords "java/lang/System" "arraycopy" 5 + 11) ≤ 40 * 1 by decide) ?_
    · obtain ⟨g1, ci, fs, q, g2, g3⟩ := hel i hi y hy
      exact ⟨ci, fs, q, (xup_n g1).trans g2, g3⟩
    · refine a_hp xup_uu ?_
      refine a_aload_n (i := 3) C dJ7_copyOf_6403c_38 rfl rfl ?_
      exact a_aret C dJ7_copyOf_6403c_39 (by first | exact Or.inl ⟨_, rfl⟩ | exact Or.inr ⟨_, rfl⟩) (Nat.le_refl _) (by show 0 + M ≤ M; omega) (hret _ _ ⟨rfl, rfl⟩)
set_option maxRecDepth 100000 in
set_option maxHeartbeats 4000000 in
theorem m_J7_copyOf_1904c {l : Launch} {N0 : Nat} {D : va_G} {dT : Nat → ClassId} (hflags : l.stackTraces = false) {hp : xH} {a b N M : Nat} {F : Nat → Option Nat} (h1 : hp a = some (.inl (3, N, .inr (.inr (.inr (.inr (F))))))) (hNM : N < M) (hM : M ≤ 64) (hb : b < 900) (hab : a ≠ b) (hfr : ∀ j e, j ≠ b → hp j = some e → xnr b e) (hel : ∀ i, i < N → ∀ y, F i = some y → y ≠ b ∧ ∃ (ci : Nat) (fs : List Value) (q : vw_C), hp y = some (.inr (ci, fs)) ∧ vwCl[ci]? = some q ∧ Cond.castable q.1 "java/lang/Object" ∈ xTN)  : xMet l N0 D dT yJ7_copyOf_1904c cJ7_copyOf_1904c 2 (some (FieldType.array (FieldType.object "java/lang/Object"))) 2 1 M [.ref a, .int (nI M)] (hp) (fun j => j = b) (fun r h => r = some (.ref b) ∧ h = xup hp b (.inl (3, M, .inr (.inr (.inr (.inr (va_cpy F (fun _ => none) 0 0 N))))))) xNX := by
  refine xMet_of hflags (by decide +kernel) (fun j h1 h2 => by omega) (Nat.le_of_ble_eq_true rfl) ?_
  intro E C I hret hthr
  refine a_loc [(0, .ref a), (1, .int (nI M))] (xsub_cons rfl (xsub_cons rfl (xsub_nil))) ?_
  refine a_aload_n (i := 0) C dJ7_copyOf_1904c_0 rfl rfl ?_
  refine a_iload_n (i := 1) C dJ7_copyOf_1904c_1 rfl rfl ?_
  refine a_aload_n (i := 0) C dJ7_copyOf_1904c_2 rfl rfl ?_
  refine a_getC C dJ7_copyOf_1904c_3 tb311 tb953 tb952 tb312 tb324 h1 (Nat.le_of_ble_eq_true rfl) (Nat.le_of_ble_eq_true rfl) ?_
  refine a_callS C dJ7_copyOf_1904c_6 cs_J7_copyOf_6403c tb325 (m_J7_copyOf_6403c hflags (b := b) h1 hNM hM hb hab hfr hel) rfl rfl (Nat.le_of_ble_eq_true rfl) ⟨Nat.le_of_ble_eq_true rfl, Nat.le_of_ble_eq_true rfl⟩ ⟨Nat.le_of_ble_eq_true rfl, show 0 + M ≤ M by omega⟩ (fun _ h => h) ⟨fun q hq j hj => (by simp only [List.mem_cons, List.not_mem_nil, or_false] at hq; rcases hq with rfl | rfl <;> first | exact Value.noConfusion hj | exact fun z => hab ((Value.ref.inj hj).trans z)), fun v hv => nomatch hv⟩ (fun _ _ h => h.elim) (fun r6 hp6 hq6 => ?_)
  obtain ⟨rfl, rfl⟩ := hq6
  exact a_aret C dJ7_copyOf_1904c_9 (by first | exact Or.inl ⟨_, rfl⟩ | exact Or.inr ⟨_, rfl⟩) (Nat.le_of_ble_eq_true rfl) (by show 0 + M ≤ M; omega) (hret _ _ ⟨rfl, rfl⟩)
set_option maxRecDepth 100000 in
set_option maxHeartbeats 4000000 in
theorem m_J8_newLength_cabcc {l : Launch} {N0 : Nat} {D : va_G} {dT : Nat → ClassId} (hflags : l.stackTraces = false) {hp : xH} {x y z : Int32} (h1 : 0 < x + (if y < z then z else y)) (h2 : ¬ 2147483639 < x + (if y < z then z else y))  : xMet l N0 D dT yJ8_newLength_cabcc cJ8_newLength_cabcc 4 (some FieldType.int) 1 0 0 [.int x, .int y, .int z] (hp) xNo (fun r h => r = some (.int (x + (if y < z then z else y))) ∧ h = hp) xNX := by
  refine xMet_of hflags (by decide +kernel) (fun _ _ h => h) (Nat.le_of_ble_eq_true rfl) ?_
  intro E C I hret hthr
  refine a_loc [(0, .int x), (1, .int y), (2, .int z)] (xsub_cons rfl (xsub_cons rfl (xsub_cons rfl (xsub_nil)))) ?_
  refine a_iload_n (i := 0) C dJ8_newLength_cabcc_0 rfl rfl ?_
  refine a_iload_n (i := 1) C dJ8_newLength_cabcc_1 rfl rfl ?_
  refine a_iload_n (i := 2) C dJ8_newLength_cabcc_2 rfl rfl ?_
  refine a_max C dJ8_newLength_cabcc_3 tb301 tb302 tb37 tb303 (Nat.le_of_ble_eq_true rfl) (Nat.le_of_ble_eq_true rfl) (Nat.le_of_ble_eq_true rfl) (Nat.le_of_ble_eq_true rfl) (Nat.le_of_ble_eq_true rfl) ?_
  refine a_iadd C dJ8_newLength_cabcc_6 ?_
  refine a_istore_n (i := 3) C dJ8_newLength_cabcc_7 rfl (by decide) ?_
  refine a_iconst (v := 0) C dJ8_newLength_cabcc_8 (by decide) ?_
  refine a_iload_n (i := 3) C dJ8_newLength_cabcc_9 rfl rfl ?_
  refine a_icmp_ge (tgt := 21) C dJ8_newLength_cabcc_10 (by decide) (fun c10 => ?_) (fun c10 => ?_)
  · exact absurd c10 (Int32.not_le.mpr h1)
  · refine a_iload_n (i := 3) C dJ8_newLength_cabcc_13 rfl rfl ?_
    refine a_ldc C dJ8_newLength_cabcc_14 tb304 ?_
    refine a_icmp_gt (tgt := 21) C dJ8_newLength_cabcc_16 (by decide) (fun c16 => ?_) (fun c16 => ?_)
    · exact absurd c16 h2
    · refine a_iload_n (i := 3) C dJ8_newLength_cabcc_19 rfl rfl ?_
      exact a_iret C dJ8_newLength_cabcc_20 (Nat.le_of_ble_eq_true rfl) (Nat.le_of_ble_eq_true rfl) (hret _ _ ⟨rfl, rfl⟩)
