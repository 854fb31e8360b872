section XCOPY
variable {E : xEnv} {l9 : Launch} {N9 : Nat} {D9 : va_G} {T9 : Nat → ClassId} {cc : ByteArray} {own : String} {nL9 : Nat} {ret : Option FieldType} {tab : List ExceptionTableEntry} {R9 : Room} {nw9 : Nat → Prop} {k n : Nat} {hp : xH} {pc : Nat} {L : List (Nat × Value)} {S S' : List Value}
theorem x_nn {w : Nat} (h : w < 2 ^ 31) : (nI w).toInt = (w : Int) := nI_toInt h
/-- System.arraycopy from the start of a row of ints to the start of another -/
theorem a_copyI (C : aC E l9 N9 D9 T9 cc own nL9 ret tab R9 nw9) {index a b N M w : Nat} {F G : Nat → Int32} (hd : decode cc pc = .ok (.invokestatic index, 3)) (hlink : Cond.methodLink own index arraycopyName ∈ xTB) (hnat : Cond.native arraycopyName ∈ xTB) (hstat : Cond.static arraycopyName ∈ xTB) (hini : Cond.initialized "java/lang/System" ∈ xTB) (h1 : hp a = some (.inl (0, N, .inl F))) (h2 : hp b = some (.inl (0, M, .inl G))) (hw1 : w ≤ N) (hw2 : w ≤ M) (hwb : w < 2 ^ 31) (hf : 1 ≤ R9.frames) (hlo : (S.map fun v => v.category).sum + (nativeFrameWords "java/lang/System" "arraycopy" 5 + 11) ≤ R9.locals) (kk : aW E k n (xup hp b (.inl (0, M, .inl (va_cpy F G 0 0 w)))) (pc + 3) L S) : aW E k n hp pc L (.int (nI w) :: .int 0 :: .ref b :: .int 0 :: .ref a :: S) := by
  obtain ⟨p, l, e, R, s, m, args, below, meth, c, D, dT, N0, nL, nw, ad0, Q⟩ := E
  obtain ⟨⟨hx, hb, hml, hown, hts⟩, hr, hlk, htab, hK, hZ, hnw, hst, rfl, rfl, rfl, rfl, rfl, rfl, rfl⟩ := C
  intro ad H locs ls ha hR hS hl T hT X
  have hA := (hR.1 b _ h2).2
  have hc0 : H[ad a]? = some (vp_cell (dT 0) (N, .inl F)) := (hR.1 a _ h1).1
  have hc1 : H[ad b]? = some (vp_cell (dT 0) (M, .inl G)) := (hR.1 b _ h2).1
  obtain ⟨-, k0, hk0, cm0, hkk0⟩ := (hK.2 0 _ rfl).1 N (fun j => .int (F j))
  have hwn : (nI w).toInt = (w : Int) := x_nn hwb
  have hwc : (nI w).toNatClampNeg = w := nI_clamp hwb
  have hz : (0 : Int32).toInt = 0 := rfl
  have hzc : (0 : Int32).toNatClampNeg = 0 := rfl
  obtain ⟨vm', X', step⟩ := X.arraycopy hx hown (hts _ hlink) (hts _ hnat) (hts _ hstat) (hts _ hini) (src := ad a) (dst := ad b) (cs := vp_cell (dT 0) (N, .inl F)) (cd := vp_cell (dT 0) (M, .inl G)) (srcPos := 0) (destPos := 0) (n := nI w) (by rw [hT]; exact hc0) (by rw [hT]; exact hc1)
    (fun _ h => by cases h) (fun _ h => by cases h) (fun h => by cases h) (fun h => by cases h) hk0 hk0 hkk0 hkk0 rfl (by decide) (by decide)
    (fun h => by
      have := Int32.lt_iff_toInt_lt.mp h
      rw [hwn, hz] at this
      omega)
    (by rw [hwn, hz]; show ¬ _ > ((arrV (dT 0) N (fun j => .int (F j))).slots.size : Int); rw [arrV_size]; omega)
    (by rw [hwn, hz]; show ¬ _ > ((arrV (dT 0) M (fun j => .int (G j))).slots.size : Int); rw [arrV_size]; omega)
    (fun vm₁ _ i hi => by
      rw [hwc] at hi
      have e0 : (vp_cell (dT 0) (N, .inl F)).slots.getD ((0 : Int32).toNatClampNeg + i) .null = .int (F i) := by
        show (arrV (dT 0) N (fun j => .int (F j))).slots.getD _ _ = _
        rw [hzc, Nat.zero_add, Array.getD_eq_getD_getElem?, arrV_read _ _ (by omega)]
        rfl
      rw [e0]
      exact ⟨rfl, trivial⟩)
    (g := F0 m pc ls (.int (nI w) :: .int 0 :: .ref (ad b) :: .int 0 :: .ref (ad a) :: S.map (x_cv ad))) rfl (hl.1.trans hml.symm) (rest := S.map (x_cv ad)) rfl (by rw [hb]; exact hd) hf (by show 2 * 0 + _ + _ ≤ _; rw [x_cats]; omega)
  have e1 : copied (vp_cell (dT 0) (N, .inl F)) (vp_cell (dT 0) (M, .inl G)) 0 0 (nI w) = vp_cell (dT 0) (M, .inl (va_cpy F G 0 0 w)) := by
    have := va_copied (fun z => Value.int z) (dT 0) (dT 0) (n0 := N) (n1 := M) (sp := (0 : Int32).toNatClampNeg) (dp := (0 : Int32).toNatClampNeg) (n := (nI w).toNatClampNeg) F G (by rw [hwc, hzc]; omega)
    refine this.trans ?_
    rw [hwc]
    rfl
  rw [e1] at X' step
  have hlt : ad b < H.size := (Array.getElem?_eq_some_iff.mp hc1).1
  have oq : ∀ q : Nat, q ≠ ad b → (H.setIfInBounds (ad b) (vp_cell (dT 0) (M, .inl (va_cpy F G 0 0 w))))[q]? = H[q]? := fun q hq => by simp [Array.getElem?_setIfInBounds, Ne.symm hq]
  have hheap : ((T.setVm vm').setCell (ad b) (vp_cell (dT 0) (M, .inl (va_cpy F G 0 0 w)))).heap = H.setIfInBounds (ad b) (vp_cell (dT 0) (M, .inl (va_cpy F G 0 0 w))) := by rw [← hT]; rfl
  obtain ⟨t, a1, b1⟩ := kk ad _ _ ls ha (hR.up h2 (show (H.setIfInBounds (ad b) _)[ad b]? = some _ by simp [Array.getElem?_setIfInBounds, hlt]; rfl) oq) ⟨by simp; exact hS.1, fun q g1 g2 => by
      rw [oq q (fun e => g2 (by rw [e]; exact hA))]
      exact hS.2.1 q g1 g2, fun q hq => by
      rcases List.mem_append.mp hq with h | h
      · exact hS.2.2 q h
      · obtain ⟨z, -, hz⟩ := List.mem_map.mp h
        rw [← hz]
        exact hA⟩ hl _ hheap X'
  exact ⟨t, step t a1, b1⟩
end XCOPY
theorem xnr_up {hp : xH} {a b : Nat} {e : va_E} (h : ∀ j e', j ≠ b → hp j = some e' → xnr b e') (he : xnr b e) : ∀ j e', j ≠ b → xup hp a e j = some e' → xnr b e' := fun j e' hj hje => by
  by_cases hja : j = a
  · subst hja
    rw [xup_s] at hje
    cases hje
    exact he
  · rw [xup_n hja] at hje
    exact h j e' hj hje
theorem xr_mn {N M : Nat} (h : N < M) (hM : M < 2 ^ 31) : (if nI M < Int32.ofNat N then nI M else Int32.ofNat N) = nI N := if_neg (fun z => absurd ((nI_ltI (a := M) (b := N) (by omega) (by omega)).mp z) (by omega))
theorem aW_sub {E : xEnv} {k n : Nat} {hp hp' : xH} {pc : Nat} {L : List (Nat × Value)} {S : List Value} (h : ∀ j e, hp' j = some e → hp j = some e) (kk : aW E k n hp' pc L S) : aW E k n hp pc L S := by
  obtain ⟨p, l, e, R, s, m, args, below, meth, c, D, dT, N0, nL, nw, ad0, Q⟩ := E
  intro ad H locs ls ha hR hS hl
  exact kk ad H locs ls ha ⟨fun j e' hj => hR.1 j e' (h j e' hj), fun i j e1 e2 h1 h2 hij => hR.2 i j e1 e2 (h i e1 h1) (h j e2 h2) hij⟩ hS hl
set_option maxRecDepth 100000 in
set_option maxHeartbeats 4000000 in
theorem m_J7_copyOf_59c91 {l : Launch} {N0 : Nat} {D : va_G} {dT : Nat → ClassId} (hflags : l.stackTraces = false) {hp : xH} {a b N M : Nat} {F : Nat → Int32} (h1 : hp a = some (.inl (0, N, .inl F))) (hNM : N < M) (hM : M ≤ 32768) (hb : b < 900) (hab : a ≠ b) (hfr : ∀ j e, j ≠ b → hp j = some e → xnr b e)  : xMet l N0 D dT yJ7_copyOf_59c91 cJ7_copyOf_59c91 3 (some (FieldType.array FieldType.int)) 1 1 M [.ref a, .int (nI M)] (hp) (fun j => j = b) (fun r h => r = some (.ref b) ∧ h = xup hp b (.inl (0, M, .inl (va_cpy F (fun _ => 0) 0 0 N)))) xNX := by
  refine xMet_of hflags (by decide +kernel) (fun j h1 h2 => by omega) (Nat.le_of_ble_eq_true rfl) ?_
  intro E C I hret hthr
  refine a_loc [(0, .ref a), (1, .int (nI M))] (xsub_cons rfl (xsub_cons rfl (xsub_nil))) ?_
  refine a_iload_n (i := 1) C dJ7_copyOf_59c91_0 rfl rfl ?_
  refine a_aload_n (i := 0) C dJ7_copyOf_59c91_1 rfl rfl ?_
  refine a_alen C dJ7_copyOf_59c91_2 (by decide) h1 ?_
  refine a_icmp_ne (tgt := 14) C dJ7_copyOf_59c91_3 (by decide) (fun c3 => ?_) (fun c3 => ?_)
  · refine a_iload_n (i := 1) C dJ7_copyOf_59c91_14 rfl rfl ?_
    refine a_newa C b 0 (ty := .int) (N := M) (f := .inl (fun _ => 0)) dJ7_copyOf_59c91_15 rfl (fun _ => rfl) (fun _ z => FieldType.noConfusion z) tb97 (fun _ => rfl) (fun _ => rfl) (Int32.not_lt.mpr ((xle (a := 0) (by omega) (by omega)).mpr (Nat.zero_le M))) (nI_clamp (by omega)) (show M * 4 ≤ 536870912 by omega) rfl ⟨hfr, fun q hq => ?_, fun v hv => ?_⟩ (Nat.le_refl _) (by show 0 + M ≤ M; omega) ?_
    · simp only [List.mem_cons, List.not_mem_nil, or_false] at hq
      rcases hq with rfl | rfl
      · exact fun z => hab (Value.ref.inj z)
      · exact fun z => Value.noConfusion z
    · cases hv
    · have h2 : xup hp b (.inl (0, M, .inl (fun _ => 0))) a = some (.inl (0, N, .inl F)) := (xup_n hab).trans h1
      refine a_astore_n (i := 2) C dJ7_copyOf_59c91_17 rfl (by decide) ?_
      refine a_aload_n (i := 0) C dJ7_copyOf_59c91_18 rfl rfl ?_
      refine a_iconst (v := 0) C dJ7_copyOf_59c91_19 (by decide) ?_
      refine a_aload_n (i := 2) C dJ7_copyOf_59c91_20 rfl rfl ?_
      refine a_iconst (v := 0) C dJ7_copyOf_59c91_21 (by decide) ?_
      refine a_aload_n (i := 0) C dJ7_copyOf_59c91_22 rfl rfl ?_
      refine a_alen C dJ7_copyOf_59c91_23 (by decide) h2 ?_
      refine a_iload_n (i := 1) C dJ7_copyOf_59c91_24 rfl rfl ?_
      refine a_min C dJ7_copyOf_59c91_25 tb331 tb332 tb37 tb333 (Nat.le_of_ble_eq_true rfl) (Nat.le_of_ble_eq_true rfl) (Nat.le_of_ble_eq_true rfl) (Nat.le_refl _) (by show 0 + M ≤ M; omega) ?_
      refine a_top (nI N) (xr_mn hNM (by omega)) ?_
      refine a_copyI C dJ7_copyOf_59c91_28 tb334 tb336 tb335 tb39 h2 xup_s (by omega) (by omega) (by omega) (Nat.le_of_ble_eq_true rfl) (show 0 + (nativeFrameWords "java/lang/System" "arraycopy" 5 + 11) ≤ 40 * 1 by decide) ?_
      refine a_hp xup_uu ?_
      refine a_aload_n (i := 2) C dJ7_copyOf_59c91_31 rfl rfl ?_
      exact a_aret C dJ7_copyOf_59c91_32 (by first | exact Or.inl ⟨_, rfl⟩ | exact Or.inr ⟨_, rfl⟩) (Nat.le_refl _) (by show 0 + M ≤ M; omega) (hret _ _ ⟨rfl, rfl⟩)
  · exact absurd ((nI_eq (a := M) (b := N) (by omega) (by omega)).mp c3) (by omega)
