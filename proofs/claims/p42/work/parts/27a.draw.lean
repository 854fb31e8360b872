/-! the script, drawn by a method of the law -/
def xScr (Ln : Nat) (xs : Nat → Int32) (E : xEnv) : Prop := match E with
  | (_, _, _, _, s, _, _, _, _, _, _, _, N0, _, _, ad0, _) => va_X (ad0 908) Ln xs s s.heap ∧ ad0 908 < N0
def xScrP (N0 Ln : Nat) (xs : Nat → Int32) (ad : Nat → Nat) (U : State) : Prop := va_X (ad 908) Ln xs U U.heap ∧ ad 908 < N0
def xMetS (l : Launch) (N0 : Nat) (D : va_G) (dT : Nat → ClassId) (y : MethodName) (b : ByteArray) (n : Nat) (ret : Option FieldType) (Ln : Nat) (xs : Nat → Int32) (d mc ms : Nat) (as : List Value) (hp : xH) (nw : Nat → Prop) (post : Option Value → xH → Prop) : Prop :=
  ∀ ad : Nat → Nat, vx_Met l y (xws y b n ret) (xRm d mc ms) (fun a U => xPc N0 D dT ad as hp a U ∧ xScrP N0 Ln xs ad U) (xQc N0 D dT ad nw post) (xXc N0 D dT ad nw xNX) mc ms (fun q => N0 ≤ q)
theorem xPcS_blind {N0 : Nat} {D : va_G} {dT : Nat → ClassId} {ad : Nat → Nat} {as : List Value} {hp : xH} {Ln : Nat} {xs : Nat → Int32} : FrameBlind (fun a U => xPc N0 D dT ad as hp a U ∧ xScrP N0 Ln xs ad U) := fun a U g mk h => ⟨xPc_blind a U g mk h.1, va_X.moved (u := U) (U := U.calling g mk a) (Vm.Alike.refl U.vm) h.2.1, h.2.2⟩
theorem xMetS_of {l : Launch} {N0 : Nat} {D : va_G} {dT : Nat → ClassId} {y : MethodName} {b : ByteArray} {nL : Nat} {ret : Option FieldType} {Ln : Nat} {xs : Nat → Int32} {d mc ms : Nat} {as : List Value} {hp : xH} {nw : Nat → Prop} {post : Option Value → xH → Prop} (hflags : l.stackTraces = false) (hy : plainName y.cls = true) (hnw : ∀ j, 900 ≤ j → ¬ nw j) (hlen : (lg_sl as).length ≤ nL)
    (body : ∀ E : xEnv, aC E l N0 D dT b y.cls nL ret [] (xRm d mc ms) nw → xScr Ln xs E → (∀ r hp', post r hp' → aR E r hp') → aW E 0 0 hp 0 (lv_args 0 as) []) : xMetS l N0 D dT y b nL ret Ln xs d mc ms as hp nw post := by
  intro ad
  refine vx_ofW (cc := b) (maxL := nL) (ret := ret) hy rfl ?_
  intro p e s m args below meth c s₁ B hml htab hv
  obtain ⟨⟨rfl, hR, hK, hZ⟩, hX⟩ := hv
  have hts0 := atoms_spec (ws := xws y b nL ret) B.pre
  have hts : ∀ w ∈ xTB, w.before _ s = true := fun w hw => hts0 w (List.mem_cons_of_mem _ hw)
  have hown : s.vm.findClass y.cls = some m.cls := findClass_of_methodNamed B.named
  have htab' : c.exceptionTable.toList = [] := List.eq_nil_iff_forall_not_mem.mpr (fun x hx => htab x hx)
  have w := body (p, l, e, xRm d mc ms, s, m, (as.map (x_cv ad)).toArray, below, meth, c, D, dT, N0, nL, nw, ad, vx_MQ below (xQc N0 D dT ad nw post) (xXc N0 D dT ad nw xNX) (as.map (x_cv ad)).toArray s mc ms (fun q => N0 ≤ q))
    ⟨⟨B.exec, B.bytes, hml, hown, hts⟩, B.returns, B.notSynchronized, htab', hK, hZ, hnw, hflags, rfl, rfl, rfl, rfl, rfl, rfl, rfl⟩ hX
    (fun r hp' hp1 ad' t L hA hR1 hF h1 h2 h3 h4 => ⟨_, h1, h2, Or.inl ⟨⟨r, hp', ad', rfl, hp1, hA, hR1, hF⟩, L, h3, h4⟩⟩)
  have hlen' : (lg_sl (as.map (x_cv ad))).length ≤ nL := by rw [x_lgl]; exact hlen
  have hl := lv_entry (as.map (x_cv ad)) (n := nL) hlen'
  have w2 := w ad s.heap [] _ (fun _ _ => rfl) hR va_S.rf (by rw [x_args]; exact hl)
  rw [lg_entry_eq]
  exact w2
section XSCR
variable {E : xEnv} {l9 : Launch} {N9 : Nat} {D9 : va_G} {T9 : Nat → ClassId} {cc : ByteArray} {own : String} {nL9 : Nat} {ret : Option FieldType} {tab : List ExceptionTableEntry} {R9 : Room} {nw9 : Nat → Prop} {k n : Nat} {hp : xH} {pc : Nat} {L : List (Nat × Value)} {S S' : List Value}
theorem a_callSS (C : aC E l9 N9 D9 T9 cc own nL9 ret tab R9 nw9) {Ln : Nat} {xs : Nat → Int32} (hX : xScr Ln xs E) {index : Nat} {y : MethodName} {b : ByteArray} {m9 : Nat} {ret' : Option FieldType} {d' mc ms na : Nat} {As : List Value} {nw' : Nat → Prop} {post : Option Value → xH → Prop} (hd : decode cc pc = .ok (.invokestatic index, 3)) (hcv : xCS y b m9 ret' na) (hlink : Cond.methodLink own index y ∈ xTB) (hM : xMetS l9 N9 D9 T9 y b m9 ret' Ln xs d' mc ms As hp nw' post) (hst : S = As.reverse ++ S') (hna : As.length = na) (hcat : (S'.map fun v => v.category).sum ≤ 8) (hRm : d' + 1 ≤ R9.frames ∧ 8 + (m9 + 11) + 40 * d' ≤ R9.locals) (hbud : k + mc ≤ R9.cells ∧ n + ms ≤ R9.slots) (hsub : ∀ j, nw' j → nw9 j) (hav : xav nw' L S')
    (kk : ∀ r hp', post r hp' → aW E (k + mc) (n + ms) hp' (pc + 3) L (r.toList ++ S')) : aW E k n hp pc L S := by
  obtain ⟨p, l, e, R, s, m, args, below, meth, c, D, dT, N0, nL, nw, ad0, Q⟩ := E
  obtain ⟨⟨hx, hb, hml, hown, hts⟩, hr, hlk, htab, hK, hZ, hnw, hst9, rfl, rfl, rfl, rfl, rfl, rfl, rfl⟩ := C
  intro ad H locs ls ha hR hS hl
  obtain ⟨c1, c2, c4, c5⟩ := hcv
  have cw : CallB R s args own index y b m9 ret' (xws y b m9 ret') (xRm d' mc ms) mc ms na ∧ (Cond.static y).before args s = true := ⟨callB_of na hts (xws_in c4) rfl rfl rfl (hts _ c2) (hts _ hlink) c5 hRm, hts _ c1⟩
  have e9 : ad 908 = ad0 908 := ha 908 (hnw 908 (by decide))
  have hPre := fun (U : State) (hU : U.heap = H) (hW : s.WarmedH U.vm) => And.intro (xPre (as := As) hnw ha hR hS hK hZ U hU hW) (show xScrP N0 Ln xs ad U from ⟨by rw [e9, hU]; exact va_X.kept (va_X.moved hW.alike hX.1) (hS.2.1 _ (Nat.lt_of_lt_of_le hX.2 hZ.1) (Nat.not_le.mpr hX.2)), by rw [e9]; exact hX.2⟩)
  refine xrun (vx_runS (As := As.map (x_cv ad)) (rest := S'.map (x_cv ad)) ⟨hx, hb, hml, hown, hts⟩ (hM ad) cw ⟨xPcS_blind, hPre⟩ rfl (by rw [List.length_map]; exact hna) hl.1 ?_ (lv_room (by rw [x_cats]; exact hcat)) hd hbud) ha hsub hav hS hl (fun _ _ z => z.elim) kk
  subst hst
  show (As.reverse ++ S').map (x_cv ad) = _
  rw [List.map_append, List.map_reverse]
theorem a_scrGet (C : aC E l9 N9 D9 T9 cc own nL9 ret tab R9 nw9) {Ln i : Nat} {xs : Nat → Int32} (hX : xScr Ln xs E) (hd : decode cc pc = .ok (.iaload, 1)) (hi : i < Ln) (hL : Ln < 2 ^ 31) (kk : aW E k n hp (pc + 1) L (.int (xs i) :: S)) : aW E k n hp pc L (.int (nI i) :: .ref 908 :: S) := by
  obtain ⟨p, l, e, R, s, m, args, below, meth, c, D, dT, N0, nL, nw, ad0, Q⟩ := E
  obtain ⟨⟨hx, hb, hml, hown, hts⟩, hr, hlk, htab, hK, hZ, hnw, hst, rfl, rfl, rfl, rfl, rfl, rfl, rfl⟩ := C
  intro ad H locs ls ha hR hS hl
  have e9 : ad 908 = ad0 908 := ha 908 (hnw 908 (by decide))
  have w := kk ad H locs ls ha hR hS hl
  rw [← nI_clamp (show i < 2 ^ 31 by omega)] at w
  exact va_sld (b := ad 908) hx hb (by rw [e9]; exact hX.1) (by rw [e9]; exact Nat.lt_of_lt_of_le hX.2 hZ.1) (by rw [e9]; exact Nat.not_le.mpr hX.2) hS (vp_in_nI hi hL) hd w
theorem a_scrLen (C : aC E l9 N9 D9 T9 cc own nL9 ret tab R9 nw9) {Ln : Nat} {xs : Nat → Int32} (hX : xScr Ln xs E) (hd : decode cc pc = .ok (.arraylength, 1)) (kk : aW E k n hp (pc + 1) L (.int (nI Ln) :: S)) : aW E k n hp pc L (.ref 908 :: S) := by
  obtain ⟨p, l, e, R, s, m, args, below, meth, c, D, dT, N0, nL, nw, ad0, Q⟩ := E
  obtain ⟨⟨hx, hb, hml, hown, hts⟩, hr, hlk, htab, hK, hZ, hnw, hst, rfl, rfl, rfl, rfl, rfl, rfl, rfl⟩ := C
  intro ad H locs ls ha hR hS hl
  have e9 : ad 908 = ad0 908 := ha 908 (hnw 908 (by decide))
  exact va_slen (b := ad 908) hx hb (by rw [e9]; exact hX.1) (by rw [e9]; exact Nat.lt_of_lt_of_le hX.2 hZ.1) (by rw [e9]; exact Nat.not_le.mpr hX.2) hS hd (kk ad H locs ls ha hR hS hl)
end XSCR
/-! whole numbers of the law -/
theorem and31 (x : Int32) : ∃ X, X < 2 ^ 31 ∧ x &&& 2147483647 = nI X := by
  refine ⟨x.toBitVec.toNat % 2 ^ 31, Nat.mod_lt _ (by decide), ?_⟩
  have e1 : x = nI x.toBitVec.toNat := by
    apply Int32.toBitVec_inj.mp
    show x.toBitVec = BitVec.ofNat 32 x.toBitVec.toNat
    simp
  have e2 : ∀ a b : Nat, nI a &&& nI b = nI (a &&& b) := fun a b => by
    apply Int32.toBitVec_inj.mp
    show BitVec.ofNat 32 a &&& BitVec.ofNat 32 b = BitVec.ofNat 32 (a &&& b)
    apply BitVec.eq_of_getLsbD_eq
    intro i hi
    simp [hi]
  have e3 : nI x.toBitVec.toNat &&& 2147483647 = nI (x.toBitVec.toNat % 2 ^ 31) := by
    show nI x.toBitVec.toNat &&& nI 2147483647 = _
    rw [e2, show (2147483647 : Nat) = 2 ^ 31 - 1 from rfl, Nat.and_two_pow_sub_one_eq_mod]
  rw [← e3, ← e1]
theorem idivN {a b : Nat} (ha : a < 2 ^ 31) (hb : 0 < b ∧ b < 2 ^ 31) : nI a / nI b = nI (a / b) := by
  have h1 : (nI a).toInt = a := nI_toInt (by omega)
  have h2 : (nI b).toInt = b := nI_toInt (by omega)
  obtain ⟨q, hq⟩ : ∃ q, a / b = q := ⟨_, rfl⟩
  have h3 : q ≤ a := hq ▸ Nat.div_le_self a b
  have h4 : (a : Int) / (b : Int) = (q : Int) := by rw [← hq]; rfl
  refine i32_inj ?_
  rw [hq, Int32.toInt_div, h1, h2, Int.tdiv_eq_ediv_of_nonneg (by omega), h4, nI_toInt (by omega), bm32 (by omega) (by omega)]
theorem iremN {a b : Nat} (ha : a < 2 ^ 31) (hb : 0 < b ∧ b < 2 ^ 31) : nI a - nI a / nI b * nI b = nI (a % b) := by
  rw [idivN ha hb, pk_mul]
  have h1 := Nat.div_mul_le_self a b
  have h2 := Nat.mod_lt a hb.1
  have h3 : a % b = a - a / b * b := by have := Nat.div_add_mod a b; rw [Nat.mul_comm] at this; omega
  refine i32_inj ?_
  rw [i32_sub (by rw [nI_toInt (by omega), nI_toInt (by omega)]; omega) (by rw [nI_toInt (by omega), nI_toInt (by omega)]; omega), nI_toInt (by omega), nI_toInt (by omega), nI_toInt (by omega), h3]
  omega
set_option maxRecDepth 100000 in
set_option maxHeartbeats 4000000 in
theorem p_draw {l : Launch} {N0 : Nat} {D : va_G} {dT : Nat → ClassId} (hflags : l.stackTraces = false) {hp : xH} {Ln q : Nat} {xs : Nat → Int32} (hLn : Ln ≤ 260) (hq : q < 64) : xMetS l N0 D dT yL_draw cL_draw 2 (some FieldType.int) Ln xs 1 0 0 [.ref 908, .int (nI q)] hp xNo (fun r h' => ∃ X, X < 2 ^ 31 ∧ r = some (.int (nI X)) ∧ h' = hp) := by
  refine xMetS_of hflags (by decide +kernel) (fun _ _ h => h) (Nat.le_of_ble_eq_true rfl) ?_
  intro E C hX hret
  refine a_loc [(0, .ref 908), (1, .int (nI q))] (xsub_cons rfl (xsub_cons rfl xsub_nil)) ?_
  refine a_iload_n (i := 1) C dL_draw_0 rfl rfl ?_
  refine a_aload_n (i := 0) C dL_draw_1 rfl rfl ?_
  refine a_scrLen C hX dL_draw_2 ?_
  refine a_icmp_ge (tgt := 12) C dL_draw_3 (by decide) (fun c3 => ?_) (fun c3 => ?_)
  · refine a_ldc C dL_draw_12 tb157 ?_
    refine a_iload_n (i := 1) C dL_draw_14 rfl rfl ?_
    refine a_imul C dL_draw_15 ?_
    refine a_sipush (v := 11497) C dL_draw_16 (by decide) ?_
    refine a_iadd C dL_draw_19 ?_
    refine a_ldc C dL_draw_20 tb158 ?_
    refine a_iand C dL_draw_22 ?_
    obtain ⟨X, hX31, eX⟩ := and31 _
    refine a_top (nI X) eX ?_
    exact a_iret C dL_draw_23 (Nat.le_of_ble_eq_true rfl) (Nat.le_of_ble_eq_true rfl) (hret _ _ ⟨X, hX31, rfl, rfl⟩)
  · refine a_aload_n (i := 0) C dL_draw_6 rfl rfl ?_
    refine a_iload_n (i := 1) C dL_draw_7 rfl rfl ?_
    have hlt : q < Ln := by
      rcases Nat.lt_or_ge q Ln with z | z
      · exact z
      · exact absurd ((xle (a := Ln) (b := q) (by omega) (by omega)).mpr z) c3
    refine a_scrGet C hX dL_draw_8 hlt (by omega) ?_
    refine a_goto (tgt := 20) C dL_draw_9 (by decide) ?_
    refine a_ldc C dL_draw_20 tb158 ?_
    refine a_iand C dL_draw_22 ?_
    obtain ⟨X, hX31, eX⟩ := and31 _
    refine a_top (nI X) eX ?_
    exact a_iret C dL_draw_23 (Nat.le_of_ble_eq_true rfl) (Nat.le_of_ble_eq_true rfl) (hret _ _ ⟨X, hX31, rfl, rfl⟩)
