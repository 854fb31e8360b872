theorem xR.ext {N0 : Nat} {D : va_G} {dT : Nat → ClassId} {ad : Nat → Nat} {hp : xH} {H H1 : Heap} (h : xR N0 D dT ad hp H) (o : ∀ q : Nat, q < H.size → H1[q]? = H[q]?) : xR N0 D dT ad hp H1 :=
  ⟨fun k e hk => ⟨(h.1 k e hk).1.kept (o _ (h.1 k e hk).1.lt), (h.1 k e hk).2⟩, h.2⟩
/-- a contract that throws nothing, in the kit's own form -/
theorem xMet.met {l : Launch} {N0 : Nat} {D : va_G} {dT : Nat → ClassId} {y : MethodName} {b : ByteArray} {n : Nat} {ret : Option FieldType} {d mc ms : Nat} {as : List Value} {hp : xH} {nw : Nat → Prop} {post : Option Value → xH → Prop} (h : xMet l N0 D dT y b n ret d mc ms as hp nw post xNX) (ad : Nat → Nat) : Met l y (xws y b n ret) (xRm d mc ms) (xPc N0 D dT ad as hp) (xQc N0 D dT ad nw post) mc ms (fun q => N0 ≤ q) :=
  MetFree.mono (h ad) (fun _ _ h => h) (fun _ _ _ _ _ h => h) (fun a s o t _ hq => by
    rcases hq with hq | ⟨q, -, x, ce, L, ⟨hp', ad', hf, -⟩, -⟩
    · exact hq
    · exact hf.elim)
theorem vx_Run_of {p : Program} {l : Launch} {e : Env} {R : Room} {s : State} {m : MethodId} {args : Array Value} {below : List Frame} {meth : Method} {c : Code} {H : Heap} {locs : List Loc} {k n mc ms : Nat} {g : JFrame} {rest : List Value} {Qa : State → Outcome → State → Prop} {XC : String → State → State → Prop} {free : Addr → Prop} (h : va_Run p l e R s m args below meth c H locs k n mc ms g rest Qa free) : vx_Run p l e R s m args below meth c H locs k n mc ms g rest Qa XC free := fun T hT X => Or.inl (h T hT X)
section XTHROWS
variable {E : xEnv} {l9 : Launch} {N9 : Nat} {D9 : va_G} {T9 : Nat → ClassId} {cc : ByteArray} {own : String} {nL9 : Nat} {ret : Option FieldType} {tab : List ExceptionTableEntry} {R9 : Room} {nw9 : Nat → Prop} {k n : Nat} {hp : xH} {pc : Nat} {L : List (Nat × Value)} {S S' : List Value}
theorem a_callI (C : aC E l9 N9 D9 T9 cc own nL9 ret tab R9 nw9) {index : Nat} {y : MethodName} {b : ByteArray} {m9 : Nat} {d' mc ms na a : Nat} {As : List Value} {nw' : Nat → Prop} {post : Option Value → xH → Prop} (hd : decode cc pc = .ok (.invokespecial index, 3)) (hcv : xCI y b m9 na) (hlink : Cond.methodLink own index y ∈ xTB) (hM : xMet l9 N9 D9 T9 y b m9 none d' mc ms (.ref a :: As) hp nw' post xNX) (hst : S = As.reverse ++ .ref a :: S') (hna : As.length = na) (hcat : (S'.map fun v => v.category).sum ≤ 8) (hRm : d' + 1 ≤ R9.frames ∧ 8 + (m9 + 11) + 40 * d' ≤ R9.locals) (hbud : k + mc ≤ R9.cells ∧ n + ms ≤ R9.slots) (hsub : ∀ j, nw' j → nw9 j) (hav : xav nw' L S')
    (kk : ∀ r hp', post r hp' → aW E (k + mc) (n + ms) hp' (pc + 3) L (r.toList ++ S')) : aW E k n hp pc L S := by
  obtain ⟨p, l, e, R, s, m, args, below, meth, c, D, dT, N0, nL, nw, ad0, Q⟩ := E
  obtain ⟨⟨hx, hb, hml, hown, hts⟩, hr, hlk, htab, hK, hZ, hnw, hst9, rfl, rfl, rfl, rfl, rfl, rfl, rfl⟩ := C
  intro ad H locs ls ha hR hS hl
  obtain ⟨c1, c2, c3, c4, c5⟩ := hcv
  have cw := cwI (R := R) (rm := xRm d' mc ms) na hts (xws_in c4) rfl rfl rfl (hts _ c3) (hts _ hlink) (hts _ c1) c2 c5 hRm
  have hPre := fun U hU hW => xPre (as := .ref a :: As) hnw ha hR hS hK hZ U hU hW
  refine xrun (px := xNX) (vx_Run_of (va_runI (As := As.map (x_cv ad)) (rest := S'.map (x_cv ad)) ⟨hx, hb, hml, hown, hts⟩ (hM.met ad) cw ⟨xPc_blind, hPre⟩ rfl (by rw [List.length_map]; exact hna) hl.1 ?_ (lv_room (by rw [x_cats]; exact hcat)) hd hbud)) ha hsub hav hS hl (fun _ _ h => h.elim) kk
  subst hst
  show (As.reverse ++ .ref a :: S').map (x_cv ad) = _
  rw [List.map_append, List.map_reverse]
  rfl
/-- a nest mate's private constructor -/
theorem a_callIN (C : aC E l9 N9 D9 T9 cc own nL9 ret tab R9 nw9) {index : Nat} {host : String} {y : MethodName} {b : ByteArray} {m9 : Nat} {d' mc ms na a : Nat} {As : List Value} {nw' : Nat → Prop} {post : Option Value → xH → Prop} (hd : decode cc pc = .ok (.invokespecial index, 3)) (hcv : xCI y b m9 na) (hlink : Cond.methodLinkNest own index y host ∈ xTN) (hM : xMet l9 N9 D9 T9 y b m9 none d' mc ms (.ref a :: As) hp nw' post xNX) (hst : S = As.reverse ++ .ref a :: S') (hna : As.length = na) (hcat : (S'.map fun v => v.category).sum ≤ 8) (hRm : d' + 1 ≤ R9.frames ∧ 8 + (m9 + 11) + 40 * d' ≤ R9.locals) (hbud : k + mc ≤ R9.cells ∧ n + ms ≤ R9.slots) (hsub : ∀ j, nw' j → nw9 j) (hav : xav nw' L S')
    (kk : ∀ r hp', post r hp' → aW E (k + mc) (n + ms) hp' (pc + 3) L (r.toList ++ S')) : aW E k n hp pc L S := by
  obtain ⟨p, l, e, R, s, m, args, below, meth, c, D, dT, N0, nL, nw, ad0, Q⟩ := E
  obtain ⟨⟨hx, hb, hml, hown, hts⟩, hr, hlk, htab, hK, hZ, hnw, hst9, rfl, rfl, rfl, rfl, rfl, rfl, rfl⟩ := C
  intro ad H locs ls ha hR hS hl
  obtain ⟨c1, c2, c3, c4, c5⟩ := hcv
  have cw := va_cnB (R := R) (rm := xRm d' mc ms) na hts (xws_in c4) rfl rfl rfl (hZ.2.2.2.2.1.2 _ hlink) (hts _ c3) c5 hRm
  have hPre := fun U hU hW => xPre (as := .ref a :: As) hnw ha hR hS hK hZ U hU hW
  refine xrun (px := xNX) (vx_Run_of (va_runIN (As := As.map (x_cv ad)) (rest := S'.map (x_cv ad)) ⟨hx, hb, hml, hown, hts⟩ (hM.met ad) ⟨cw, c2, hts _ c1⟩ ⟨xPc_blind, hPre⟩ rfl (by rw [List.length_map]; exact hna) hl.1 ?_ (lv_room (by rw [x_cats]; exact hcat)) hd hbud)) ha hsub hav hS hl (fun _ _ h => h.elim) kk
  subst hst
  show (As.reverse ++ .ref a :: S').map (x_cv ad) = _
  rw [List.map_append, List.map_reverse]
  rfl
/-- a throw goes on to the caller -/
theorem a_out (C : aC E l9 N9 D9 T9 cc own nL9 ret tab R9 nw9) {x : String} (hcov : ∀ z ∈ tab, covers z pc = false) (hT : aT E x hp) (hk : k ≤ R9.cells) (hn : n ≤ R9.slots) : aX E k n hp pc L x := by
  obtain ⟨p, l, e, R, s, m, args, below, meth, c, D, dT, N0, nL, nw, ad0, Q⟩ := E
  obtain ⟨⟨hx, hb, hml, hown, hts⟩, hr, hlk, htab, hK, hZ, hnw, hst9, rfl, rfl, rfl, rfl, rfl, rfl, rfl⟩ := C
  intro ad H locs ls S q ce ha hR hS hl hce hcv hcl
  refine vx_W_mono ?_ (vx_out (Qc := fun _ _ _ _ => False) (XC := fun x' _ t => x' = x ∧ t.heap = H) (mc := R.cells) (ms := R.slots) (free := fun q => N0 ≤ q) (by rw [htab]; exact hcov) hlk hce hcv hcl (fun t ht _ => ⟨rfl, ht⟩) hS.2.2 hk hn)
  intro t ⟨o, h1, h2, h3⟩
  rcases h3 with ⟨h3, -⟩ | ⟨q', rfl, x', ce', L', ⟨rfl, h4⟩, h5, h6, h7, h8, h9, h10⟩
  · exact h3.elim
  · exact hT ad t q' ha (by rw [h4]; exact hR) (hS.F h4) h1 h2 ⟨ce', L', h5, h6, h7, h8, h9, h10⟩
/-- new X("text"), thrown -/
theorem a_throw (C : aC E l9 N9 D9 T9 cc own nL9 ret [] R9 nw9) {cls text : String} {names : List String} {ik is ic sn : Nat} (hcls : Bundle.fit cls = true) (hnames : ∀ n ∈ names, Bundle.fit n = true) (hk : Cond.classLink own ik cls ∈ xTB) (hini : Cond.initialized cls ∈ xTB) (hstr : ∀ (ad : Nat → Nat) (U : State), xStr ad U → vk_R own is text (ad sn) U) (hat : ∀ w ∈ vx_atS own ic cls names, w ∈ xTB ∨ w ∈ xTN) (hgood : ∀ w ∈ Cond.classLink own ik cls :: Cond.initialized cls :: vx_atS own ic cls names, vx_ot w = true)
    (d0 : decode cc pc = .ok (.new ik, 3)) (d3 : decode cc (pc + 3) = .ok (.dup, 1)) (d4 : decode cc (pc + 4) = .ok (.ldc is, 2)) (d6 : decode cc (pc + 6) = .ok (.invokespecial ic, 3)) (d9 : decode cc (pc + 9) = .ok (.athrow, 1))
    (hRf : names.length + 3 < R9.frames) (hRl : (S.map fun v => v.category).sum + (13 * (names.length + 1) + 43) ≤ R9.locals) (hkc : k + 1 ≤ R9.cells) (hns : n + 6 ≤ R9.slots) (hT : aT E cls hp) : aW E k n hp pc L S := by
  obtain ⟨p, l, e, R, s, m, args, below, meth, c, D, dT, N0, nL, nw, ad0, Q⟩ := E
  obtain ⟨⟨hx, hb, hml, hown, hts⟩, hr, hlk, htab, hK, hZ, hnw, hst9, rfl, rfl, rfl, rfl, rfl, rfl, rfl⟩ := C
  intro ad H locs ls ha hR hS hl
  refine W_mono ?_ (vx_throwS (Qc := fun _ _ _ _ => False) (XC := fun x' _ t => x' = cls ∧ H.size ≤ t.heap.size ∧ ∀ q : Nat, q < H.size → t.heap[q]? = H[q]?) (mc := R.cells) (ms := R.slots) (free := fun q => N0 ≤ q) (A := fun q => N0 ≤ q) hx hb hst9 hown hcls hnames (hts _ hk) (hts _ hini) (hstr ad0 s hZ.2.2.2.2.1) (fun w hw => (hat w hw).elim (fun h => hts _ h) (fun h => va_Nw.use (xtn_ot (List.mem_filter.mp h).2) (hZ.2.2.2.2.1.2 _ h))) hgood hZ.2.2.2.1.1 hZ.2.2.2.1.2 hS (hl.1.trans hml.symm) d0 d3 d4 d6 d9 (by rw [htab]; exact fun _ h => by cases h) hRf (by rw [x_cats]; exact hRl) hkc hns hlk (fun t _ h1 h2 => ⟨rfl, h1, h2⟩) hS.2.2 hkc hns)
  intro t ⟨o, h1, h2, h3⟩
  rcases h3 with ⟨h3, -⟩ | ⟨q', rfl, x', ce', L', ⟨rfl, h4, h4'⟩, h5, h6, h7, h8, h9, h10⟩
  · exact h3.elim
  · exact hT ad t q' ha (hR.ext h4') ⟨Nat.le_trans hS.1 h4, fun q g1 g2 => (h4' q (Nat.lt_of_lt_of_le g1 hS.1)).trans (hS.2.1 q g1 g2)⟩ h1 h2 ⟨ce', L', h5, h6, h7, h8, h9, h10⟩
/-- a static field, known from the start on: the months (900), the lists' empty row (901) -/
theorem a_getsM (C : aC E l9 N9 D9 T9 cc own nL9 ret tab R9 nw9) {index : Nat} (hd : decode cc pc = .ok (.getstatic index, 3)) (hlink : Cond.fieldLink own index "ReceivablesBook$DayCount" "MONTH_DAYS" "[I" ∈ xTB) (kk : aW E k n hp (pc + 3) L (.ref 900 :: S)) : aW E k n hp pc L S := by
  obtain ⟨p, l, e, R, s, m, args, below, meth, c, D, dT, N0, nL, nw, ad0, Q⟩ := E
  obtain ⟨⟨hx, hb, hml, hown, hts⟩, hr, hlk, htab, hK, hZ, hnw, hst, rfl, rfl, rfl, rfl, rfl, rfl, rfl⟩ := C
  intro ad H locs ls ha hR hS hl
  refine va_gets hx hb hZ.2.1.1 hS hown (hts _ hlink) (fun _ h => h) hd ?_
  rw [← ha 900 (hnw 900 (by decide))]
  exact kk ad H locs ls ha hR hS hl
theorem a_getsE (C : aC E l9 N9 D9 T9 cc own nL9 ret tab R9 nw9) {index : Nat} (hd : decode cc pc = .ok (.getstatic index, 3)) (hlink : Cond.fieldLink own index "java/util/ArrayList" "DEFAULTCAPACITY_EMPTY_ELEMENTDATA" "[Ljava/lang/Object;" ∈ xTB) (kk : aW E k n hp (pc + 3) L (.ref 901 :: S)) : aW E k n hp pc L S := by
  obtain ⟨p, l, e, R, s, m, args, below, meth, c, D, dT, N0, nL, nw, ad0, Q⟩ := E
  obtain ⟨⟨hx, hb, hml, hown, hts⟩, hr, hlk, htab, hK, hZ, hnw, hst, rfl, rfl, rfl, rfl, rfl, rfl, rfl⟩ := C
  intro ad H locs ls ha hR hS hl
  refine va_gets hx hb hZ.2.2.1.1 hS hown (hts _ hlink) (fun _ h => h) hd ?_
  rw [← ha 901 (hnw 901 (by decide))]
  exact kk ad H locs ls ha hR hS hl
theorem a_monthLen (C : aC E l9 N9 D9 T9 cc own nL9 ret tab R9 nw9) (hd : decode cc pc = .ok (.arraylength, 1)) (kk : aW E k n hp (pc + 1) L (.int 12 :: S)) : aW E k n hp pc L (.ref 900 :: S) := by
  obtain ⟨p, l, e, R, s, m, args, below, meth, c, D, dT, N0, nL, nw, ad0, Q⟩ := E
  obtain ⟨⟨hx, hb, hml, hown, hts⟩, hr, hlk, htab, hK, hZ, hnw, hst, rfl, rfl, rfl, rfl, rfl, rfl, rfl⟩ := C
  intro ad H locs ls ha hR hS hl
  have e9 : ad 900 = ad0 900 := ha 900 (hnw 900 (by decide))
  have w := va_slen (b := ad 900) hx hb (by rw [e9]; exact hZ.2.1.2.1) (by rw [e9]; exact Nat.lt_of_lt_of_le hZ.2.1.2.2 hZ.1) (by rw [e9]; exact Nat.not_le.mpr hZ.2.1.2.2) hS hd (kk ad H locs ls ha hR hS hl)
  exact w
theorem a_monthGet (C : aC E l9 N9 D9 T9 cc own nL9 ret tab R9 nw9) {i : Int32} (hd : decode cc pc = .ok (.iaload, 1)) (hi : vp_in i 12) (kk : aW E k n hp (pc + 1) L (.int (xMonths i.toNatClampNeg) :: S)) : aW E k n hp pc L (.int i :: .ref 900 :: S) := by
  obtain ⟨p, l, e, R, s, m, args, below, meth, c, D, dT, N0, nL, nw, ad0, Q⟩ := E
  obtain ⟨⟨hx, hb, hml, hown, hts⟩, hr, hlk, htab, hK, hZ, hnw, hst, rfl, rfl, rfl, rfl, rfl, rfl, rfl⟩ := C
  intro ad H locs ls ha hR hS hl
  have e9 : ad 900 = ad0 900 := ha 900 (hnw 900 (by decide))
  exact va_sld (b := ad 900) hx hb (by rw [e9]; exact hZ.2.1.2.1) (by rw [e9]; exact Nat.lt_of_lt_of_le hZ.2.1.2.2 hZ.1) (by rw [e9]; exact Nat.not_le.mpr hZ.2.1.2.2) hS hi hd (kk ad H locs ls ha hR hS hl)
/-- Math.min, Math.max, Math.min of longs -/
theorem a_min (C : aC E l9 N9 D9 T9 cc own nL9 ret tab R9 nw9) {index : Nat} {x y : Int32} (hd : decode cc pc = .ok (.invokestatic index, 3)) (hlink : Cond.methodLink own index Lib.Math.min.name ∈ xTB) (h1 : Cond.static Lib.Math.min.name ∈ xTB) (h2 : Cond.initialized "java/lang/Math" ∈ xTB) (h3 : Cond.code Lib.Math.min.name Lib.Math.min.code 2 (some .int) ∈ xTB) (hcat : (S.map fun v => v.category).sum ≤ 8) (hf : 1 ≤ R9.frames) (hlo : 21 ≤ R9.locals) (hk : k ≤ R9.cells) (hn : n ≤ R9.slots) (kk : aW E k n hp (pc + 3) L (.int (if y < x then y else x) :: S)) : aW E k n hp pc L (.int y :: .int x :: S) := by
  obtain ⟨p, l, e, R, s, m, args, below, meth, c, D, dT, N0, nL, nw, ad0, Q⟩ := E
  obtain ⟨⟨hx, hb, hml, hown, hts⟩, hr, hlk, htab, hK, hZ, hnw, hst, rfl, rfl, rfl, rfl, rfl, rfl, rfl⟩ := C
  intro ad H locs ls ha hR hS hl
  exact va_mmin hx hb (hml.trans hl.1.symm) hown (hts _ hlink) (hts _ h1) (hts _ h2) (hts _ h3) hf (by rw [x_cats]; omega) hk hn hd (kk ad H locs ls ha hR hS hl)
theorem a_max (C : aC E l9 N9 D9 T9 cc own nL9 ret tab R9 nw9) {index : Nat} {x y : Int32} (hd : decode cc pc = .ok (.invokestatic index, 3)) (hlink : Cond.methodLink own index Lib.Math.max.name ∈ xTB) (h1 : Cond.static Lib.Math.max.name ∈ xTB) (h2 : Cond.initialized "java/lang/Math" ∈ xTB) (h3 : Cond.code Lib.Math.max.name Lib.Math.max.code 2 (some .int) ∈ xTB) (hcat : (S.map fun v => v.category).sum ≤ 8) (hf : 1 ≤ R9.frames) (hlo : 21 ≤ R9.locals) (hk : k ≤ R9.cells) (hn : n ≤ R9.slots) (kk : aW E k n hp (pc + 3) L (.int (if x < y then y else x) :: S)) : aW E k n hp pc L (.int y :: .int x :: S) := by
  obtain ⟨p, l, e, R, s, m, args, below, meth, c, D, dT, N0, nL, nw, ad0, Q⟩ := E
  obtain ⟨⟨hx, hb, hml, hown, hts⟩, hr, hlk, htab, hK, hZ, hnw, hst, rfl, rfl, rfl, rfl, rfl, rfl, rfl⟩ := C
  intro ad H locs ls ha hR hS hl
  exact va_mmax hx hb (hml.trans hl.1.symm) hown (hts _ hlink) (hts _ h1) (hts _ h2) (hts _ h3) hf (by rw [x_cats]; omega) hk hn hd (kk ad H locs ls ha hR hS hl)
theorem a_minL (C : aC E l9 N9 D9 T9 cc own nL9 ret tab R9 nw9) {index : Nat} {x y : Int64} (hd : decode cc pc = .ok (.invokestatic index, 3)) (hlink : Cond.methodLink own index Lib.MathLoose.min_long.x ∈ xTB) (h1 : Cond.static Lib.MathLoose.min_long.x ∈ xTB) (h2 : Cond.initialized "java/lang/Math" ∈ xTB) (h3 : Cond.code Lib.MathLoose.min_long.x Lib.MathLoose.min_long.code 4 (some .long) ∈ xTB) (hcat : (S.map fun v => v.category).sum ≤ 8) (hf : 1 ≤ R9.frames) (hlo : 23 ≤ R9.locals) (hk : k ≤ R9.cells) (hn : n ≤ R9.slots) (kk : aW E k n hp (pc + 3) L (.long (if y < x then y else x) :: S)) : aW E k n hp pc L (.long y :: .long x :: S) := by
  obtain ⟨p, l, e, R, s, m, args, below, meth, c, D, dT, N0, nL, nw, ad0, Q⟩ := E
  obtain ⟨⟨hx, hb, hml, hown, hts⟩, hr, hlk, htab, hK, hZ, hnw, hst, rfl, rfl, rfl, rfl, rfl, rfl, rfl⟩ := C
  intro ad H locs ls ha hR hS hl
  exact va_mmin_long hx hb (hml.trans hl.1.symm) hown (hts _ hlink) (hts _ h1) (hts _ h2) (hts _ h3) hf (by rw [x_cats]; omega) hk hn hd (kk ad H locs ls ha hR hS hl)
end XTHROWS
