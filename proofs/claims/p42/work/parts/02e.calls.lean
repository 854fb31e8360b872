/-! Calls, throws, and a method's contract out of the walk of its body. -/
/-- the callee's new numbers are not in the caller's locals and stack -/
def xav (nw : Nat → Prop) (L : List (Nat × Value)) (S : List Value) : Prop := (∀ q ∈ L, ∀ j, q.2 = .ref j → ¬ nw j) ∧ ∀ v ∈ S, ∀ j, v = .ref j → ¬ nw j
abbrev xNo : Nat → Prop := fun _ => False
abbrev xNX : String → xH → Prop := fun _ _ => False
theorem xav_no {L : List (Nat × Value)} {S : List Value} : xav xNo L S := ⟨fun _ _ _ _ h => h, fun _ _ _ _ h => h⟩
theorem xav_cl {nw : Nat → Prop} {L : List (Nat × Value)} {ad ad' : Nat → Nat} (h : ∀ q ∈ L, ∀ j, q.2 = .ref j → ¬ nw j) (hA : ∀ j, ¬ nw j → ad' j = ad j) : xcl ad' L = xcl ad L := by
  unfold xcl
  refine List.map_congr_left fun q hq => ?_
  have : x_cv ad' q.2 = x_cv ad q.2 := by
    cases hv : q.2 with
    | ref j => exact congrArg Value.ref (hA j (h q hq j hv))
    | _ => rfl
  rw [this]
theorem xav_st {nw : Nat → Prop} {S : List Value} {ad ad' : Nat → Nat} (h : ∀ v ∈ S, ∀ j, v = .ref j → ¬ nw j) (hA : ∀ j, ¬ nw j → ad' j = ad j) : S.map (x_cv ad') = S.map (x_cv ad) :=
  List.map_congr_left fun v hv => by
    cases v with
    | ref j => exact congrArg Value.ref (hA j (h _ hv j rfl))
    | _ => rfl
theorem x_cats (ad : Nat → Nat) (S : List Value) : ((S.map (x_cv ad)).map fun v => v.category) = S.map fun v => v.category := by
  rw [List.map_map]
  exact List.map_congr_left fun v _ => x_cv_cat ad v
section XCALLS
variable {E : xEnv} {l9 : Launch} {N9 : Nat} {D9 : va_G} {T9 : Nat → ClassId} {cc : ByteArray} {own : String} {nL9 : Nat} {ret : Option FieldType} {tab : List ExceptionTableEntry} {R9 : Room} {nw9 : Nat → Prop} {k n : Nat} {hp : xH} {pc : Nat} {L : List (Nat × Value)} {S S' : List Value}
/-- a contract's start, at a call -/
theorem xPre {s : State} {H : Heap} {locs : List Loc} {N0 : Nat} {D : va_G} {dT : Nat → ClassId} {ad ad0 : Nat → Nat} {nw : Nat → Prop} {as : List Value} (hnw : ∀ j, 900 ≤ j → ¬ nw j) (ha : ∀ j, ¬ nw j → ad j = ad0 j) (hR : xR N0 D dT ad hp H) (hS : va_S (fun q => N0 ≤ q) s.heap H locs) (hK : xK D dT s) (hZ : xZ N0 dT ad0 s s.heap) (U : State) (hU : U.heap = H) (hW : s.WarmedH U.vm) : xPc N0 D dT ad as hp ((as.map (x_cv ad)).toArray) U :=
  ⟨rfl, by rw [hU]; exact hR, va_K.moved hW.alike hK, by rw [hU]; exact xZ.to hZ hW.alike (xStr.warm hW hZ.2.2.2.2.1) (fun q h1 h2 => hS.2.1 q h1 h2) hS.1 (fun j hj => ha j (hnw j hj))⟩
/-- behind a call of any kind -/
theorem xrun {p : Program} {l : Launch} {e : Env} {R : Room} {s : State} {m : MethodId} {args : Array Value} {below : List Frame} {meth : Method} {c : Code} {D : va_G} {dT : Nat → ClassId} {N0 nL : Nat} {nw nw' : Nat → Prop} {ad0 ad : Nat → Nat} {Q : State → Prop} {H : Heap} {locs : List Loc} {ls : Array Slot} {st0 : List Value} {a : Array Value} {mc ms : Nat} {post : Option Value → xH → Prop} {px : String → xH → Prop}
    (hr : vx_Run p l e R s m args below meth c H locs k n mc ms (F0 m pc ls st0) (S'.map (x_cv ad)) (xQc N0 D dT ad nw' post a) (xXc N0 D dT ad nw' px) (fun q => N0 ≤ q)) (ha : ∀ j, ¬ nw j → ad j = ad0 j) (hsub : ∀ j, nw' j → nw j) (hav : xav nw' L S') (hS : va_S (fun q => N0 ≤ q) s.heap H locs) (hl : lv_has ls nL (xcl ad L))
    (kx : ∀ x hp', px x hp' → aX (p, l, e, R, s, m, args, below, meth, c, D, dT, N0, nL, nw, ad0, Q) (k + mc) (n + ms) hp' pc L x) (kk : ∀ r hp', post r hp' → aW (p, l, e, R, s, m, args, below, meth, c, D, dT, N0, nL, nw, ad0, Q) (k + mc) (n + ms) hp' (pc + 3) L (r.toList ++ S')) : W p l e R s m args below meth c H locs k n Q (F0 m pc ls st0) := by
  intro T hT X
  rcases hr T hT X with ⟨v, st₀, t, T', L9, h0, X', hL, e1, e2, ⟨r, hp', ad', hv, hp1, hA, hR1, hF⟩, st⟩ | ⟨q, st₀, t, T', L9, x, ce, h0, X', hL, e1, e2, ⟨hp', ad', hp1, hA, hR1, hF⟩, hce, hcv, hcl, st⟩
  · cases hv
    obtain ⟨k1, k2, k3⟩ := vx_keep (A0 := fun q => N0 ≤ q) (A1 := fun q => N0 ≤ q) h0 e1 hS (fun _ _ h => h) (fun _ h => h) hL hF
    have w := kk r hp' hp1 ad' T'.heap (locs ++ L9) ls (fun j hj => (hA j (fun z => hj (hsub j z))).trans (ha j hj)) (by rw [e1]; exact hR1) k3 (by rw [xav_cl hav.1 hA]; exact hl)
    obtain ⟨t2, a1, b1⟩ := w T' rfl X'
    refine ⟨t2, st t2 ?_, b1⟩
    have es : (r.map (x_cv ad')).toList ++ S'.map (x_cv ad) = (r.toList ++ S').map (x_cv ad') := by
      rw [List.map_append, xav_st hav.2 hA]
      cases r <;> rfl
    show Steps p.tables e below (T'.setTop (F0 m (pc + 3) ls ((r.map (x_cv ad')).toList ++ S'.map (x_cv ad)))) t2
    rw [es]
    exact a1
  · obtain ⟨k1, k2, k3⟩ := vx_keep (A0 := fun q => N0 ≤ q) (A1 := fun q => N0 ≤ q) h0 e1 hS (fun _ _ h => h) (fun _ h => h) hL hF
    have w := kx x hp' hp1 ad' T'.heap (locs ++ L9) ls (S'.map (x_cv ad)) q ce (fun j hj => (hA j (fun z => hj (hsub j z))).trans (ha j hj)) (by rw [e1]; exact hR1) k3 (by rw [xav_cl hav.1 hA]; exact hl) (by rw [e1]; exact hce) hcv hcl
    obtain ⟨t2, a1, b1⟩ := w T' rfl X'
    exact ⟨t2, st.trans a1, b1⟩
theorem a_callV (C : aC E l9 N9 D9 T9 cc own nL9 ret tab R9 nw9) {index : Nat} {y : MethodName} {b : ByteArray} {m9 : Nat} {ret' : Option FieldType} {d' mc ms na a ci : Nat} {As : List Value} {nw' : Nat → Prop} {post : Option Value → xH → Prop} {px : String → xH → Prop} {fs : List Value} (hd : decode cc pc = .ok (.invokevirtual index, 3)) (hcv : xCV y b m9 ret' na) (hlink : Cond.methodLink own index y ∈ xTB) (hM : xMet l9 N9 D9 T9 y b m9 ret' d' mc ms (.ref a :: As) hp nw' post px) (hst : S = As.reverse ++ .ref a :: S') (hna : As.length = na) (hrecv : hp a = some (.inr (ci, fs))) (hcl : (vwCl[ci]?).map (·.1) = some y.cls) (hcat : (S'.map fun v => v.category).sum ≤ 8) (hRm : d' + 1 ≤ R9.frames ∧ 8 + (m9 + 11) + 40 * d' ≤ R9.locals) (hbud : k + mc ≤ R9.cells ∧ n + ms ≤ R9.slots) (hsub : ∀ j, nw' j → nw9 j) (hav : xav nw' L S')
    (kx : ∀ x hp', px x hp' → aX E (k + mc) (n + ms) hp' pc L x) (kk : ∀ r hp', post r hp' → aW E (k + mc) (n + ms) hp' (pc + 3) L (r.toList ++ S')) : aW E k n hp pc L S := by
  obtain ⟨p, l, e, R, s, m, args, below, meth, c, D, dT, N0, nL, nw, ad0, Q⟩ := E
  obtain ⟨⟨hx, hb, hml, hown, hts⟩, hr, hlk, htab, hK, hZ, hnw, hst9, rfl, rfl, rfl, rfl, rfl, rfl, rfl⟩ := C
  intro ad H locs ls ha hR hS hl
  obtain ⟨c1, c2, c3, c4, c5⟩ := hcv
  have hG : GoodIn xTB (wsV own index y.cls y (xws y b m9 ret')) := xtb_in fun w hw => by
    rcases List.mem_append.mp hw with hw | hw
    · simp only [List.mem_cons, List.not_mem_nil, or_false] at hw
      rcases hw with rfl | rfl | rfl | rfl <;> assumption
    · rcases List.mem_cons.mp hw with rfl | hw
      · exact c4
      · exact hw
  have cw := cwV (R := R) (rm := xRm d' mc ms) na hts hG rfl rfl rfl ⟨rfl, c5⟩ hRm
  obtain ⟨qc, hqc, hq1⟩ := Option.map_eq_some_iff.mp hcl
  have hPre := fun U hU hW => xPre (as := .ref a :: As) hnw ha hR hS hK hZ U hU hW
  refine xrun (vx_runV (As := As.map (x_cv ad)) (rest := S'.map (x_cv ad)) ⟨hx, hb, hml, hown, hts⟩ (hM ad) cw ⟨xPc_blind, ?_, hPre⟩ rfl (by rw [List.length_map]; exact hna) hl.1 ?_ (lv_room (by rw [x_cats]; exact hcat)) hd hbud) ha hsub hav hS hl kx kk
  · have := va_recv hK (hR.one hrecv) hqc (q0 := 0) rfl
    rw [hq1] at this
    exact this
  · subst hst
    show (As.reverse ++ .ref a :: S').map (x_cv ad) = _
    rw [List.map_append, List.map_reverse]
    rfl
theorem a_callS (C : aC E l9 N9 D9 T9 cc own nL9 ret tab R9 nw9) {index : Nat} {y : MethodName} {b : ByteArray} {m9 : Nat} {ret' : Option FieldType} {d' mc ms na : Nat} {As : List Value} {nw' : Nat → Prop} {post : Option Value → xH → Prop} {px : String → xH → Prop} (hd : decode cc pc = .ok (.invokestatic index, 3)) (hcv : xCS y b m9 ret' na) (hlink : Cond.methodLink own index y ∈ xTB) (hM : xMet l9 N9 D9 T9 y b m9 ret' d' mc ms As hp nw' post px) (hst : S = As.reverse ++ S') (hna : As.length = na) (hcat : (S'.map fun v => v.category).sum ≤ 8) (hRm : d' + 1 ≤ R9.frames ∧ 8 + (m9 + 11) + 40 * d' ≤ R9.locals) (hbud : k + mc ≤ R9.cells ∧ n + ms ≤ R9.slots) (hsub : ∀ j, nw' j → nw9 j) (hav : xav nw' L S')
    (kx : ∀ x hp', px x hp' → aX E (k + mc) (n + ms) hp' pc L x) (kk : ∀ r hp', post r hp' → aW E (k + mc) (n + ms) hp' (pc + 3) L (r.toList ++ S')) : aW E k n hp pc L S := by
  obtain ⟨p, l, e, R, s, m, args, below, meth, c, D, dT, N0, nL, nw, ad0, Q⟩ := E
  obtain ⟨⟨hx, hb, hml, hown, hts⟩, hr, hlk, htab, hK, hZ, hnw, hst9, rfl, rfl, rfl, rfl, rfl, rfl, rfl⟩ := C
  intro ad H locs ls ha hR hS hl
  obtain ⟨c1, c2, c4, c5⟩ := hcv
  have cw : CallB R s args own index y b m9 ret' (xws y b m9 ret') (xRm d' mc ms) mc ms na ∧ (Cond.static y).before args s = true := ⟨callB_of na hts (xws_in c4) rfl rfl rfl (hts _ c2) (hts _ hlink) c5 hRm, hts _ c1⟩
  have hPre := fun U hU hW => xPre (as := As) hnw ha hR hS hK hZ U hU hW
  refine xrun (vx_runS (As := As.map (x_cv ad)) (rest := S'.map (x_cv ad)) ⟨hx, hb, hml, hown, hts⟩ (hM ad) cw ⟨xPc_blind, hPre⟩ rfl (by rw [List.length_map]; exact hna) hl.1 ?_ (lv_room (by rw [x_cats]; exact hcat)) hd hbud) ha hsub hav hS hl kx kk
  subst hst
  show (As.reverse ++ S').map (x_cv ad) = _
  rw [List.map_append, List.map_reverse]
end XCALLS
theorem x_lgl (ad : Nat → Nat) (as : List Value) : (lg_sl (as.map (x_cv ad))).length = (lg_sl as).length := by
  induction as with
  | nil => rfl
  | cons v vs ih =>
    unfold lg_sl at ih ⊢
    rw [List.map_cons, List.flatMap_cons, List.flatMap_cons, List.length_append, List.length_append, ih]
    congr 1
    cases v <;> rfl
theorem x_args (ad : Nat → Nat) (as : List Value) : ∀ i, xcl ad (lv_args i as) = lv_args i (as.map (x_cv ad)) := by
  induction as with
  | nil => intro i; rfl
  | cons v vs ih =>
    intro i
    show (i, x_cv ad v) :: xcl ad (lv_args _ vs) = (i, x_cv ad v) :: lv_args _ (vs.map (x_cv ad))
    rw [ih, x_cv_cat]
/-- THE CONTRACT OUT OF THE WALK -/
theorem xMet_of {l : Launch} {N0 : Nat} {D : va_G} {dT : Nat → ClassId} {y : MethodName} {b : ByteArray} {nL : Nat} {ret : Option FieldType} {d mc ms : Nat} {as : List Value} {hp : xH} {nw : Nat → Prop} {post : Option Value → xH → Prop} {px : String → xH → Prop} (hflags : l.stackTraces = false) (hy : plainName y.cls = true) (hnw : ∀ j, 900 ≤ j → ¬ nw j) (hlen : (lg_sl as).length ≤ nL)
    (body : ∀ E : xEnv, aC E l N0 D dT b y.cls nL ret [] (xRm d mc ms) nw → (y.name = "<init>" → aI E) → (∀ r hp', post r hp' → aR E r hp') → (∀ x hp', px x hp' → aT E x hp') → aW E 0 0 hp 0 (lv_args 0 as) []) : xMet l N0 D dT y b nL ret d mc ms as hp nw post px := by
  intro ad
  refine vx_ofW (cc := b) (maxL := nL) (ret := ret) hy rfl ?_
  intro p e s m args below meth c s₁ B hml htab hv
  obtain ⟨rfl, hR, hK, hZ⟩ := hv
  have hts0 := atoms_spec (ws := xws y b nL ret) B.pre
  have hts : ∀ w ∈ xTB, w.before _ s = true := fun w hw => hts0 w (List.mem_cons_of_mem _ hw)
  have hown : s.vm.findClass y.cls = some m.cls := findClass_of_methodNamed B.named
  have htab' : c.exceptionTable.toList = [] := List.eq_nil_iff_forall_not_mem.mpr (fun x hx => htab x hx)
  have w := body (p, l, e, xRm d mc ms, s, m, (as.map (x_cv ad)).toArray, below, meth, c, D, dT, N0, nL, nw, ad, vx_MQ below (xQc N0 D dT ad nw post) (xXc N0 D dT ad nw px) (as.map (x_cv ad)).toArray s mc ms (fun q => N0 ≤ q))
    ⟨⟨B.exec, B.bytes, hml, hown, hts⟩, B.returns, B.notSynchronized, htab', hK, hZ, hnw, hflags, rfl, rfl, rfl, rfl, rfl, rfl, rfl⟩
    (fun hn => show meth.name = "<init>" from ((name_of_methodNamed B.named B.method).1).trans hn)
    (fun r hp' hp1 ad' t L hA hR1 hF h1 h2 h3 h4 => ⟨_, h1, h2, Or.inl ⟨⟨r, hp', ad', rfl, hp1, hA, hR1, hF⟩, L, h3, h4⟩⟩)
    (fun x hp' hp1 ad' t q hA hR1 hF h1 h2 h3 => by
      obtain ⟨ce, L, g1, g2, g3, g4, g5, g6⟩ := h3
      exact ⟨_, h1, h2, Or.inr ⟨q, rfl, x, ce, L, ⟨hp', ad', hp1, hA, hR1, hF⟩, g1, g2, g3, g4, g5, g6⟩⟩)
  have hlen' : (lg_sl (as.map (x_cv ad))).length ≤ nL := by rw [x_lgl]; exact hlen
  have hl := lv_entry (as.map (x_cv ad)) (n := nL) hlen'
  have w2 := w ad s.heap [] _ (fun _ _ => rfl) hR va_S.rf (by rw [x_args]; exact hl)
  rw [lg_entry_eq]
  exact w2
