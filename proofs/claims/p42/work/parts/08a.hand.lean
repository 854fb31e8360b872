/-! methods with handlers -/
/-- no exception of these is another of these -/
def xNcP : List (String × String) := [("java/lang/IllegalArgumentException", "java/lang/IllegalStateException"), ("java/lang/IllegalArgumentException", "java/lang/IndexOutOfBoundsException"), ("java/lang/IllegalStateException", "java/lang/IllegalArgumentException"), ("java/lang/IllegalStateException", "java/lang/IndexOutOfBoundsException"), ("java/lang/IndexOutOfBoundsException", "java/lang/IllegalArgumentException"), ("java/lang/IndexOutOfBoundsException", "java/lang/IllegalStateException")]
def xNc (U : State) : Prop := ∀ q ∈ xNcP, va_Nc q.1 q.2 U
def xNcE (E : xEnv) : Prop := match E with
  | (_, _, _, _, s, _, _, _, _, _, _, _, _, _, _, _, _) => xNc s
theorem xNc.moved {u U : State} (hvm : u.vm.Alike U.vm) (h : xNc u) : xNc U := fun q hq => va_Nc.moved hvm (h q hq)
def xMetN (l : Launch) (N0 : Nat) (D : va_G) (dT : Nat → ClassId) (y : MethodName) (b : ByteArray) (n : Nat) (ret : Option FieldType) (hh : List (Nat × Nat × Nat × Nat)) (d mc ms : Nat) (as : List Value) (hp : xH) (nw : Nat → Prop) (post : Option Value → xH → Prop) : Prop :=
  ∀ ad : Nat → Nat, vx_Met l y (xwsH y b n ret hh) (xRm d mc ms) (fun a U => xPc N0 D dT ad as hp a U ∧ xNc U) (xQc N0 D dT ad nw post) (xXc N0 D dT ad nw xNX) mc ms (fun q => N0 ≤ q)
theorem xPcN_blind {N0 : Nat} {D : va_G} {dT : Nat → ClassId} {ad : Nat → Nat} {as : List Value} {hp : xH} : FrameBlind (fun a U => xPc N0 D dT ad as hp a U ∧ xNc U) := fun a U g mk h => ⟨xPc_blind a U g mk h.1, xNc.moved (u := U) (U := U.calling g mk a) (Vm.Alike.refl U.vm) h.2⟩
theorem xMetN_of {l : Launch} {N0 : Nat} {D : va_G} {dT : Nat → ClassId} {y : MethodName} {b : ByteArray} {nL : Nat} {ret : Option FieldType} {hh : List (Nat × Nat × Nat × Nat)} {d mc ms : Nat} {as : List Value} {hp : xH} {nw : Nat → Prop} {post : Option Value → xH → Prop} (hflags : l.stackTraces = false) (hy : plainName y.cls = true) (hnw : ∀ j, 900 ≤ j → ¬ nw j) (hlen : (lg_sl as).length ≤ nL)
    (body : ∀ E : xEnv, aC E l N0 D dT b y.cls nL ret (tableOf hh) (xRm d mc ms) nw → xNcE E → (∀ r hp', post r hp' → aR E r hp') → aW E 0 0 hp 0 (lv_args 0 as) []) : xMetN l N0 D dT y b nL ret hh d mc ms as hp nw post := by
  intro ad
  refine vx_ofWH (cc := b) (maxL := nL) (ret := ret) (hh := hh) hy rfl ?_
  intro p e s m args below meth c s₁ B hml hv
  obtain ⟨⟨rfl, hR, hK, hZ⟩, hN⟩ := hv
  have hts0 := atoms_spec (ws := xwsH y b nL ret hh) B.pre
  have hts : ∀ w ∈ xTB, w.before _ s = true := fun w hw => hts0 w (List.mem_cons_of_mem _ hw)
  have hown : s.vm.findClass y.cls = some m.cls := findClass_of_methodNamed B.named
  have htab' : c.exceptionTable.toList = tableOf hh := vx_table (x := y) B (hts0 _ List.mem_cons_self)
  have w := body (p, l, e, xRm d mc ms, s, m, (as.map (x_cv ad)).toArray, below, meth, c, D, dT, N0, nL, nw, ad, vx_MQ below (xQc N0 D dT ad nw post) (xXc N0 D dT ad nw xNX) (as.map (x_cv ad)).toArray s mc ms (fun q => N0 ≤ q))
    ⟨⟨B.exec, B.bytes, hml, hown, hts⟩, B.returns, B.notSynchronized, htab', hK, hZ, hnw, hflags, rfl, rfl, rfl, rfl, rfl, rfl, rfl⟩ hN
    (fun r hp' hp1 ad' t L hA hR1 hF h1 h2 h3 h4 => ⟨_, h1, h2, Or.inl ⟨⟨r, hp', ad', rfl, hp1, hA, hR1, hF⟩, L, h3, h4⟩⟩)
  have hlen' : (lg_sl (as.map (x_cv ad))).length ≤ nL := by rw [x_lgl]; exact hlen
  have hl := lv_entry (as.map (x_cv ad)) (n := nL) hlen'
  have w2 := w ad s.heap [] _ (fun _ _ => rfl) hR va_S.rf (by rw [x_args]; exact hl)
  rw [lg_entry_eq]
  exact w2
section XHAND
variable {E : xEnv} {l9 : Launch} {N9 : Nat} {D9 : va_G} {T9 : Nat → ClassId} {cc : ByteArray} {own : String} {nL9 : Nat} {ret : Option FieldType} {tab : List ExceptionTableEntry} {R9 : Room} {nw9 : Nat → Prop} {k n : Nat} {hp : xH} {pc : Nat} {L : List (Nat × Value)} {S S' : List Value}
/-- caught: the handler stores it, and the method answers v -/
theorem a_catchRet (C : aC E l9 N9 D9 T9 cc own nL9 (some .int) tab R9 nw9) (hN : xNcE E) {x : String} {pre suf : List ExceptionTableEntry} {z : ExceptionTableEntry} (hsplit : tab = pre ++ z :: suf) (hpass : ∀ w ∈ pre, covers w pc = false ∨ (w.catchType ≠ 0 ∧ ∃ nm : String, Cond.classLink own w.catchType nm ∈ xTB ∧ (x, nm) ∈ xNcP)) (hz : covers z pc = true) (h0 : z.catchType ≠ 0) (hlink : Cond.classLink own z.catchType x ∈ xTB) (hcast : Cond.castable x x ∈ xTN) {h i w : Nat} {u : Int} {v : Int32} (hh : z.handlerPc = h) (hd1 : (decode cc h = .ok (.astore i, 2) ∧ w = 2) ∨ ((∃ q : Fin 4, (q : Nat) = i ∧ decode cc h = .ok (.astore_n q, 1)) ∧ w = 1)) (hi : i < nL9) (hd2 : decode cc (h + w) = .ok (.iconst u, 1)) (hv : Int32.ofInt u = v) (hd3 : decode cc (h + w + 1) = .ok (.ireturn, 1)) (hk : k ≤ R9.cells) (hn : n ≤ R9.slots) (hA : aR E (some (.int v)) hp) : aX E k n hp pc L x := by
  have t : aW E k n hp (h + w) [] [] := a_iconst C hd2 hv (a_iret C hd3 hk hn hA)
  obtain ⟨p, l, e, R, s, m, args, below, meth, c, D, dT, N0, nL, nw, ad0, Q⟩ := E
  obtain ⟨⟨hx, hb, hml, hown, hts⟩, hr, hlk, htab, hK, hZ, hnw, hst, rfl, rfl, rfl, rfl, rfl, rfl, rfl⟩ := C
  intro ad H locs ls S q ce ha hR hS hl hcell hcv hcl
  refine vx_catch hown pre z suf (htab.trans hsplit) (fun w hw => ?_) hz h0 (hts _ hlink) (va_Nw.use (A := args) rfl (hZ.2.2.2.2.1.2 _ hcast)) hcell hcv hcl ?_
  · rcases hpass w hw with g | ⟨g1, nm, g2, g3⟩
    · exact Or.inl g
    · exact Or.inr ⟨g1, nm, hts _ g2, hN _ g3⟩
  · rw [hh]
    rcases hd1 with ⟨hd1, rfl⟩ | ⟨⟨f4, hf4, hd1⟩, rfl⟩
    · exact lv_astore hx hb hd1 hl hi rfl (fun ls' h' => t ad H locs ls' ha hR hS ⟨h'.1, h'.2.1, fun _ z => by cases z⟩)
    · exact lv_astore_n hx hb hd1 hf4 hl hi rfl (fun ls' h' => t ad H locs ls' ha hR hS ⟨h'.1, h'.2.1, fun _ z => by cases z⟩)
/-- a call of a static method that has handlers -/
theorem a_callSN (C : aC E l9 N9 D9 T9 cc own nL9 ret tab R9 nw9) (hN : xNcE E) {index : Nat} {y : MethodName} {b : ByteArray} {m9 : Nat} {ret' : Option FieldType} {hh : List (Nat × Nat × Nat × Nat)} {d' mc ms na : Nat} {As : List Value} {nw' : Nat → Prop} {post : Option Value → xH → Prop} (hd : decode cc pc = .ok (.invokestatic index, 3)) (hcv : Cond.static y ∈ xTB ∧ Cond.initialized y.cls ∈ xTB ∧ Cond.codeWith y b m9 ret' hh ∈ xTB ∧ (y.cls ≠ "java/lang/invoke/MethodHandle" ∧ y.cls ≠ "java/lang/invoke/VarHandle" ∧ (parseMethodDescriptor y.desc).map (fun d => d.parameters.length) = some na)) (hlink : Cond.methodLink own index y ∈ xTB) (hM : xMetN l9 N9 D9 T9 y b m9 ret' hh d' mc ms As hp nw' post) (hst : S = As.reverse ++ S') (hna : As.length = na) (hcat : (S'.map fun v => v.category).sum ≤ 8) (hRm : d' + 1 ≤ R9.frames ∧ 8 + (m9 + 11) + 40 * d' ≤ R9.locals) (hbud : k + mc ≤ R9.cells ∧ n + ms ≤ R9.slots) (hsub : ∀ j, nw' j → nw9 j) (hav : xav nw' L S')
    (kk : ∀ r hp', post r hp' → aW E (k + mc) (n + ms) hp' (pc + 3) L (r.toList ++ S')) : aW E k n hp pc L S := by
  obtain ⟨p, l, e, R, s, m, args, below, meth, c, D, dT, N0, nL, nw, ad0, Q⟩ := E
  obtain ⟨⟨hx, hb, hml, hown, hts⟩, hr, hlk, htab, hK, hZ, hnw, hst9, rfl, rfl, rfl, rfl, rfl, rfl, rfl⟩ := C
  intro ad H locs ls ha hR hS hl
  obtain ⟨c1, c2, c4, c5⟩ := hcv
  have hG : GoodIn xTB (va_wsS own index y (xwsH y b m9 ret' hh)) := xtb_in fun w hw => by
    rcases List.mem_append.mp hw with hw | hw
    · simp only [List.mem_cons, List.not_mem_nil, or_false] at hw
      rcases hw with rfl | rfl | rfl <;> assumption
    · rcases List.mem_cons.mp hw with rfl | hw
      · exact c4
      · exact hw
  have cw := vx_cwSW (R := R) (s := s) (args := args) (rm := xRm d' mc ms) na hts hG rfl rfl rfl c5 hRm
  have hPre := fun U hU hW => And.intro (xPre (as := As) hnw ha hR hS hK hZ U hU hW) (xNc.moved (State.WarmedH.alike hW) hN)
  refine xrun (vx_runSX (As := As.map (x_cv ad)) (rest := S'.map (x_cv ad)) ⟨hx, hb, hml, hown, hts⟩ (hM ad) cw ⟨xPcN_blind, hPre⟩ rfl (by rw [List.length_map]; exact hna) hl.1 ?_ (lv_room (by rw [x_cats]; exact hcat)) hd hbud) ha hsub hav hS hl (fun _ _ z => z.elim) kk
  subst hst
  show (As.reverse ++ S').map (x_cv ad) = _
  rw [List.map_append, List.map_reverse]
end XHAND
