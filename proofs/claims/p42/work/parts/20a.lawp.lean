/-! the law's own methods: as contracts, with the exceptions' classes known apart -/
def xMetP (l : Launch) (N0 : Nat) (D : va_G) (dT : Nat → ClassId) (y : MethodName) (b : ByteArray) (n : Nat) (ret : Option FieldType) (d mc ms : Nat) (as : List Value) (hp : xH) (nw : Nat → Prop) (post : Option Value → xH → Prop) : Prop :=
  ∀ ad : Nat → Nat, vx_Met l y (xws y b n ret) (xRm d mc ms) (fun a U => xPc N0 D dT ad as hp a U ∧ xNc U) (xQc N0 D dT ad nw post) (xXc N0 D dT ad nw xNX) mc ms (fun q => N0 ≤ q)
theorem xMetP_of {l : Launch} {N0 : Nat} {D : va_G} {dT : Nat → ClassId} {y : MethodName} {b : ByteArray} {nL : Nat} {ret : Option FieldType} {d mc ms : Nat} {as : List Value} {hp : xH} {nw : Nat → Prop} {post : Option Value → xH → Prop} (hflags : l.stackTraces = false) (hy : plainName y.cls = true) (hnw : ∀ j, 900 ≤ j → ¬ nw j) (hlen : (lg_sl as).length ≤ nL)
    (body : ∀ E : xEnv, aC E l N0 D dT b y.cls nL ret [] (xRm d mc ms) nw → xNcE E → (∀ r hp', post r hp' → aR E r hp') → aW E 0 0 hp 0 (lv_args 0 as) []) : xMetP l N0 D dT y b nL ret d mc ms as hp nw post := by
  intro ad
  refine vx_ofW (cc := b) (maxL := nL) (ret := ret) hy rfl ?_
  intro p e s m args below meth c s₁ B hml htab hv
  obtain ⟨⟨rfl, hR, hK, hZ⟩, hN⟩ := hv
  have hts0 := atoms_spec (ws := xws y b nL ret) B.pre
  have hts : ∀ w ∈ xTB, w.before _ s = true := fun w hw => hts0 w (List.mem_cons_of_mem _ hw)
  have hown : s.vm.findClass y.cls = some m.cls := findClass_of_methodNamed B.named
  have htab' : c.exceptionTable.toList = [] := List.eq_nil_iff_forall_not_mem.mpr (fun x hx => htab x hx)
  have w := body (p, l, e, xRm d mc ms, s, m, (as.map (x_cv ad)).toArray, below, meth, c, D, dT, N0, nL, nw, ad, vx_MQ below (xQc N0 D dT ad nw post) (xXc N0 D dT ad nw xNX) (as.map (x_cv ad)).toArray s mc ms (fun q => N0 ≤ q))
    ⟨⟨B.exec, B.bytes, hml, hown, hts⟩, B.returns, B.notSynchronized, htab', hK, hZ, hnw, hflags, rfl, rfl, rfl, rfl, rfl, rfl, rfl⟩ hN
    (fun r hp' hp1 ad' t L hA hR1 hF h1 h2 h3 h4 => ⟨_, h1, h2, Or.inl ⟨⟨r, hp', ad', rfl, hp1, hA, hR1, hF⟩, L, h3, h4⟩⟩)
  have hlen' : (lg_sl (as.map (x_cv ad))).length ≤ nL := by rw [x_lgl]; exact hlen
  have hl := lv_entry (as.map (x_cv ad)) (n := nL) hlen'
  have w2 := w ad s.heap [] _ (fun _ _ => rfl) hR va_S.rf (by rw [x_args]; exact hl)
  rw [lg_entry_eq]
  exact w2
section XLAWP
variable {E : xEnv} {l9 : Launch} {N9 : Nat} {D9 : va_G} {T9 : Nat → ClassId} {cc : ByteArray} {own : String} {nL9 : Nat} {ret : Option FieldType} {tab : List ExceptionTableEntry} {R9 : Room} {nw9 : Nat → Prop} {k n : Nat} {hp : xH} {pc : Nat} {L : List (Nat × Value)} {S S' : List Value}
/-- a call of a method of the law that has no handlers -/
theorem a_callSP (C : aC E l9 N9 D9 T9 cc own nL9 ret tab R9 nw9) (hN : xNcE E) {index : Nat} {y : MethodName} {b : ByteArray} {m9 : Nat} {ret' : Option FieldType} {d' mc ms na : Nat} {As : List Value} {nw' : Nat → Prop} {post : Option Value → xH → Prop} (hd : decode cc pc = .ok (.invokestatic index, 3)) (hcv : xCS y b m9 ret' na) (hlink : Cond.methodLink own index y ∈ xTB) (hM : xMetP l9 N9 D9 T9 y b m9 ret' d' mc ms As hp nw' post) (hst : S = As.reverse ++ S') (hna : As.length = na) (hcat : (S'.map fun v => v.category).sum ≤ 8) (hRm : d' + 1 ≤ R9.frames ∧ 8 + (m9 + 11) + 40 * d' ≤ R9.locals) (hbud : k + mc ≤ R9.cells ∧ n + ms ≤ R9.slots) (hsub : ∀ j, nw' j → nw9 j) (hav : xav nw' L S')
    (kk : ∀ r hp', post r hp' → aW E (k + mc) (n + ms) hp' (pc + 3) L (r.toList ++ S')) : aW E k n hp pc L S := by
  obtain ⟨p, l, e, R, s, m, args, below, meth, c, D, dT, N0, nL, nw, ad0, Q⟩ := E
  obtain ⟨⟨hx, hb, hml, hown, hts⟩, hr, hlk, htab, hK, hZ, hnw, hst9, rfl, rfl, rfl, rfl, rfl, rfl, rfl⟩ := C
  intro ad H locs ls ha hR hS hl
  obtain ⟨c1, c2, c4, c5⟩ := hcv
  have cw : CallB R s args own index y b m9 ret' (xws y b m9 ret') (xRm d' mc ms) mc ms na ∧ (Cond.static y).before args s = true := ⟨callB_of na hts (xws_in c4) rfl rfl rfl (hts _ c2) (hts _ hlink) c5 hRm, hts _ c1⟩
  have hPre := fun U hU hW => And.intro (xPre (as := As) hnw ha hR hS hK hZ U hU hW) (xNc.moved (State.WarmedH.alike hW) hN)
  refine xrun (vx_runS (As := As.map (x_cv ad)) (rest := S'.map (x_cv ad)) ⟨hx, hb, hml, hown, hts⟩ (hM ad) cw ⟨xPcN_blind, hPre⟩ rfl (by rw [List.length_map]; exact hna) hl.1 ?_ (lv_room (by rw [x_cats]; exact hcat)) hd hbud) ha hsub hav hS hl (fun _ _ z => z.elim) kk
  subst hst
  show (As.reverse ++ S').map (x_cv ad) = _
  rw [List.map_append, List.map_reverse]
/-- caught: the handler stores it, and the method answers v -/
theorem a_catchRetL (C : aC E l9 N9 D9 T9 cc own nL9 (some .long) tab R9 nw9) (hN : xNcE E) {x : String} {pre suf : List ExceptionTableEntry} {z : ExceptionTableEntry} (hsplit : tab = pre ++ z :: suf) (hpass : ∀ w ∈ pre, covers w pc = false ∨ (w.catchType ≠ 0 ∧ ∃ nm : String, Cond.classLink own w.catchType nm ∈ xTB ∧ (x, nm) ∈ xNcP)) (hz : covers z pc = true) (h0 : z.catchType ≠ 0) (hlink : Cond.classLink own z.catchType x ∈ xTB) (hcast : Cond.castable x x ∈ xTN) {h i w index : Nat} {v : Int64} (hh : z.handlerPc = h) (hd1 : (decode cc h = .ok (.astore i, 2) ∧ w = 2) ∨ ((∃ q : Fin 4, (q : Nat) = i ∧ decode cc h = .ok (.astore_n q, 1)) ∧ w = 1)) (hi : i < nL9) (hd2 : decode cc (h + w) = .ok (.ldc2_w index, 3)) (hv : Cond.constantLong own index v ∈ xTB) (hd3 : decode cc (h + w + 3) = .ok (.lreturn, 1)) (hk : k ≤ R9.cells) (hn : n ≤ R9.slots) (hA : aR E (some (.long v)) hp) : aX E k n hp pc L x := by
  have t : aW E k n hp (h + w) [] [] := a_ldc2 C hd2 hv (a_lret C hd3 hk hn hA)
  obtain ⟨p, l, e, R, s, m, args, below, meth, c, D, dT, N0, nL, nw, ad0, Q⟩ := E
  obtain ⟨⟨hx, hb, hml, hown, hts⟩, hr, hlk, htab, hK, hZ, hnw, hst, rfl, rfl, rfl, rfl, rfl, rfl, rfl⟩ := C
  intro ad H locs ls S q ce ha hR hS hl hcell hcv hcl
  refine vx_catch hown pre z suf (htab.trans hsplit) (fun w hw => ?_) hz h0 (hts _ hlink) (va_Nw.use (A := args) rfl (hZ.2.2.2.2.1.2 _ hcast)) hcell hcv hcl ?_
  · rcases hpass w hw with g | ⟨g1, nm, g2, g3⟩
    · exact Or.inl g
    · exact Or.inr ⟨g1, nm, hts _ g2, hN _ g3⟩
  · rw [hh]
    rcases hd1 with ⟨hd1, rfl⟩ | ⟨⟨f4, hf4, hd1⟩, rfl⟩
    · exact lv_astore hx hb hd1 hl hi rfl (fun ls' h' => t ad H locs ls' ha hR hS ⟨h'.1, h'.2.1, fun _ z => by cases z⟩)
    · exact lv_astore_n hx hb hd1 hf4 hl hi rfl (fun ls' h' => t ad H locs ls' ha hR hS ⟨h'.1, h'.2.1, fun _ z => by cases z⟩)
theorem a_irem (C : aC E l9 N9 D9 T9 cc own nL9 ret tab R9 nw9) {x y : Int32} (hd : decode cc pc = .ok (.irem, 1)) (hne : ¬ y = 0) (kk : aW E k n hp (pc + 1) L (.int (x - x / y * y) :: S)) : aW E k n hp pc L (.int y :: .int x :: S) := by
  obtain ⟨p, l, e, R, s, m, args, below, meth, c, D, dT, N0, nL, nw, ad0, Q⟩ := E
  obtain ⟨⟨hx, hb, hml, hown, hts⟩, hr, hlk, htab, hK, hZ, hnw, hst, rfl, rfl, rfl, rfl, rfl, rfl, rfl⟩ := C
  intro ad H locs ls ha hR hS hl
  exact lv_irem hx hb hd hne (kk ad H locs ls ha hR hS hl)
end XLAWP
/-! what a wrapper answers -/
abbrev eP : Int64 := -9000000000000000001
abbrev eV : Int64 := -9000000000000000002
abbrev eN : Int64 := -9000000000000000003
/-- o: the answer and the state, or the refusal's number (then E says the answer) -/
def pP (h : xH) (n : Nat → Int32) (f : Nat → Nat → Int32) (g : Nat → Nat → Int64) (nc ni np nl nc' ni' np' nl' : Nat) (o : Int32 × mS) (E : Int32 → Int64) : Option Value → xH → Prop := fun r h' => ∃ jc jr, (o.2.1 0 = 0 → r = some (.long o.1.toInt64) ∧ h' = xC h nc' ni' np' nl' (o.2.1 1) o.2.2.1 o.2.2.2 jc jr) ∧ (¬ o.2.1 0 = 0 → r = some (.long (E (o.2.1 0))) ∧ h' = xC h nc ni np nl (n 1) f g jc jr)
section PPX
variable {h : xH} {n : Nat → Int32} {f : Nat → Nat → Int32} {g : Nat → Nat → Int64} {nc ni np nl nc' ni' np' nl' : Nat} {o : Int32 × mS} {E : Int32 → Int64} {r : Option Value} {h' : xH}
theorem pP_ok (H : pP h n f g nc ni np nl nc' ni' np' nl' o E r h') (h0 : o.2.1 0 = 0) : r = some (.long o.1.toInt64) ∧ ∃ jc jr, h' = xC h nc' ni' np' nl' (o.2.1 1) o.2.2.1 o.2.2.2 jc jr := by
  obtain ⟨jc, jr, h1, -⟩ := H
  exact ⟨(h1 h0).1, jc, jr, (h1 h0).2⟩
theorem pP_no (H : pP h n f g nc ni np nl nc' ni' np' nl' o E r h') {k : Int32} (h0 : o.2.1 0 = k) (hk : ¬ k = 0) {v : Int64} (hv : E k = v) : r = some (.long v) ∧ ∃ jc jr, h' = xC h nc ni np nl (n 1) f g jc jr := by
  obtain ⟨jc, jr, -, h1⟩ := H
  subst h0
  have := h1 hk
  exact ⟨this.1.trans (by rw [hv]), jc, jr, this.2⟩
theorem pP_rd {p : Prop} [Decidable p] {v v' : Int32} (H : pP h n f g nc ni np nl nc' ni' np' nl' (oRd p v n f g) E r h') (hp : p) (e : v = v') : r = some (.long v'.toInt64) ∧ ∃ jc jr, h' = xC h nc' ni' np' nl' (n 1) f g jc jr := by
  unfold oRd at H
  rw [if_pos hp] at H
  have := pP_ok H rfl
  rw [← e]
  exact this
theorem pP_rn {p : Prop} [Decidable p] {v : Int32} (H : pP h n f g nc ni np nl nc' ni' np' nl' (oRd p v n f g) E r h') (hp : ¬ p) {w : Int64} (hw : E 1 = w) : r = some (.long w) ∧ ∃ jc jr, h' = xC h nc ni np nl (n 1) f g jc jr := by
  unfold oRd oNo at H
  rw [if_neg hp] at H
  exact pP_no H (k := 1) rfl (by decide) hw
end PPX
