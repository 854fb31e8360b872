section XCAST
variable {E : xEnv} {l9 : Launch} {N9 : Nat} {D9 : va_G} {T9 : Nat → ClassId} {cc : ByteArray} {own : String} {nL9 : Nat} {ret : Option FieldType} {tab : List ExceptionTableEntry} {R9 : Room} {nw9 : Nat → Prop} {k n : Nat} {hp : xH} {pc : Nat} {L : List (Nat × Value)} {S S' : List Value}
theorem a_castS (C : aC E l9 N9 D9 T9 cc own nL9 ret tab R9 nw9) {a ci : Nat} {fs : List Value} {nm : String} {index : Nat} {q : vw_C} (hd : decode cc pc = .ok (.checkcast index, 3)) (hlink : Cond.classLink own index nm ∈ xTB) (hh : hp a = some (.inr (ci, fs))) (hc : vwCl[ci]? = some q) (hn : q.1 = nm) (kk : aW E k n hp (pc + 3) L (.ref a :: S)) : aW E k n hp pc L (.ref a :: S) := by
  obtain ⟨p, l, e, R, s, m, args, below, meth, c, D, dT, N0, nL, nw, ad0, Q⟩ := E
  obtain ⟨⟨hx, hb, hml, hown, hts⟩, hr, hlk, htab, hK, hZ, hnw, hst, rfl, rfl, rfl, rfl, rfl, rfl, rfl⟩ := C
  intro ad H locs ls ha hR hS hl
  subst hn
  exact va_castS hx hb hown (hts _ hlink) (hK.1 ci q hc).2 (va_recv hK (hR.one hh) hc (q0 := 0) rfl) hd (kk ad H locs ls ha hR hS hl)
end XCAST
