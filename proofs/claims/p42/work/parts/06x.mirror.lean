section XMIR
variable {E : xEnv} {l9 : Launch} {N9 : Nat} {D9 : va_G} {T9 : Nat → ClassId} {cc : ByteArray} {own : String} {nL9 : Nat} {ret : Option FieldType} {tab : List ExceptionTableEntry} {R9 : Room} {nw9 : Nat → Prop} {k n : Nat} {hp : xH} {pc : Nat} {L : List (Nat × Value)} {S S' : List Value}
/-- the mirror of Object's rows (907), from the pool -/
theorem a_ldcM (C : aC E l9 N9 D9 T9 cc own nL9 ret tab R9 nw9) {index : Nat} (hd : decode cc pc = .ok (.ldc index, 2)) (hlink : Cond.classLink own index "[Ljava/lang/Object;" ∈ xTB) (kk : aW E k n hp (pc + 2) L (.ref 907 :: S)) : aW E k n hp pc L S := by
  obtain ⟨p, l, e, R, s, m, args, below, meth, c, D, dT, N0, nL, nw, ad0, Q⟩ := E
  obtain ⟨⟨hx, hb, hml, hown, hts⟩, hr, hlk, htab, hK, hZ, hnw, hst, rfl, rfl, rfl, rfl, rfl, rfl, rfl⟩ := C
  intro ad H locs ls ha hR hS hl
  have e9 := ha 907 (hnw 907 (by decide))
  refine va_ldcM hx hb hown (hts _ hlink) hZ.2.2.2.2.2.1 hd ?_
  have w := kk ad H locs ls ha hR hS hl
  rw [List.map_cons, show x_cv ad (.ref 907) = .ref (ad0 907) from congrArg Value.ref e9] at w
  exact w
/-- getClass of a row of references -/
theorem a_getC (C : aC E l9 N9 D9 T9 cc own nL9 ret tab R9 nw9) {index a N : Nat} {F : Nat → Option Nat} (hd : decode cc pc = .ok (.invokevirtual index, 3)) (hlink : Cond.methodLink own index ⟨"java/lang/Object", "getClass", "()Ljava/lang/Class;"⟩ ∈ xTB) (hdecl : Cond.declares ⟨"java/lang/Object", "getClass", "()Ljava/lang/Class;"⟩ ∈ xTN) (hsel : Cond.selects "[Ljava/lang/Object;" ⟨"java/lang/Object", "getClass", "()Ljava/lang/Class;"⟩ ⟨"java/lang/Object", "getClass", "()Ljava/lang/Class;"⟩ ∈ xTB) (hinst : Cond.instanceMethod ⟨"java/lang/Object", "getClass", "()Ljava/lang/Class;"⟩ ∈ xTB) (hnat : Cond.native ⟨"java/lang/Object", "getClass", "()Ljava/lang/Class;"⟩ ∈ xTB) (hh : hp a = some (.inl (3, N, .inr (.inr (.inr (.inr F)))))) (hf : 1 ≤ R9.frames) (hlo : (S.map fun v => v.category).sum + 14 ≤ R9.locals) (kk : aW E k n hp (pc + 3) L (.ref 907 :: S)) : aW E k n hp pc L (.ref a :: S) := by
  obtain ⟨p, l, e, R, s, m, args, below, meth, c, D, dT, N0, nL, nw, ad0, Q⟩ := E
  obtain ⟨⟨hx, hb, hml, hown, hts⟩, hr, hlk, htab, hK, hZ, hnw, hst, rfl, rfl, rfl, rfl, rfl, rfl, rfl⟩ := C
  intro ad H locs ls ha hR hS hl
  have e9 := ha 907 (hnw 907 (by decide))
  obtain ⟨kA0, comp, g1, g2, g3, g4⟩ := (hK.2 3 _ rfl).2
  have hc0 : H[ad a]? = some (vp_cell (dT 3) (N, .inr (.inr (.inr (.inr (fun j => (F j).map ad)))))) := (hR.1 a _ hh).1
  refine va_getC (C := "[Ljava/lang/Object;") hx hb (hml.trans hl.1.symm) hown (hts _ hlink) (va_Nw.use (A := args) rfl (hZ.2.2.2.2.1.2 _ hdecl)) (hts _ hsel) (hts _ hinst) (hts _ hnat) hZ.2.2.2.2.2.1 ⟨_, hc0, rfl, va_nmO (hK.2 3 _ rfl).2 (by decide)⟩ hf (by rw [x_cats]; exact hlo) hd ?_
  have w := kk ad H locs ls ha hR hS hl
  rw [List.map_cons, show x_cv ad (.ref 907) = .ref (ad0 907) from congrArg Value.ref e9] at w
  exact w
end XMIR
