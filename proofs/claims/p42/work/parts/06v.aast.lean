section XAAST
variable {E : xEnv} {l9 : Launch} {N9 : Nat} {D9 : va_G} {T9 : Nat → ClassId} {cc : ByteArray} {own : String} {nL9 : Nat} {ret : Option FieldType} {tab : List ExceptionTableEntry} {R9 : Room} {nw9 : Nat → Prop} {k n : Nat} {hp : xH} {pc : Nat} {L : List (Nat × Value)} {S S' : List Value}
theorem a_aast (C : aC E l9 N9 D9 T9 cc own nL9 ret tab R9 nw9) {a v N ci : Nat} {F : Nat → Option Nat} {fs : List Value} {q : vw_C} {i : Int32} (hd : decode cc pc = .ok (.aastore, 1)) (hh : hp a = some (.inl (3, N, .inr (.inr (.inr (.inr F)))))) (hv : hp v = some (.inr (ci, fs))) (hc : vwCl[ci]? = some q) (hca : Cond.castable q.1 "java/lang/Object" ∈ xTN) (hi : vp_in i N) (kk : aW E k n (xup hp a (.inl (3, N, .inr (.inr (.inr (.inr (va_up F i.toNatClampNeg (some v)))))))) (pc + 1) L S) : aW E k n hp pc L (.ref v :: .int i :: .ref a :: S) := by
  obtain ⟨p, l, e, R, s, m, args, below, meth, c, D, dT, N0, nL, nw, ad0, Q⟩ := E
  obtain ⟨⟨hx, hb, hml, hown, hts⟩, hr, hlk, htab, hK, hZ, hnw, hst, rfl, rfl, rfl, rfl, rfl, rfl, rfl⟩ := C
  intro ad H locs ls ha hR hS hl
  have hlt : i.toNatClampNeg < N := Nat.not_le.mp fun z => hi (Or.inr z)
  have h0 : ¬ i < 0 := fun z => hi (Or.inl z)
  obtain ⟨r', hr', cellV, g1, g2, g3, -⟩ := (hR.1 v _ hv).1
  have hcls := (hK.1 ci q hc).2
  obtain ⟨kA, comp, k1, k2, k3, -⟩ := (hK.2 3 _ rfl).2
  obtain ⟨kE, hkE, -⟩ := Vm.findClass_spec k3
  obtain ⟨c0, t1, f1, f2, f3⟩ := Cond.castable_spec (va_Nw.use (A := args) rfl (hZ.2.2.2.2.1.2 _ hca))
  cases hcls.1.symm.trans f1
  cases k3.symm.trans f2
  obtain ⟨kC, hkC, -⟩ := hcls.2
  refine W.aast hx hb (hR.1 a _ hh).1 (fun q h => by cases h) (fun h => by cases h) k1 k2 rfl hkE ⟨h0, by show _ < (arrV _ _ _).slots.size; rw [arrV_size]; exact hlt⟩ g1 (fun q h => by rw [g3] at h; cases h) (by rw [g2]; exact hkC) (by rw [g2]; exact f3) rfl rfl hd fun H1 e z oq => ?_
  refine kk ad H1 _ ls ha (hR.up hh ?_ oq) (hS.put z oq (hR.1 a _ hh).2) hl
  show H1[ad a]? = some (vp_cell (dT 3) (N, .inr (.inr (.inr (.inr (fun j => (va_up F i.toNatClampNeg (some v) j).map ad))))))
  rw [e]
  show some ((vp_cell (dT 3) (N, .inr (.inr (.inr (.inr (fun j => (F j).map ad)))))).setSlot _ _) = _
  rw [vp_cell_q, vp_cell_q, arrV_store]
  congr 2
  funext j
  by_cases hj : j = i.toNatClampNeg
  · subst hj
    simp [updV, va_up, va_rf]
  · simp [updV, va_up, hj]
end XAAST
