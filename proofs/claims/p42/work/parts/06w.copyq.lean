theorem va_cpm {F G : Nat → Option Nat} {ad : Nat → Nat} {w : Nat} : (fun j => (va_cpy F G 0 0 w j).map ad) = va_cpy (fun j => (F j).map ad) (fun j => (G j).map ad) 0 0 w := by
  funext j
  unfold va_cpy
  split <;> rfl
section XCOPYQ
variable {E : xEnv} {l9 : Launch} {N9 : Nat} {D9 : va_G} {T9 : Nat → ClassId} {cc : ByteArray} {own : String} {nL9 : Nat} {ret : Option FieldType} {tab : List ExceptionTableEntry} {R9 : Room} {nw9 : Nat → Prop} {k n : Nat} {hp : xH} {pc : Nat} {L : List (Nat × Value)} {S S' : List Value}
/-- System.arraycopy from the start of a row of references to the start of another -/
theorem a_copyQ (C : aC E l9 N9 D9 T9 cc own nL9 ret tab R9 nw9) {index a b N M w : Nat} {F G : Nat → Option Nat} (hd : decode cc pc = .ok (.invokestatic index, 3)) (hlink : Cond.methodLink own index arraycopyName ∈ xTB) (hnat : Cond.native arraycopyName ∈ xTB) (hstat : Cond.static arraycopyName ∈ xTB) (hini : Cond.initialized "java/lang/System" ∈ xTB) (h1 : hp a = some (.inl (3, N, .inr (.inr (.inr (.inr F)))))) (h2 : hp b = some (.inl (3, M, .inr (.inr (.inr (.inr G)))))) (hw1 : w ≤ N) (hw2 : w ≤ M) (hwb : w < 2 ^ 31) (hel : ∀ i, i < w → ∀ y, F i = some y → ∃ (ci : Nat) (fs : List Value) (q : vw_C), hp y = some (.inr (ci, fs)) ∧ vwCl[ci]? = some q ∧ Cond.castable q.1 "java/lang/Object" ∈ xTN) (hf : 1 ≤ R9.frames) (hlo : (S.map fun v => v.category).sum + (nativeFrameWords "java/lang/System" "arraycopy" 5 + 11) ≤ R9.locals) (kk : aW E k n (xup hp b (.inl (3, M, .inr (.inr (.inr (.inr (va_cpy F G 0 0 w))))))) (pc + 3) L S) : aW E k n hp pc L (.int (nI w) :: .int 0 :: .ref b :: .int 0 :: .ref a :: S) := by
  obtain ⟨p, l, e, R, s, m, args, below, meth, c, D, dT, N0, nL, nw, ad0, Q⟩ := E
  obtain ⟨⟨hx, hb, hml, hown, hts⟩, hr, hlk, htab, hK, hZ, hnw, hst, rfl, rfl, rfl, rfl, rfl, rfl, rfl⟩ := C
  intro ad H locs ls ha hR hS hl T hT X
  have hA := (hR.1 b _ h2).2
  have hc0 : H[ad a]? = some (vp_cell (dT 3) (N, .inr (.inr (.inr (.inr (fun j => (F j).map ad)))))) := (hR.1 a _ h1).1
  have hc1 : H[ad b]? = some (vp_cell (dT 3) (M, .inr (.inr (.inr (.inr (fun j => (G j).map ad)))))) := (hR.1 b _ h2).1
  obtain ⟨-, k0, hk0, cm0, hkk0⟩ := (hK.2 3 _ rfl).1 N (fun j => va_rf ((F j).map ad))
  have hwn : (nI w).toInt = (w : Int) := x_nn hwb
  have hwc : (nI w).toNatClampNeg = w := nI_clamp hwb
  have hz : (0 : Int32).toInt = 0 := rfl
  have hzc : (0 : Int32).toNatClampNeg = 0 := rfl
  obtain ⟨vm', X', step⟩ := X.arraycopy hx hown (hts _ hlink) (hts _ hnat) (hts _ hstat) (hts _ hini) (src := ad a) (dst := ad b) (cs := vp_cell (dT 3) (N, .inr (.inr (.inr (.inr (fun j => (F j).map ad)))))) (cd := vp_cell (dT 3) (M, .inr (.inr (.inr (.inr (fun j => (G j).map ad)))))) (srcPos := 0) (destPos := 0) (n := nI w) (by rw [hT]; exact hc0) (by rw [hT]; exact hc1)
    (fun _ h => by cases h) (fun _ h => by cases h) (fun h => by cases h) (fun h => by cases h) hk0 hk0 hkk0 hkk0 rfl (by decide) (by decide)
    (fun h => by
      have := Int32.lt_iff_toInt_lt.mp h
      rw [hwn, hz] at this
      omega)
    (by rw [hwn, hz]; show ¬ _ > ((arrV (dT 3) N (fun j => va_rf ((F j).map ad))).slots.size : Int); rw [arrV_size]; omega)
    (by rw [hwn, hz]; show ¬ _ > ((arrV (dT 3) M (fun j => va_rf ((G j).map ad))).slots.size : Int); rw [arrV_size]; omega)
    (fun vm₁ hal i hi => by
      rw [hwc] at hi
      have e0 : (vp_cell (dT 3) (N, .inr (.inr (.inr (.inr (fun j => (F j).map ad)))))).slots.getD ((0 : Int32).toNatClampNeg + i) .null = va_rf ((F i).map ad) := by
        show (arrV (dT 3) N (fun j => va_rf ((F j).map ad))).slots.getD _ _ = _
        rw [hzc, Nat.zero_add, Array.getD_eq_getD_getElem?, arrV_read _ _ (by omega)]
        rfl
      rw [e0]
      cases hy : F i with
      | none => exact ⟨rfl, trivial⟩
      | some y =>
        obtain ⟨ci, fs, q, y1, y2, y3⟩ := hel i hi y hy
        obtain ⟨r', hr', cellV, g1, g2, g3, -⟩ := (hR.1 y _ y1).1
        have hcls := (hK.1 ci q y2).2
        obtain ⟨c0, t1, f1, f2, f3⟩ := Cond.castable_spec (va_Nw.use (A := args) rfl (hZ.2.2.2.2.1.2 _ y3))
        cases hcls.1.symm.trans f1
        obtain ⟨kA', comp', r1, r2, r3, -⟩ := (hK.2 3 _ rfl).2
        cases hk0.symm.trans r1
        cases hkk0.symm.trans r2
        cases r3.symm.trans f2
        obtain ⟨kC, hkC, -⟩ := hcls.2
        obtain ⟨kE, hkE, -⟩ := Vm.findClass_spec r3
        obtain ⟨kC', hkC', -⟩ := hal.2.2 _ _ hkC
        obtain ⟨kE', hkE', -⟩ := hal.2.2 _ _ hkE
        refine ⟨rfl, cellV, (show T.heap[ad y]? = some cellV by rw [hT]; exact g1), (fun q h => by rw [h] at g3; cases g3), ⟨kC', by rw [g2]; exact hkC'⟩, ⟨kE', hkE'⟩, ?_⟩
        show vm₁.assignable _ _ = true
        rw [hal.assignable, g2]
        exact f3)
    (g := F0 m pc ls (.int (nI w) :: .int 0 :: .ref (ad b) :: .int 0 :: .ref (ad a) :: S.map (x_cv ad))) rfl (hl.1.trans hml.symm) (rest := S.map (x_cv ad)) rfl (by rw [hb]; exact hd) hf (by show 2 * 0 + _ + _ ≤ _; rw [x_cats]; omega)
  have e1 : copied (vp_cell (dT 3) (N, .inr (.inr (.inr (.inr (fun j => (F j).map ad)))))) (vp_cell (dT 3) (M, .inr (.inr (.inr (.inr (fun j => (G j).map ad)))))) 0 0 (nI w) = vp_cell (dT 3) (M, .inr (.inr (.inr (.inr (va_cpy (fun j => (F j).map ad) (fun j => (G j).map ad) 0 0 w))))) := by
    have := va_copied (fun z => va_rf z) (dT 3) (dT 3) (n0 := N) (n1 := M) (sp := (0 : Int32).toNatClampNeg) (dp := (0 : Int32).toNatClampNeg) (n := (nI w).toNatClampNeg) (fun j => (F j).map ad) (fun j => (G j).map ad) (by rw [hwc, hzc]; omega)
    refine this.trans ?_
    rw [hwc]
    rfl
  rw [e1] at X' step
  have hlt : ad b < H.size := (Array.getElem?_eq_some_iff.mp hc1).1
  have oq : ∀ q : Nat, q ≠ ad b → (H.setIfInBounds (ad b) (vp_cell (dT 3) (M, .inr (.inr (.inr (.inr (va_cpy (fun j => (F j).map ad) (fun j => (G j).map ad) 0 0 w)))))))[q]? = H[q]? := fun q hq => by simp [Array.getElem?_setIfInBounds, Ne.symm hq]
  have hheap : ((T.setVm vm').setCell (ad b) (vp_cell (dT 3) (M, .inr (.inr (.inr (.inr (va_cpy (fun j => (F j).map ad) (fun j => (G j).map ad) 0 0 w))))))).heap = H.setIfInBounds (ad b) (vp_cell (dT 3) (M, .inr (.inr (.inr (.inr (va_cpy (fun j => (F j).map ad) (fun j => (G j).map ad) 0 0 w)))))) := by rw [← hT]; rfl
  obtain ⟨t, a1, b1⟩ := kk ad _ _ ls ha (hR.up h2 (show (H.setIfInBounds (ad b) _)[ad b]? = some _ by simp [Array.getElem?_setIfInBounds, hlt]; exact congrArg (fun z => vp_cell (dT 3) (M, .inr (.inr (.inr (.inr z))))) (va_cpm (F := F) (G := G) (ad := ad) (w := w)).symm) oq) ⟨by simp; exact hS.1, fun q g1 g2 => by
      rw [oq q (fun e => g2 (by rw [e]; exact hA))]
      exact hS.2.1 q g1 g2, fun q hq => by
      rcases List.mem_append.mp hq with h | h
      · exact hS.2.2 q h
      · obtain ⟨z, -, hz⟩ := List.mem_map.mp h
        rw [← hz]
        exact hA⟩ hl _ hheap X'
  exact ⟨t, step t a1, b1⟩
end XCOPYQ
