/-! The heap of the abstract machine: reads, writes, makings. -/
def xup (hp : xH) (a : Nat) (e : va_E) : xH := fun j => bif Nat.beq j a then some e else hp j
theorem xup_s {hp : xH} {a : Nat} {e : va_E} : xup hp a e a = some e := by simp [xup]
theorem xup_n {hp : xH} {a j : Nat} {e : va_E} (h : j ≠ a) : xup hp a e j = hp j := by
  have : Nat.beq j a = false := by
    cases h2 : Nat.beq j a with
    | true => exact absurd (Nat.eq_of_beq_eq_true h2) h
    | false => rfl
  simp [xup, this]
theorem xup_eq {hp : xH} {a j : Nat} {e : va_E} : xup hp a e j = if j = a then some e else hp j := by
  by_cases h : j = a
  · subst h; rw [if_pos rfl, xup_s]
  · rw [if_neg h, xup_n h]
theorem xR.one {N0 : Nat} {D : va_G} {dT : Nat → ClassId} {ad : Nat → Nat} {hp : xH} {H : Heap} {a : Nat} {e : va_E} (h : xR N0 D dT ad hp H) (hh : hp a = some e) : va_P D vwCl [(ad a, x_ce dT ad e)] H := fun k q hq => by
  match k, hq with
  | 0, hq => cases hq; exact (h.1 a e hh).1
theorem xR.up {N0 : Nat} {D : va_G} {dT : Nat → ClassId} {ad : Nat → Nat} {hp : xH} {H H1 : Heap} {a : Nat} {e0 e : va_E} (h : xR N0 D dT ad hp H) (hh : hp a = some e0) (he : va_at D vwCl (ad a, x_ce dT ad e) H1) (oq : ∀ q : Nat, q ≠ ad a → H1[q]? = H[q]?) : xR N0 D dT ad (xup hp a e) H1 := by
  refine ⟨fun k e' hk => ?_, fun j k e1 e2 h1 h2 hjk => ?_⟩
  · by_cases hka : k = a
    · subst hka
      rw [xup_s] at hk
      cases hk
      exact ⟨he, (h.1 k e0 hh).2⟩
    · rw [xup_n hka] at hk
      exact ⟨(h.1 k e' hk).1.kept (oq _ (fun z => hka (h.2 k a e' e0 hk hh z))), (h.1 k e' hk).2⟩
  · have key : ∀ i (e' : va_E), xup hp a e i = some e' → ∃ e'', hp i = some e'' := fun i e' hi => by
      by_cases hia : i = a
      · subst hia; exact ⟨_, hh⟩
      · rw [xup_n hia] at hi; exact ⟨_, hi⟩
    obtain ⟨f1, g1⟩ := key j e1 h1
    obtain ⟨f2, g2⟩ := key k e2 h2
    exact h.2 j k f1 f2 g1 g2 hjk
/-- a cell does not point to a -/
def xnr (a : Nat) (e : va_E) : Prop := ∀ (dT : Nat → ClassId) (ad ad' : Nat → Nat), (∀ j, j ≠ a → ad' j = ad j) → x_ce dT ad' e = x_ce dT ad e
theorem x_cv_nr {a : Nat} {v : Value} (h : v ≠ .ref a) {ad ad' : Nat → Nat} (hA : ∀ j, j ≠ a → ad' j = ad j) : x_cv ad' v = x_cv ad v := by
  cases v with
  | ref k => exact congrArg Value.ref (hA k (fun z => h (by rw [z])))
  | _ => rfl
theorem xnr_o {a ci : Nat} {fs : List Value} (h : ∀ v ∈ fs, v ≠ .ref a) : xnr a (.inr (ci, fs)) := fun dT ad ad' hA => by
  show Sum.inr (ci, fs.map (x_cv ad')) = Sum.inr (ci, fs.map (x_cv ad))
  rw [List.map_congr_left (fun v hv => x_cv_nr (h v hv) hA)]
theorem xnr_i {a t n : Nat} {f : Nat → Int32} : xnr a (.inl (t, n, .inl f)) := fun _ _ _ _ => rfl
theorem xnr_l {a t n : Nat} {f : Nat → Int64} : xnr a (.inl (t, n, .inr (.inl f))) := fun _ _ _ _ => rfl
theorem xnr_q {a t n : Nat} {f : Nat → Option Nat} (h : ∀ j, f j ≠ some a) : xnr a (.inl (t, n, .inr (.inr (.inr (.inr f))))) := fun dT ad ad' hA => by
  show Sum.inl (dT t, n, Sum.inr (Sum.inr (Sum.inr (Sum.inr fun j => (f j).map ad')))) = Sum.inl (dT t, n, Sum.inr (Sum.inr (Sum.inr (Sum.inr fun j => (f j).map ad))))
  have : (fun j => (f j).map ad') = fun j => (f j).map ad := by
    funext j
    cases hf : f j with
    | none => rfl
    | some k => exact congrArg some (hA k (fun z => h j (by rw [hf, z])))
  rw [this]
/-- a number that nothing speaks of -/
def xfr (a : Nat) (hp : xH) (L : List (Nat × Value)) (S : List Value) : Prop := (∀ j e, j ≠ a → hp j = some e → xnr a e) ∧ (∀ q ∈ L, q.2 ≠ .ref a) ∧ ∀ v ∈ S, v ≠ .ref a
theorem xcl_nr {a : Nat} {L : List (Nat × Value)} (h : ∀ q ∈ L, q.2 ≠ .ref a) {ad ad' : Nat → Nat} (hA : ∀ j, j ≠ a → ad' j = ad j) : xcl ad' L = xcl ad L := by
  unfold xcl
  exact List.map_congr_left (fun q hq => by rw [x_cv_nr (h q hq) hA])
theorem xst_nr {a : Nat} {S : List Value} (h : ∀ v ∈ S, v ≠ .ref a) {ad ad' : Nat → Nat} (hA : ∀ j, j ≠ a → ad' j = ad j) : S.map (x_cv ad') = S.map (x_cv ad) :=
  List.map_congr_left (fun v hv => x_cv_nr (h v hv) hA)
/-- a new cell, at the machine's next address, is given the number a -/
theorem xR.new {N0 : Nat} {D : va_G} {dT : Nat → ClassId} {ad : Nat → Nat} {hp : xH} {H H1 : Heap} {a q : Nat} {e : va_E} (h : xR N0 D dT ad hp H) (hfr : ∀ j e, j ≠ a → hp j = some e → xnr a e) (hq : H.size ≤ q) (hN : N0 ≤ q) (he : va_at D vwCl (q, x_ce dT (va_up ad a q) e) H1) (oq : ∀ z : Nat, z < H.size → H1[z]? = H[z]?) : xR N0 D dT (va_up ad a q) (xup hp a e) H1 := by
  have hA : ∀ j, j ≠ a → va_up ad a q j = ad j := fun j hj => if_neg hj
  have hAa : va_up ad a q a = q := if_pos rfl
  have lt : ∀ k e', hp k = some e' → ad k < H.size := fun k e' hk => (h.1 k e' hk).1.lt
  refine ⟨fun k e' hk => ?_, fun j k e1 e2 h1 h2 hjk => ?_⟩
  · by_cases hka : k = a
    · subst hka
      rw [xup_s] at hk
      cases hk
      rw [hAa]
      exact ⟨he, hN⟩
    · rw [xup_n hka] at hk
      rw [hfr k e' hka hk dT ad _ hA, hA k hka]
      exact ⟨(h.1 k e' hk).1.kept (oq _ (lt k e' hk)), (h.1 k e' hk).2⟩
  · by_cases hja : j = a <;> by_cases hka : k = a
    · rw [hja, hka]
    · rw [hja, hAa, hA k hka] at hjk
      rw [xup_n hka] at h2
      have := lt k e2 h2
      omega
    · rw [hka, hAa, hA j hja] at hjk
      rw [xup_n hja] at h1
      have := lt j e1 h1
      omega
    · rw [xup_n hja] at h1
      rw [xup_n hka] at h2
      rw [hA j hja, hA k hka] at hjk
      exact h.2 j k e1 e2 h1 h2 hjk
theorem xFL.same {s : State} {args : Array Value} {ref : String} {T : u_T} {j : Nat} (hts : ∀ w ∈ xTB, w.before args s = true) (h : ref = (T j).1 ∨ Cond.sameField ref (T j).1 (T j).2.1 (T j).2.2.1 ∈ xTB) : ∀ x, s.fieldFound? (T j).1 (T j).2.1 (T j).2.2.1 = some x → s.fieldFound? ref (T j).2.1 (T j).2.2.1 = some x := by
  intro x hx
  rcases h with h | h
  · rw [h]; exact hx
  · exact u_same (hts _ h) x hx
theorem x_nar {ad : Nat → Nat} {ty : FieldType} {v : Value} (h : narrow ty v = v) : narrow ty (x_cv ad v) = x_cv ad v := by
  cases v with
  | ref k => cases ty <;> rfl
  | _ => exact h
theorem x_fit {ad : Nat → Nat} {ty : FieldType} {v : Value} (h : fits ty v = true) : fits ty (x_cv ad v) = true := by
  cases v with
  | ref k => cases ty <;> first | exact h | rfl
  | _ => exact h
/-- the method is a constructor -/
def aI (E : xEnv) : Prop := match E with
  | (_, _, _, _, _, _, _, _, meth, _) => meth.name = "<init>"
section XHEAP
variable {E : xEnv} {l9 : Launch} {N9 : Nat} {D9 : va_G} {T9 : Nat → ClassId} {cc : ByteArray} {own : String} {nL9 : Nat} {ret : Option FieldType} {tab : List ExceptionTableEntry} {R9 : Room} {nw9 : Nat → Prop} {k n : Nat} {hp : xH} {pc : Nat} {L : List (Nat × Value)} {S : List Value}
theorem a_get (C : aC E l9 N9 D9 T9 cc own nL9 ret tab R9 nw9) {index ci j a : Nat} {ty : FieldType} {fin : Bool} {fs : List Value} {v : Value} (hd : decode cc pc = .ok (.getfield index, 3)) (hf : xFL own index ci j ty fin) (hh : hp a = some (.inr (ci, fs))) (hv : fs[j]? = some v) (kk : aW E k n hp (pc + 3) L (v :: S)) : aW E k n hp pc L (.ref a :: S) := by
  obtain ⟨p, l, e, R, s, m, args, below, meth, c, D, dT, N0, nL, nw, ad0, Q⟩ := E
  obtain ⟨⟨hx, hb, hml, hown, hts⟩, hr, hlk, htab, hK, hZ, hnw, hst, rfl, rfl, rfl, rfl, rfl, rfl, rfl⟩ := C
  intro ad H locs ls ha hR hS hl
  obtain ⟨Cn, T, N, ref, ty0, hc, hj, hin, hlink, hsame, -⟩ := hf
  exact va_get (D := D) (cl := vwCl) (tys := xtys dT) hx hb hts hin hown hK (hR.one hh) 0 rfl hc j hj (hts _ hlink) (xFL.same hts hsame) (v := x_cv ad v) (by rw [List.getElem?_map, hv]; rfl) hd (kk ad H locs ls ha hR hS hl)
theorem a_put (C : aC E l9 N9 D9 T9 cc own nL9 ret tab R9 nw9) {index ci j a : Nat} {ty : FieldType} {fs : List Value} {v : Value} (hd : decode cc pc = .ok (.putfield index, 3)) (hf : xFL own index ci j ty false) (hh : hp a = some (.inr (ci, fs))) (hlen : j < fs.length) (hn : narrow ty v = v) (hfit : fits ty v = true) (kk : aW E k n (xup hp a (.inr (ci, fs.set j v))) (pc + 3) L S) : aW E k n hp pc L (v :: .ref a :: S) := by
  obtain ⟨p, l, e, R, s, m, args, below, meth, c, D, dT, N0, nL, nw, ad0, Q⟩ := E
  obtain ⟨⟨hx, hb, hml, hown, hts⟩, hr, hlk, htab, hK, hZ, hnw, hst, rfl, rfl, rfl, rfl, rfl, rfl, rfl⟩ := C
  intro ad H locs ls ha hR hS hl
  obtain ⟨Cn, T, N, ref, ty0, hc, hj, hin, hlink, hsame, hty, hnm, rfl, hfin⟩ := hf
  have hap := va_apart (own := own) (D := D) (cl := vwCl) (tys := xtys dT) hts hin ty0 hty hnm hK hc
  obtain ⟨r, h1, cell, q1, q2, q3, q4⟩ := (hR.1 a _ hh).1
  have hr9 : r = (Cn, T, N) := Option.some.inj (h1.symm.trans hc)
  subst hr9
  obtain ⟨hS9, hfc, kC, hkC, hkind⟩ := hK.1 ci _ hc
  obtain ⟨cf, kf, fi, f, hi, hsl⟩ := hS9 j hj
  have hlay := hts _ (hin _ (u_in_lay hj))
  unfold u_lay at hlay
  rw [if_neg (by rw [hfin]; decide)] at hlay
  have hst9 := (u_facts hfc hkC (u_lays hts hin hj) hi).1
  have h6 := u_store hfc hkC hkind hlay hi (hty j hj) (x_nar (ad := ad) hn) (x_fit (ad := ad) hfit)
  refine W.putK hx hb (f := f) ⟨hown, hts _ hlink, ⟨_, _, _, xFL.same hts hsame _ hi⟩, hst9⟩ (by rw [q2]; exact h6) q1 q3 (by rw [hsl]; exact k2_hasslot (q4 j hj)) rfl rfl hd fun H' e1 e2 e3 => ?_
  rw [hsl] at e1 ⊢
  refine kk ad H' _ ls ha (hR.up hh ⟨_, hc, t_OB.to (V := updV (vp_V (fs.map (x_cv ad))) j (x_cv ad v)) ⟨_, e1, q2, q3, t_set q4 hap hj _⟩ (fun i _ => ?_)⟩ e3) (hS.put e2 e3 (hR.1 a _ hh).2) hl
  rw [List.map_set]
  exact vp_updV_set (by rw [List.length_map]; exact hlen) _ i
theorem a_putF (C : aC E l9 N9 D9 T9 cc own nL9 ret tab R9 nw9) (I : aI E) {index ci j a : Nat} {ty : FieldType} {fs : List Value} {v : Value} (hd : decode cc pc = .ok (.putfield index, 3)) (hf : xFL own index ci j ty true) (hdecl : (vwCl[ci]?).map (fun q => (q.2.1 j).1) = some own) (hh : hp a = some (.inr (ci, fs))) (hlen : j < fs.length) (hn : narrow ty v = v) (hfit : fits ty v = true) (kk : aW E k n (xup hp a (.inr (ci, fs.set j v))) (pc + 3) L S) : aW E k n hp pc L (v :: .ref a :: S) := by
  obtain ⟨p, l, e, R, s, m, args, below, meth, c, D, dT, N0, nL, nw, ad0, Q⟩ := E
  obtain ⟨⟨hx, hb, hml, hown, hts⟩, hr, hlk, htab, hK, hZ, hnw, hst, rfl, rfl, rfl, rfl, rfl, rfl, rfl⟩ := C
  intro ad H locs ls ha hR hS hl
  have hin2 : meth.name = "<init>" := I
  obtain ⟨Cn, T, N, ref, ty0, hc, hj, hin, hlink, hsame, hty, hnm, rfl, hfin⟩ := hf
  have hdecl' : (T j).1 = own := by rw [hc] at hdecl; exact Option.some.inj hdecl
  have hap := va_apart (own := own) (D := D) (cl := vwCl) (tys := xtys dT) hts hin ty0 hty hnm hK hc
  obtain ⟨r, h1, cell, q1, q2, q3, q4⟩ := (hR.1 a _ hh).1
  have hr9 : r = (Cn, T, N) := Option.some.inj (h1.symm.trans hc)
  subst hr9
  obtain ⟨hS9, hfc, kC, hkC, hkind⟩ := hK.1 ci _ hc
  obtain ⟨cf, kf, fi, f, hi, hsl⟩ := hS9 j hj
  have hlay := hts _ (hin _ (u_in_lay hj))
  unfold u_lay at hlay
  rw [if_pos hfin] at hlay
  have hst9 := (u_facts hfc hkC (u_lays hts hin hj) hi).1
  have hcf : m.cls = cf := by
    obtain ⟨_, _, c', _, _, _, -, -, hf', -, -, -, hown2, -⟩ := Cond.laysFinal_spec hlay
    have e1 : c' = cf := by have := hi.symm.trans hf'; simp at this; exact this.1.symm
    rw [hdecl'] at hown2
    rw [← e1]; exact Option.some.inj (hown.symm.trans hown2)
  have h6 := u_fits hfc hkC hkind (Or.inr hlay) hi (hty j hj) (x_nar (ad := ad) hn) (x_fit (ad := ad) hfit)
  refine W.putFinK hx hb hown (hts _ hlink) (xFL.same hts hsame _ hi) hst9 hcf hin2 (by rw [q2]; exact h6) q1 q3 (by rw [hsl]; exact k2_hasslot (q4 j hj)) rfl rfl hd fun H' e1 e2 e3 => ?_
  rw [hsl] at e1 ⊢
  refine kk ad H' _ ls ha (hR.up hh ⟨_, hc, t_OB.to (V := updV (vp_V (fs.map (x_cv ad))) j (x_cv ad v)) ⟨_, e1, q2, q3, t_set q4 hap hj _⟩ (fun i _ => ?_)⟩ e3) (hS.put e2 e3 (hR.1 a _ hh).2) hl
  rw [List.map_set]
  exact vp_updV_set (by rw [List.length_map]; exact hlen) _ i
theorem a_iald (C : aC E l9 N9 D9 T9 cc own nL9 ret tab R9 nw9) {a N : Nat} {f : Nat → Int32} {i : Int32} (hd : decode cc pc = .ok (.iaload, 1)) (hh : hp a = some (.inl (0, N, .inl f))) (hi : vp_in i N) (kk : aW E k n hp (pc + 1) L (.int (f i.toNatClampNeg) :: S)) : aW E k n hp pc L (.int i :: .ref a :: S) := by
  obtain ⟨p, l, e, R, s, m, args, below, meth, c, D, dT, N0, nL, nw, ad0, Q⟩ := E
  obtain ⟨⟨hx, hb, hml, hown, hts⟩, hr, hlk, htab, hK, hZ, hnw, hst, rfl, rfl, rfl, rfl, rfl, rfl, rfl⟩ := C
  intro ad H locs ls ha hR hS hl
  exact va_iald (D := D) (cl := vwCl) (tys := xtys dT) hx hb hK (hR.one hh) 0 0 rfl rfl hi hd (kk ad H locs ls ha hR hS hl)
theorem a_lald (C : aC E l9 N9 D9 T9 cc own nL9 ret tab R9 nw9) {a N : Nat} {f : Nat → Int64} {i : Int32} (hd : decode cc pc = .ok (.laload, 1)) (hh : hp a = some (.inl (1, N, .inr (.inl f)))) (hi : vp_in i N) (kk : aW E k n hp (pc + 1) L (.long (f i.toNatClampNeg) :: S)) : aW E k n hp pc L (.int i :: .ref a :: S) := by
  obtain ⟨p, l, e, R, s, m, args, below, meth, c, D, dT, N0, nL, nw, ad0, Q⟩ := E
  obtain ⟨⟨hx, hb, hml, hown, hts⟩, hr, hlk, htab, hK, hZ, hnw, hst, rfl, rfl, rfl, rfl, rfl, rfl, rfl⟩ := C
  intro ad H locs ls ha hR hS hl
  exact va_lald (D := D) (cl := vwCl) (tys := xtys dT) hx hb hK (hR.one hh) 0 1 rfl rfl hi hd (kk ad H locs ls ha hR hS hl)
theorem a_aald (C : aC E l9 N9 D9 T9 cc own nL9 ret tab R9 nw9) {a N : Nat} {f : Nat → Option Nat} {i : Int32} (hd : decode cc pc = .ok (.aaload, 1)) (hh : hp a = some (.inl (3, N, .inr (.inr (.inr (.inr f)))))) (hi : vp_in i N) (kk : aW E k n hp (pc + 1) L (va_rf (f i.toNatClampNeg) :: S)) : aW E k n hp pc L (.int i :: .ref a :: S) := by
  obtain ⟨p, l, e, R, s, m, args, below, meth, c, D, dT, N0, nL, nw, ad0, Q⟩ := E
  obtain ⟨⟨hx, hb, hml, hown, hts⟩, hr, hlk, htab, hK, hZ, hnw, hst, rfl, rfl, rfl, rfl, rfl, rfl, rfl⟩ := C
  intro ad H locs ls ha hR hS hl
  refine va_aldq (D := D) (cl := vwCl) (tys := xtys dT) hx hb hK (hR.one hh) 0 3 rfl rfl hi hd ?_
  have e : va_rf ((f i.toNatClampNeg).map ad) = x_cv ad (va_rf (f i.toNatClampNeg)) := by cases f i.toNatClampNeg <;> rfl
  rw [e]
  exact kk ad H locs ls ha hR hS hl
theorem a_alen (C : aC E l9 N9 D9 T9 cc own nL9 ret tab R9 nw9) {a t N : Nat} {x : (Nat → Int32) ⊕ (Nat → Int64) ⊕ (Nat → UInt32) ⊕ (Nat → UInt64) ⊕ (Nat → Option Nat)} (hd : decode cc pc = .ok (.arraylength, 1)) (ht : t < 4) (hh : hp a = some (.inl (t, N, x))) (kk : aW E k n hp (pc + 1) L (.int (Int32.ofNat N) :: S)) : aW E k n hp pc L (.ref a :: S) := by
  obtain ⟨p, l, e, R, s, m, args, below, meth, c, D, dT, N0, nL, nw, ad0, Q⟩ := E
  obtain ⟨⟨hx, hb, hml, hown, hts⟩, hr, hlk, htab, hK, hZ, hnw, hst, rfl, rfl, rfl, rfl, rfl, rfl, rfl⟩ := C
  intro ad H locs ls ha hR hS hl
  obtain ⟨ty, hty⟩ : ∃ ty, (xtys dT)[t]? = some (dT t, ty) := by
    match t, ht with
    | 0, _ => exact ⟨_, rfl⟩
    | 1, _ => exact ⟨_, rfl⟩
    | 2, _ => exact ⟨_, rfl⟩
    | 3, _ => exact ⟨_, rfl⟩
  exact va_alen (D := D) (cl := vwCl) (tys := xtys dT) hx hb hK (hR.one hh) 0 t rfl hty (by rcases x with f | f | f | f | f <;> rfl) hd (kk ad H locs ls ha hR hS hl)
theorem a_iast (C : aC E l9 N9 D9 T9 cc own nL9 ret tab R9 nw9) {a N : Nat} {f : Nat → Int32} {i : Int32} {x : Int32} (hd : decode cc pc = .ok (.iastore, 1)) (hh : hp a = some (.inl (0, N, .inl f))) (hi : vp_in i N) (kk : aW E k n (xup hp a (.inl (0, N, .inl (upd f i.toNatClampNeg x)))) (pc + 1) L S) : aW E k n hp pc L (.int x :: .int i :: .ref a :: S) := by
  obtain ⟨p, l, e, R, s, m, args, below, meth, c, D, dT, N0, nL, nw, ad0, Q⟩ := E
  obtain ⟨⟨hx, hb, hml, hown, hts⟩, hr, hlk, htab, hK, hZ, hnw, hst, rfl, rfl, rfl, rfl, rfl, rfl, rfl⟩ := C
  intro ad H locs ls ha hR hS hl
  refine W.iast hx hb (hR.1 a _ hh).1 ((hK.2 0 _ rfl).1 N (fun j => .int (f j))) (fun q => by cases q) (by show ¬ (i < 0 ∨ (arrV _ _ _).slots.size ≤ _); rw [arrV_size]; exact hi) rfl rfl hd fun H1 e1 z oq => ?_
  refine kk ad H1 _ ls ha (hR.up hh ?_ oq) (hS.put z oq (hR.1 a _ hh).2) hl
  show H1[ad a]? = some (vp_cell _ _)
  rw [e1]
  show some ((vp_cell (dT 0) (N, .inl f)).setSlot _ _) = some (vp_cell (dT 0) (N, .inl (upd f i.toNatClampNeg x)))
  rw [vp_cell_i, vp_cell_i, arrV_store]
  congr 2
  funext q
  by_cases hq : q = i.toNatClampNeg
  · subst hq
    simp [updV, upd]
  · simp [updV, upd, hq]
theorem a_last (C : aC E l9 N9 D9 T9 cc own nL9 ret tab R9 nw9) {a N : Nat} {f : Nat → Int64} {i : Int32} {x : Int64} (hd : decode cc pc = .ok (.lastore, 1)) (hh : hp a = some (.inl (1, N, .inr (.inl f)))) (hi : vp_in i N) (kk : aW E k n (xup hp a (.inl (1, N, .inr (.inl (vp_updL f i.toNatClampNeg x))))) (pc + 1) L S) : aW E k n hp pc L (.long x :: .int i :: .ref a :: S) := by
  obtain ⟨p, l, e, R, s, m, args, below, meth, c, D, dT, N0, nL, nw, ad0, Q⟩ := E
  obtain ⟨⟨hx, hb, hml, hown, hts⟩, hr, hlk, htab, hK, hZ, hnw, hst, rfl, rfl, rfl, rfl, rfl, rfl, rfl⟩ := C
  intro ad H locs ls ha hR hS hl
  refine W.last hx hb (hR.1 a _ hh).1 ((hK.2 1 _ rfl).1 N (fun j => .long (f j))) (fun q => by cases q) (by show ¬ (i < 0 ∨ (arrV _ _ _).slots.size ≤ _); rw [arrV_size]; exact hi) rfl rfl hd fun H1 e1 z oq => ?_
  refine kk ad H1 _ ls ha (hR.up hh ?_ oq) (hS.put z oq (hR.1 a _ hh).2) hl
  show H1[ad a]? = some (vp_cell _ _)
  rw [e1]
  show some ((vp_cell (dT 1) (N, .inr (.inl f))).setSlot _ _) = some (vp_cell (dT 1) (N, .inr (.inl (vp_updL f i.toNatClampNeg x))))
  rw [vp_cell_l, vp_cell_l, arrV_store]
  congr 2
  funext q
  by_cases hq : q = i.toNatClampNeg
  · subst hq
    simp [updV, vp_updL]
  · simp [updV, vp_updL, hq]
end XHEAP
