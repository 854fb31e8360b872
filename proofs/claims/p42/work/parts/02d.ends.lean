section XENDS
variable {E : xEnv} {l9 : Launch} {N9 : Nat} {D9 : va_G} {T9 : Nat → ClassId} {cc : ByteArray} {own : String} {nL9 : Nat} {ret : Option FieldType} {tab : List ExceptionTableEntry} {R9 : Room} {nw9 : Nat → Prop} {k n : Nat} {hp : xH} {pc : Nat} {L : List (Nat × Value)} {S : List Value}
/-! returns -/
theorem xret_of {p : Program} {l : Launch} {e : Env} {R : Room} {s : State} {m : MethodId} {args : Array Value} {below : List Frame} {meth : Method} {c : Code} {D : va_G} {dT : Nat → ClassId} {N0 nL : Nat} {nw : Nat → Prop} {ad0 ad : Nat → Nat} {Q : State → Prop} {r : Option Value} {H : Heap} {locs : List Loc} (hA : aR (p, l, e, R, s, m, args, below, meth, c, D, dT, N0, nL, nw, ad0, Q) r hp) (ha : ∀ j, ¬ nw j → ad j = ad0 j) (hR : xR N0 D dT ad hp H) (hS : va_S (fun q => N0 ≤ q) s.heap H locs) : ∀ t : State, MQ below (fun _ _ o t => o = .returned (r.map (x_cv ad)) ∧ t.heap = H) args s R.cells R.slots (fun q => N0 ≤ q) t → Q t := by
  intro t ⟨o, h1, h2, ⟨h3, h4⟩, L, h5, h6⟩
  subst h3
  exact hA ad t L ha (by rw [h4]; exact hR) (hS.F h4) h1 h2 h5 h6
theorem a_iret (C : aC E l9 N9 D9 T9 cc own nL9 (some .int) tab R9 nw9) {v : Int32} (hd : decode cc pc = .ok (.ireturn, 1)) (hk : k ≤ R9.cells) (hn : n ≤ R9.slots) (hA : aR E (some (.int v)) hp) : aW E k n hp pc L [.int v] := by
  obtain ⟨p, l, e, R, s, m, args, below, meth, c, D, dT, N0, nL, nw, ad0, Q⟩ := E
  obtain ⟨⟨hx, hb, hml, hown, hts⟩, hr, hlk, htab, hK, hZ, hnw, hst, rfl, rfl, rfl, rfl, rfl, rfl, rfl⟩ := C
  intro ad H locs ls ha hR hS hl
  exact W_mono (xret_of hA ha hR hS) (W.widen hk hn (W.iret (v := v) hx hb hr (fun t ht hW => ⟨rfl, ht⟩) hS.2.2 hd hlk))
theorem a_zret (C : aC E l9 N9 D9 T9 cc own nL9 (some .boolean) tab R9 nw9) {v : Int32} (hd : decode cc pc = .ok (.ireturn, 1)) (hv : narrow .boolean (.int v) = .int v) (hk : k ≤ R9.cells) (hn : n ≤ R9.slots) (hA : aR E (some (.int v)) hp) : aW E k n hp pc L [.int v] := by
  obtain ⟨p, l, e, R, s, m, args, below, meth, c, D, dT, N0, nL, nw, ad0, Q⟩ := E
  obtain ⟨⟨hx, hb, hml, hown, hts⟩, hr, hlk, htab, hK, hZ, hnw, hst, rfl, rfl, rfl, rfl, rfl, rfl, rfl⟩ := C
  intro ad H locs ls ha hR hS hl
  exact W_mono (xret_of hA ha hR hS) (W.widen hk hn (W.zret (v := v) hx hb hr hv (fun t ht hW => ⟨rfl, ht⟩) hS.2.2 hd hlk))
theorem a_lret (C : aC E l9 N9 D9 T9 cc own nL9 (some .long) tab R9 nw9) {v : Int64} (hd : decode cc pc = .ok (.lreturn, 1)) (hk : k ≤ R9.cells) (hn : n ≤ R9.slots) (hA : aR E (some (.long v)) hp) : aW E k n hp pc L [.long v] := by
  obtain ⟨p, l, e, R, s, m, args, below, meth, c, D, dT, N0, nL, nw, ad0, Q⟩ := E
  obtain ⟨⟨hx, hb, hml, hown, hts⟩, hr, hlk, htab, hK, hZ, hnw, hst, rfl, rfl, rfl, rfl, rfl, rfl, rfl⟩ := C
  intro ad H locs ls ha hR hS hl
  exact W_mono (xret_of hA ha hR hS) (W.widen hk hn (W.lret (v := v) hx hb hr (fun t ht hW => ⟨rfl, ht⟩) hS.2.2 hd hlk))
theorem a_vret (C : aC E l9 N9 D9 T9 cc own nL9 none tab R9 nw9) (hd : decode cc pc = .ok (.return_, 1)) (hk : k ≤ R9.cells) (hn : n ≤ R9.slots) (hA : aR E none hp) : aW E k n hp pc L [] := by
  obtain ⟨p, l, e, R, s, m, args, below, meth, c, D, dT, N0, nL, nw, ad0, Q⟩ := E
  obtain ⟨⟨hx, hb, hml, hown, hts⟩, hr, hlk, htab, hK, hZ, hnw, hst, rfl, rfl, rfl, rfl, rfl, rfl, rfl⟩ := C
  intro ad H locs ls ha hR hS hl
  exact W_mono (xret_of hA ha hR hS) (W.widen hk hn (W.vret hx hb hr (fun t ht hW => ⟨rfl, ht⟩) hS.2.2 hd hlk))
theorem a_aret {rt : FieldType} (C : aC E l9 N9 D9 T9 cc own nL9 (some rt) tab R9 nw9) {a : Nat} (hd : decode cc pc = .ok (.areturn, 1)) (hrt : (∃ n, rt = .object n) ∨ ∃ t, rt = .array t) (hk : k ≤ R9.cells) (hn : n ≤ R9.slots) (hA : aR E (some (.ref a)) hp) : aW E k n hp pc L [.ref a] := by
  obtain ⟨p, l, e, R, s, m, args, below, meth, c, D, dT, N0, nL, nw, ad0, Q⟩ := E
  obtain ⟨⟨hx, hb, hml, hown, hts⟩, hr, hlk, htab, hK, hZ, hnw, hst, rfl, rfl, rfl, rfl, rfl, rfl, rfl⟩ := C
  intro ad H locs ls ha hR hS hl
  exact W_mono (xret_of hA ha hR hS) (W.widen hk hn (W.aret (v := .ref (ad a)) hx hb hr hrt (Or.inr ⟨_, rfl⟩) (fun t ht hW => ⟨rfl, ht⟩) hS.2.2 hd hlk))
/-! references -/
theorem x_acmp {ad : Nat → Nat} {N0 : Nat} {D : va_G} {dT : Nat → ClassId} {H : Heap} {a b : Nat} {e f : va_E} (hR : xR N0 D dT ad hp H) (h1 : hp a = some e) (h2 : hp b = some f) : some (ad a) = some (ad b) ↔ a = b := ⟨fun h => hR.2 a b e f h1 h2 (Option.some.inj h), fun h => by rw [h]⟩
theorem a_acmp_ne (C : aC E l9 N9 D9 T9 cc own nL9 ret tab R9 nw9) {a b : Nat} {e f : va_E} {off : Int} {tgt : Nat} (hd : decode cc pc = .ok (.if_acmp .ne off, 3)) (ht : (pc : Int) + off = (tgt : Int)) (h1 : hp a = some e) (h2 : hp b = some f) (kt : ¬ a = b → aW E k n hp tgt L S) (kf : a = b → aW E k n hp (pc + 3) L S) : aW E k n hp pc L (.ref b :: .ref a :: S) := by
  obtain ⟨p, l, e, R, s, m, args, below, meth, c, D, dT, N0, nL, nw, ad0, Q⟩ := E
  obtain ⟨⟨hx, hb, hml, hown, hts⟩, hr, hlk, htab, hK, hZ, hnw, hst, rfl, rfl, rfl, rfl, rfl, rfl, rfl⟩ := C
  intro ad H locs ls ha hR hS hl
  exact lv_acmp_ne (rx := some (ad a)) (ry := some (ad b)) hx hb hd ht (fun z => kt (fun q => z ((x_acmp hR h1 h2).mpr q)) ad H locs ls ha hR hS hl) (fun z => kf ((x_acmp hR h1 h2).mp z) ad H locs ls ha hR hS hl)
theorem a_castY (C : aC E l9 N9 D9 T9 cc own nL9 ret tab R9 nw9) {a ci : Nat} {fs : List Value} {nm : String} {index : Nat} {q : vw_C} (hd : decode cc pc = .ok (.checkcast index, 3)) (hlink : Cond.classLink own index nm ∈ xTB) (hh : hp a = some (.inr (ci, fs))) (hc : vwCl[ci]? = some q) (hcast : Cond.castable q.1 nm ∈ xTN) (kk : aW E k n hp (pc + 3) L (.ref a :: S)) : aW E k n hp pc L (.ref a :: S) := by
  obtain ⟨p, l, e, R, s, m, args, below, meth, c, D, dT, N0, nL, nw, ad0, Q⟩ := E
  obtain ⟨⟨hx, hb, hml, hown, hts⟩, hr, hlk, htab, hK, hZ, hnw, hst, rfl, rfl, rfl, rfl, rfl, rfl, rfl⟩ := C
  intro ad H locs ls ha hR hS hl
  exact va_castY (C := q.1) hx hb hown (hts _ hlink) (hZ.2.2.2.2.1.2 _ hcast) (va_recv hK (hR.one hh) hc (q0 := 0) rfl) hd (kk ad H locs ls ha hR hS hl)
/-! makings -/
theorem a_new (C : aC E l9 N9 D9 T9 cc own nL9 ret tab R9 nw9) (a : Nat) {ci N index : Nat} {Cn : String} {T : u_T} {ty : Nat → FieldType} {fs : List Value} (hd : decode cc pc = .ok (.new index, 3)) (hcl : Cond.classLink own index Cn ∈ xTB) (hinst : Cond.instantiable Cn N ∈ xTB) (hini : Cond.initialized Cn ∈ xTB) (hin : ∀ w ∈ u_ws Cn T N, w ∈ xTB) (hty : ∀ k, k < N → parseFieldDescriptor (T k).2.2.1 = some (ty k)) (hc : vwCl[ci]? = some (Cn, T, N)) (hfs : ∀ j, j < N → defaultValue (ty j) = vp_V fs j) (hfs2 : ∀ v ∈ fs, ∀ j, v ≠ .ref j) (hw : nw9 a) (hfr : xfr a hp L S) (hk : k + 1 ≤ R9.cells) (hn : n + N ≤ R9.slots)
    (kk : aW E (k + 1) (n + N) (xup hp a (.inr (ci, fs))) (pc + 3) L (.ref a :: S)) : aW E k n hp pc L S := by
  obtain ⟨p, l, e, R, s, m, args, below, meth, c, D, dT, N0, nL, nw, ad0, Q⟩ := E
  obtain ⟨⟨hx, hb, hml, hown, hts⟩, hr, hlk, htab, hK, hZ, hnw, hst, rfl, rfl, rfl, rfl, rfl, rfl, rfl⟩ := C
  intro ad H locs ls ha hR hS hl
  have hN : N0 ≤ H.size := Nat.le_trans hZ.1 hS.1
  have hKn := hK.1 ci _ hc
  refine W.newcK hx hb hown (hts _ hcl) (hts _ hinst) (hts _ hini) rfl hd hk hn hKn.2.1 rfl fun H1 kC hkC e1 z1 o1 => ?_
  have hA : ∀ j, j ≠ a → va_up ad a H.size j = ad j := fun j hj => if_neg hj
  have hfm : fs.map (x_cv (va_up ad a H.size)) = fs := by
    have : ∀ v ∈ fs, x_cv (va_up ad a H.size) v = v := fun v hv => by
      cases v with
      | ref j => exact absurd rfl (hfs2 _ hv j)
      | _ => rfl
    calc fs.map (x_cv (va_up ad a H.size)) = fs.map id := List.map_congr_left this
      _ = fs := List.map_id fs
  have hat : va_at D vwCl (H.size, x_ce dT (va_up ad a H.size) (.inr (ci, fs))) H1 := by
    refine ⟨_, hc, (u_born ty hts hin hKn hkC e1 hty).to fun j hj => ?_⟩
    show _ = vp_V (fs.map _) j
    rw [hfm]
    exact hfs j hj
  have w := kk (va_up ad a H.size) H1 locs ls (fun j hj => (hA j (fun z => hj (z ▸ hw))).trans (ha j hj)) (hR.new hfr.1 (Nat.le_refl _) hN hat o1) ⟨Nat.le_trans hS.1 (by omega), fun x h1 h2 => (o1 x (Nat.lt_of_lt_of_le h1 hS.1)).trans (hS.2.1 x h1 h2), hS.2.2⟩ (by rw [xcl_nr hfr.2.1 hA]; exact hl)
  rw [List.map_cons, xst_nr hfr.2.2 hA] at w
  rw [show x_cv (va_up ad a H.size) (.ref a) = .ref H.size from congrArg Value.ref (if_pos rfl)] at w
  exact w
theorem a_newa (C : aC E l9 N9 D9 T9 cc own nL9 ret tab R9 nw9) (a t : Nat) {atype : ArrayType} {ty : FieldType} {x : Int32} {N : Nat} {f : (Nat → Int32) ⊕ (Nat → Int64) ⊕ (Nat → UInt32) ⊕ (Nat → UInt64) ⊕ (Nat → Option Nat)} (hd : decode cc pc = .ok (.newarray atype, 2)) (hty : newarray.typeOf atype = ty) (ht : ∀ dT : Nat → ClassId, (xtys dT)[t]? = some (dT t, ty)) (hnm : ∀ Cn, ty ≠ .object Cn) (harr : Cond.arrayClass ty ∈ xTB) (hf : ∀ cA : ClassId, vp_cell cA (N, f) = arrV cA N (fun _ => defaultValue ty)) (hf2 : ∀ ad, x_ca ad (N, f) = (N, f)) (hx0 : ¬ x < 0) (hxN : x.toNatClampNeg = N) (hbytes : N * componentBytes ty ≤ 536870912) (hw : nw9 a) (hfr : xfr a hp L S) (hk : k + 1 ≤ R9.cells) (hn : n + N ≤ R9.slots)
    (kk : aW E (k + 1) (n + N) (xup hp a (.inl (t, N, f))) (pc + 2) L (.ref a :: S)) : aW E k n hp pc L (.int x :: S) := by
  obtain ⟨p, l, e, R, s, m, args, below, meth, c, D, dT, N0, nL, nw, ad0, Q⟩ := E
  obtain ⟨⟨hx, hb, hml, hown, hts⟩, hr, hlk, htab, hK, hZ, hnw, hst, rfl, rfl, rfl, rfl, rfl, rfl, rfl⟩ := C
  intro ad H locs ls ha hR hS hl
  subst hty
  have hN : N0 ≤ H.size := Nat.le_trans hZ.1 hS.1
  refine va_newaK hx hb (hts _ harr) rfl hd rfl hx0 hxN hbytes hk hn rfl fun H1 cA e1 z1 o1 hAr hNm => ?_
  have hcA : cA = dT t := by
    have h2 := (hK.2 t _ (ht dT)).2
    revert h2 hNm hnm
    cases atype <;> intro hnm hNm h2 <;> exact Option.some.inj (hNm.symm.trans h2)
  have hA : ∀ j, j ≠ a → va_up ad a H.size j = ad j := fun j hj => if_neg hj
  have hat : va_at D vwCl (H.size, x_ce dT (va_up ad a H.size) (.inl (t, N, f))) H1 := by
    show H1[H.size]? = some (vp_cell (dT t) (x_ca _ (N, f)))
    rw [hf2, hf, ← hcA]
    exact e1
  have w := kk (va_up ad a H.size) H1 locs ls (fun j hj => (hA j (fun z => hj (z ▸ hw))).trans (ha j hj)) (hR.new hfr.1 (Nat.le_refl _) hN hat o1) ⟨Nat.le_trans hS.1 (by omega), fun x h1 h2 => (o1 x (Nat.lt_of_lt_of_le h1 hS.1)).trans (hS.2.1 x h1 h2), hS.2.2⟩ (by rw [xcl_nr hfr.2.1 hA]; exact hl)
  rw [List.map_cons, xst_nr hfr.2.2 hA] at w
  rw [show x_cv (va_up ad a H.size) (.ref a) = .ref H.size from congrArg Value.ref (if_pos rfl)] at w
  exact w
theorem a_newq (C : aC E l9 N9 D9 T9 cc own nL9 ret tab R9 nw9) (a : Nat) {index : Nat} {x : Int32} {N : Nat} (hd : decode cc pc = .ok (.anewarray index, 3)) (hlink : Cond.classLink own index "java/lang/Object" ∈ xTB) (hx0 : ¬ x < 0) (hxN : x.toNatClampNeg = N) (hbytes : N * 4 ≤ 536870912) (hw : nw9 a) (hfr : xfr a hp L S) (hk : k + 1 ≤ R9.cells) (hn : n + N ≤ R9.slots)
    (kk : aW E (k + 1) (n + N) (xup hp a (.inl (3, N, .inr (.inr (.inr (.inr (fun _ => none))))))) (pc + 3) L (.ref a :: S)) : aW E k n hp pc L (.int x :: S) := by
  obtain ⟨p, l, e, R, s, m, args, below, meth, c, D, dT, N0, nL, nw, ad0, Q⟩ := E
  obtain ⟨⟨hx, hb, hml, hown, hts⟩, hr, hlk, htab, hK, hZ, hnw, hst, rfl, rfl, rfl, rfl, rfl, rfl, rfl⟩ := C
  intro ad H locs ls ha hR hS hl
  subst hxN
  have hN : N0 ≤ H.size := Nat.le_trans hZ.1 hS.1
  obtain ⟨kA0, comp0, g1, g2, g3, g4⟩ := (hK.2 3 _ rfl).2
  refine W.anew hx hb hown (hts _ hlink) (va_AO.use hZ.2.2.2.2.2.2.1) rfl hd rfl hx0 hbytes hk hn fun cA kA comp f1 f2 f3 f4 => ?_
  generalize hH1 : H.push ({ cls := cA, slots := Array.replicate x.toNatClampNeg .null, vm := .none } : Cell) = H1
  have z1 : H1.size = H.size + 1 := by rw [← hH1, Array.size_push]
  have e1 : H1[H.size]? = some (arrV cA x.toNatClampNeg (fun _ => .null)) := by rw [← hH1, Array.getElem?_push_size, ← arrV_new]
  have o1 : ∀ q : Nat, q < H.size → H1[q]? = H[q]? := fun q hq => by rw [← hH1, Array.getElem?_push, if_neg (Nat.ne_of_lt hq)]
  have hcA : cA = dT 3 := by
    exact Option.some.inj (f1.symm.trans g4)
  have hA : ∀ j, j ≠ a → va_up ad a H.size j = ad j := fun j hj => if_neg hj
  have hat : va_at D vwCl (H.size, x_ce dT (va_up ad a H.size) (.inl (3, x.toNatClampNeg, .inr (.inr (.inr (.inr (fun _ => none))))))) H1 := by
    show H1[H.size]? = some (vp_cell (dT 3) (x.toNatClampNeg, .inr (.inr (.inr (.inr (fun _ => none))))))
    rw [← hcA]
    exact e1
  have w := kk (va_up ad a H.size) H1 locs ls (fun j hj => (hA j (fun z => hj (z ▸ hw))).trans (ha j hj)) (hR.new hfr.1 (Nat.le_refl _) hN hat o1) ⟨Nat.le_trans hS.1 (by omega), fun x h1 h2 => (o1 x (Nat.lt_of_lt_of_le h1 hS.1)).trans (hS.2.1 x h1 h2), hS.2.2⟩ (by rw [xcl_nr hfr.2.1 hA]; exact hl)
  rw [List.map_cons, xst_nr hfr.2.2 hA] at w
  rw [show x_cv (va_up ad a H.size) (.ref a) = .ref H.size from congrArg Value.ref (if_pos rfl)] at w
  exact w
/-- the constructor of Object -/
theorem a_oinit (C : aC E l9 N9 D9 T9 cc own nL9 ret tab R9 nw9) {a index : Nat} (hd : decode cc pc = .ok (.invokespecial index, 3)) (hlink : Cond.methodLink own index Lib.objectInit ∈ xTB) (hinst : Cond.instanceMethod Lib.objectInit ∈ xTB) (hcode : Cond.code Lib.objectInit ⟨#[0xb1]⟩ 1 none ∈ xTB) (hcat : (S.map fun v => v.category).sum ≤ 8) (hf : 1 ≤ R9.frames) (hlo : 20 ≤ R9.locals) (kk : aW E k n hp (pc + 3) L S) : aW E k n hp pc L (.ref a :: S) := by
  obtain ⟨p, l, e, R, s, m, args, below, meth, c, D, dT, N0, nL, nw, ad0, Q⟩ := E
  obtain ⟨⟨hx, hb, hml, hown, hts⟩, hr, hlk, htab, hK, hZ, hnw, hst, rfl, rfl, rfl, rfl, rfl, rfl, rfl⟩ := C
  intro ad H locs ls ha hR hS hl
  refine W.objInit hx hb hown (hts _ hlink) (hts _ hinst) (hts _ hcode) rfl (by rw [hml]; exact hl.1) rfl hd hf ?_ (kk ad H locs ls ha hR hS hl)
  have : ((S.map (x_cv ad)).map fun v => v.category) = S.map fun v => v.category := by
    rw [List.map_map]
    exact List.map_congr_left fun v _ => x_cv_cat ad v
  rw [this]
  show 2 * 0 + _ + 12 ≤ _
  omega
end XENDS
