theorem W_mono {p : Program} {l : Launch} {e : Env} {R : Room} {s : State} {m : MethodId} {args : Array Value} {below : List Frame} {meth : Method} {c : Code} {H : Heap} {locs : List Loc} {k n : Nat} {Q Q' : State → Prop} {g : JFrame} (h : ∀ t, Q t → Q' t) (w : W p l e R s m args below meth c H locs k n Q g) : W p l e R s m args below meth c H locs k n Q' g := fun T hT X => by
  obtain ⟨t, a, b⟩ := w T hT X
  exact ⟨t, a, h t b⟩
theorem vx_W_mono {p : Program} {l : Launch} {e : Env} {R : Room} {s : State} {m : MethodId} {args : Array Value} {below : List Frame} {meth : Method} {c : Code} {H : Heap} {locs : List Loc} {k n : Nat} {Q Q' : State → Prop} {g : JFrame} {q : Addr} (h : ∀ t, Q t → Q' t) (w : vx_W p l e R s m args below meth c H locs k n Q g q) : vx_W p l e R s m args below meth c H locs k n Q' g q := fun T hT X => by
  obtain ⟨t, a, b⟩ := w T hT X
  exact ⟨t, a, h t b⟩
/-- the locals, read -/
def xget (L : List (Nat × Value)) (i : Nat) : Option Value := match L with
  | [] => none
  | q :: r => bif Nat.beq q.1 i then some q.2 else xget r i
theorem xget_mem {L : List (Nat × Value)} {i : Nat} {v : Value} (h : xget L i = some v) : (i, v) ∈ L := by
  induction L with
  | nil => cases h
  | cons q r ih =>
    unfold xget at h
    cases hq : Nat.beq q.1 i with
    | true =>
      rw [hq] at h
      cases Nat.eq_of_beq_eq_true hq
      cases h
      exact List.mem_cons_self
    | false =>
      rw [hq] at h
      exact List.mem_cons_of_mem _ (ih h)
theorem x_cv_cat (ad : Nat → Nat) (v : Value) : (x_cv ad v).category = v.category := by cases v <;> rfl
theorem xl {ls : Array Slot} {nL i : Nat} {ad : Nat → Nat} {L : List (Nat × Value)} {v : Value} (hl : lv_has ls nL (xcl ad L)) (h : xget L i = some v) : ls[i]? = some (.val (x_cv ad v)) :=
  hl.2.2 (i, x_cv ad v) (List.mem_map.mpr ⟨(i, v), xget_mem h, rfl⟩)
theorem xbeq (a b : Nat) : (a == b) = Nat.beq a b := by rw [Bool.eq_iff_iff, beq_iff_eq, Nat.beq_eq]
/-- the locals, written: a value of one word -/
def xset (L : List (Nat × Value)) (i : Nat) (v : Value) : List (Nat × Value) := (i, v) :: L.filter (fun q => !(Nat.beq q.1 i) && !(Nat.beq (q.1 + 1) i && Nat.beq q.2.category 2))
def xset2 (L : List (Nat × Value)) (i : Nat) (v : Value) : List (Nat × Value) := (i, v) :: L.filter (fun q => !(Nat.beq q.1 i) && (!(Nat.beq q.1 (i + 1)) && !(Nat.beq (q.1 + 1) i && Nat.beq q.2.category 2)))
theorem xset_cl (ad : Nat → Nat) (L : List (Nat × Value)) (i : Nat) (v : Value) : (i, x_cv ad v) :: (xcl ad L).filter (fun q => !(q.1 == i) && !(q.1 + 1 == i && q.2.category == 2)) = xcl ad (xset L i v) := by
  unfold xcl xset
  rw [List.map_cons, List.filter_map]
  congr 2
  refine List.filter_congr fun q _ => ?_
  simp only [Function.comp, xbeq, x_cv_cat]
theorem xset2_cl (ad : Nat → Nat) (L : List (Nat × Value)) (i : Nat) (v : Value) : (i, x_cv ad v) :: (xcl ad L).filter (fun q => !(q.1 == i) && (!(q.1 == i + 1) && !(q.1 + 1 == i && q.2.category == 2))) = xcl ad (xset2 L i v) := by
  unfold xcl xset2
  rw [List.map_cons, List.filter_map]
  congr 2
  refine List.filter_congr fun q _ => ?_
  simp only [Function.comp, xbeq, x_cv_cat]
/-- fewer locals, in any order -/
def xsub (L' L : List (Nat × Value)) : Prop := ∀ q ∈ L', xget L q.1 = some q.2
theorem xsub_nil {L : List (Nat × Value)} : xsub [] L := fun _ h => by cases h
theorem xsub_cons {L' L : List (Nat × Value)} {i : Nat} {v : Value} (h : xget L i = some v) (h' : xsub L' L) : xsub ((i, v) :: L') L := fun q hq => by
  rcases List.mem_cons.mp hq with rfl | hq
  · exact h
  · exact h' q hq
section XROWS
variable {E : xEnv} {l9 : Launch} {N9 : Nat} {D9 : va_G} {T9 : Nat → ClassId} {cc : ByteArray} {own : String} {nL9 : Nat} {ret : Option FieldType} {tab : List ExceptionTableEntry} {R9 : Room} {nw9 : Nat → Prop} {k n : Nat} {hp : xH} {pc : Nat} {L : List (Nat × Value)} {S : List Value}
theorem a_loc (L' : List (Nat × Value)) (h : xsub L' L) (kk : aW E k n hp pc L' S) : aW E k n hp pc L S := by
  obtain ⟨p, l, e, R, s, m, args, below, meth, c, D, dT, N0, nL, nw, ad0, Q⟩ := E
  intro ad H locs ls ha hR hS hl
  refine kk ad H locs ls ha hR hS ⟨hl.1, hl.2.1, fun q hq => ?_⟩
  obtain ⟨z, hz, rfl⟩ := List.mem_map.mp hq
  exact xl hl (h z hz)
theorem a_hp {hp' : xH} (h : hp = hp') (kk : aW E k n hp' pc L S) : aW E k n hp pc L S := h ▸ kk
theorem a_st {S' : List Value} (h : S = S') (kk : aW E k n hp pc L S') : aW E k n hp pc L S := h ▸ kk
theorem a_wd (k' n' : Nat) (h1 : k ≤ k') (h2 : n ≤ n') (kk : aW E k' n' hp pc L S) : aW E k n hp pc L S := by
  obtain ⟨p, l, e, R, s, m, args, below, meth, c, D, dT, N0, nL, nw, ad0, Q⟩ := E
  intro ad H locs ls ha hR hS hl
  exact W.widen h1 h2 (kk ad H locs ls ha hR hS hl)
theorem a_iconst (C : aC E l9 N9 D9 T9 cc own nL9 ret tab R9 nw9) {z : Int} {v : Int32} (hd : decode cc pc = .ok (.iconst z, 1)) (hv : Int32.ofInt z = v) (kk : aW E k n hp (pc + 1) L (.int v :: S)) : aW E k n hp pc L S := by
  obtain ⟨p, l, e, R, s, m, args, below, meth, c, D, dT, N0, nL, nw, ad0, Q⟩ := E
  obtain ⟨⟨hx, hb, hml, hown, hts⟩, hr, hlk, htab, hK, hZ, hnw, hst, rfl, rfl, rfl, rfl, rfl, rfl, rfl⟩ := C
  intro ad H locs ls ha hR hS hl
  exact lv_iconst hx hb hd hv (kk ad H locs ls ha hR hS hl)
theorem a_bipush (C : aC E l9 N9 D9 T9 cc own nL9 ret tab R9 nw9) {z : Int} {v : Int32} (hd : decode cc pc = .ok (.bipush z, 2)) (hv : (Int8.ofInt z).toInt32 = v) (kk : aW E k n hp (pc + 2) L (.int v :: S)) : aW E k n hp pc L S := by
  obtain ⟨p, l, e, R, s, m, args, below, meth, c, D, dT, N0, nL, nw, ad0, Q⟩ := E
  obtain ⟨⟨hx, hb, hml, hown, hts⟩, hr, hlk, htab, hK, hZ, hnw, hst, rfl, rfl, rfl, rfl, rfl, rfl, rfl⟩ := C
  intro ad H locs ls ha hR hS hl
  exact lv_bipush hx hb hd hv (kk ad H locs ls ha hR hS hl)
theorem a_sipush (C : aC E l9 N9 D9 T9 cc own nL9 ret tab R9 nw9) {z : Int} {v : Int32} (hd : decode cc pc = .ok (.sipush z, 3)) (hv : (Int16.ofInt z).toInt32 = v) (kk : aW E k n hp (pc + 3) L (.int v :: S)) : aW E k n hp pc L S := by
  obtain ⟨p, l, e, R, s, m, args, below, meth, c, D, dT, N0, nL, nw, ad0, Q⟩ := E
  obtain ⟨⟨hx, hb, hml, hown, hts⟩, hr, hlk, htab, hK, hZ, hnw, hst, rfl, rfl, rfl, rfl, rfl, rfl, rfl⟩ := C
  intro ad H locs ls ha hR hS hl
  exact lv_sipush hx hb hd hv (kk ad H locs ls ha hR hS hl)
theorem a_lconst (C : aC E l9 N9 D9 T9 cc own nL9 ret tab R9 nw9) {z : Fin 2} {v : Int64} (hd : decode cc pc = .ok (.lconst z, 1)) (hv : Int64.ofNat z = v) (kk : aW E k n hp (pc + 1) L (.long v :: S)) : aW E k n hp pc L S := by
  obtain ⟨p, l, e, R, s, m, args, below, meth, c, D, dT, N0, nL, nw, ad0, Q⟩ := E
  obtain ⟨⟨hx, hb, hml, hown, hts⟩, hr, hlk, htab, hK, hZ, hnw, hst, rfl, rfl, rfl, rfl, rfl, rfl, rfl⟩ := C
  intro ad H locs ls ha hR hS hl
  exact lv_lconst hx hb hd hv (kk ad H locs ls ha hR hS hl)
theorem a_iload_n (C : aC E l9 N9 D9 T9 cc own nL9 ret tab R9 nw9) {z : Fin 4} {i : Nat} {v : Int32} (hd : decode cc pc = .ok (.iload_n z, 1)) (hi : (z : Nat) = i) (hv : xget L i = some (.int v)) (kk : aW E k n hp (pc + 1) L (.int v :: S)) : aW E k n hp pc L S := by
  obtain ⟨p, l, e, R, s, m, args, below, meth, c, D, dT, N0, nL, nw, ad0, Q⟩ := E
  obtain ⟨⟨hx, hb, hml, hown, hts⟩, hr, hlk, htab, hK, hZ, hnw, hst, rfl, rfl, rfl, rfl, rfl, rfl, rfl⟩ := C
  intro ad H locs ls ha hR hS hl
  exact lv_iload_n hx hb hd hi (xl hl hv) (kk ad H locs ls ha hR hS hl)
theorem a_iload (C : aC E l9 N9 D9 T9 cc own nL9 ret tab R9 nw9) {i : Nat} {v : Int32} (hd : decode cc pc = .ok (.iload i, 2)) (hv : xget L i = some (.int v)) (kk : aW E k n hp (pc + 2) L (.int v :: S)) : aW E k n hp pc L S := by
  obtain ⟨p, l, e, R, s, m, args, below, meth, c, D, dT, N0, nL, nw, ad0, Q⟩ := E
  obtain ⟨⟨hx, hb, hml, hown, hts⟩, hr, hlk, htab, hK, hZ, hnw, hst, rfl, rfl, rfl, rfl, rfl, rfl, rfl⟩ := C
  intro ad H locs ls ha hR hS hl
  exact lv_iload hx hb hd (xl hl hv) (kk ad H locs ls ha hR hS hl)
theorem a_lload_n (C : aC E l9 N9 D9 T9 cc own nL9 ret tab R9 nw9) {z : Fin 4} {i : Nat} {v : Int64} (hd : decode cc pc = .ok (.lload_n z, 1)) (hi : (z : Nat) = i) (hv : xget L i = some (.long v)) (kk : aW E k n hp (pc + 1) L (.long v :: S)) : aW E k n hp pc L S := by
  obtain ⟨p, l, e, R, s, m, args, below, meth, c, D, dT, N0, nL, nw, ad0, Q⟩ := E
  obtain ⟨⟨hx, hb, hml, hown, hts⟩, hr, hlk, htab, hK, hZ, hnw, hst, rfl, rfl, rfl, rfl, rfl, rfl, rfl⟩ := C
  intro ad H locs ls ha hR hS hl
  exact lv_lload_n hx hb hd hi (xl hl hv) (kk ad H locs ls ha hR hS hl)
theorem a_lload (C : aC E l9 N9 D9 T9 cc own nL9 ret tab R9 nw9) {i : Nat} {v : Int64} (hd : decode cc pc = .ok (.lload i, 2)) (hv : xget L i = some (.long v)) (kk : aW E k n hp (pc + 2) L (.long v :: S)) : aW E k n hp pc L S := by
  obtain ⟨p, l, e, R, s, m, args, below, meth, c, D, dT, N0, nL, nw, ad0, Q⟩ := E
  obtain ⟨⟨hx, hb, hml, hown, hts⟩, hr, hlk, htab, hK, hZ, hnw, hst, rfl, rfl, rfl, rfl, rfl, rfl, rfl⟩ := C
  intro ad H locs ls ha hR hS hl
  exact lv_lload hx hb hd (xl hl hv) (kk ad H locs ls ha hR hS hl)
theorem a_aload_n (C : aC E l9 N9 D9 T9 cc own nL9 ret tab R9 nw9) {z : Fin 4} {i : Nat} {v : Nat} (hd : decode cc pc = .ok (.aload_n z, 1)) (hi : (z : Nat) = i) (hv : xget L i = some (.ref v)) (kk : aW E k n hp (pc + 1) L (.ref v :: S)) : aW E k n hp pc L S := by
  obtain ⟨p, l, e, R, s, m, args, below, meth, c, D, dT, N0, nL, nw, ad0, Q⟩ := E
  obtain ⟨⟨hx, hb, hml, hown, hts⟩, hr, hlk, htab, hK, hZ, hnw, hst, rfl, rfl, rfl, rfl, rfl, rfl, rfl⟩ := C
  intro ad H locs ls ha hR hS hl
  exact lv_aload_n hx hb hd hi (xl hl hv) (kk ad H locs ls ha hR hS hl)
theorem a_aload (C : aC E l9 N9 D9 T9 cc own nL9 ret tab R9 nw9) {i : Nat} {v : Nat} (hd : decode cc pc = .ok (.aload i, 2)) (hv : xget L i = some (.ref v)) (kk : aW E k n hp (pc + 2) L (.ref v :: S)) : aW E k n hp pc L S := by
  obtain ⟨p, l, e, R, s, m, args, below, meth, c, D, dT, N0, nL, nw, ad0, Q⟩ := E
  obtain ⟨⟨hx, hb, hml, hown, hts⟩, hr, hlk, htab, hK, hZ, hnw, hst, rfl, rfl, rfl, rfl, rfl, rfl, rfl⟩ := C
  intro ad H locs ls ha hR hS hl
  exact lv_aload hx hb hd (xl hl hv) (kk ad H locs ls ha hR hS hl)
theorem a_istore_n (C : aC E l9 N9 D9 T9 cc own nL9 ret tab R9 nw9) {z : Fin 4} {i : Nat} {v : Int32} (hd : decode cc pc = .ok (.istore_n z, 1)) (hi : (z : Nat) = i) (hn : i < nL9) (kk : aW E k n hp (pc + 1) (xset L i (.int v)) S) : aW E k n hp pc L (.int v :: S) := by
  obtain ⟨p, l, e, R, s, m, args, below, meth, c, D, dT, N0, nL, nw, ad0, Q⟩ := E
  obtain ⟨⟨hx, hb, hml, hown, hts⟩, hr, hlk, htab, hK, hZ, hnw, hst, rfl, rfl, rfl, rfl, rfl, rfl, rfl⟩ := C
  intro ad H locs ls ha hR hS hl
  exact lv_istore_n hx hb hd hi hl hn (xset_cl ad L _ (.int v)) (fun ls hl => kk ad H locs ls ha hR hS hl)
theorem a_istore (C : aC E l9 N9 D9 T9 cc own nL9 ret tab R9 nw9) {i : Nat} {v : Int32} (hd : decode cc pc = .ok (.istore i, 2)) (hn : i < nL9) (kk : aW E k n hp (pc + 2) (xset L i (.int v)) S) : aW E k n hp pc L (.int v :: S) := by
  obtain ⟨p, l, e, R, s, m, args, below, meth, c, D, dT, N0, nL, nw, ad0, Q⟩ := E
  obtain ⟨⟨hx, hb, hml, hown, hts⟩, hr, hlk, htab, hK, hZ, hnw, hst, rfl, rfl, rfl, rfl, rfl, rfl, rfl⟩ := C
  intro ad H locs ls ha hR hS hl
  exact lv_istore hx hb hd hl hn (xset_cl ad L _ (.int v)) (fun ls hl => kk ad H locs ls ha hR hS hl)
theorem a_lstore_n (C : aC E l9 N9 D9 T9 cc own nL9 ret tab R9 nw9) {z : Fin 4} {i : Nat} {v : Int64} (hd : decode cc pc = .ok (.lstore_n z, 1)) (hi : (z : Nat) = i) (hn : i + 1 < nL9) (kk : aW E k n hp (pc + 1) (xset2 L i (.long v)) S) : aW E k n hp pc L (.long v :: S) := by
  obtain ⟨p, l, e, R, s, m, args, below, meth, c, D, dT, N0, nL, nw, ad0, Q⟩ := E
  obtain ⟨⟨hx, hb, hml, hown, hts⟩, hr, hlk, htab, hK, hZ, hnw, hst, rfl, rfl, rfl, rfl, rfl, rfl, rfl⟩ := C
  intro ad H locs ls ha hR hS hl
  exact lv_lstore_n hx hb hd hi hl hn (xset2_cl ad L _ (.long v)) (fun ls hl => kk ad H locs ls ha hR hS hl)
theorem a_lstore (C : aC E l9 N9 D9 T9 cc own nL9 ret tab R9 nw9) {i : Nat} {v : Int64} (hd : decode cc pc = .ok (.lstore i, 2)) (hn : i + 1 < nL9) (kk : aW E k n hp (pc + 2) (xset2 L i (.long v)) S) : aW E k n hp pc L (.long v :: S) := by
  obtain ⟨p, l, e, R, s, m, args, below, meth, c, D, dT, N0, nL, nw, ad0, Q⟩ := E
  obtain ⟨⟨hx, hb, hml, hown, hts⟩, hr, hlk, htab, hK, hZ, hnw, hst, rfl, rfl, rfl, rfl, rfl, rfl, rfl⟩ := C
  intro ad H locs ls ha hR hS hl
  exact lv_lstore hx hb hd hl hn (xset2_cl ad L _ (.long v)) (fun ls hl => kk ad H locs ls ha hR hS hl)
theorem a_astore_n (C : aC E l9 N9 D9 T9 cc own nL9 ret tab R9 nw9) {z : Fin 4} {i : Nat} {v : Nat} (hd : decode cc pc = .ok (.astore_n z, 1)) (hi : (z : Nat) = i) (hn : i < nL9) (kk : aW E k n hp (pc + 1) (xset L i (.ref v)) S) : aW E k n hp pc L (.ref v :: S) := by
  obtain ⟨p, l, e, R, s, m, args, below, meth, c, D, dT, N0, nL, nw, ad0, Q⟩ := E
  obtain ⟨⟨hx, hb, hml, hown, hts⟩, hr, hlk, htab, hK, hZ, hnw, hst, rfl, rfl, rfl, rfl, rfl, rfl, rfl⟩ := C
  intro ad H locs ls ha hR hS hl
  exact lv_astore_n hx hb hd hi hl hn (xset_cl ad L _ (.ref v)) (fun ls hl => kk ad H locs ls ha hR hS hl)
theorem a_astore (C : aC E l9 N9 D9 T9 cc own nL9 ret tab R9 nw9) {i : Nat} {v : Nat} (hd : decode cc pc = .ok (.astore i, 2)) (hn : i < nL9) (kk : aW E k n hp (pc + 2) (xset L i (.ref v)) S) : aW E k n hp pc L (.ref v :: S) := by
  obtain ⟨p, l, e, R, s, m, args, below, meth, c, D, dT, N0, nL, nw, ad0, Q⟩ := E
  obtain ⟨⟨hx, hb, hml, hown, hts⟩, hr, hlk, htab, hK, hZ, hnw, hst, rfl, rfl, rfl, rfl, rfl, rfl, rfl⟩ := C
  intro ad H locs ls ha hR hS hl
  exact lv_astore hx hb hd hl hn (xset_cl ad L _ (.ref v)) (fun ls hl => kk ad H locs ls ha hR hS hl)
theorem a_iinc (C : aC E l9 N9 D9 T9 cc own nL9 ret tab R9 nw9) {i : Nat} {z : Int} {x v : Int32} (hd : decode cc pc = .ok (.iinc i z, 3)) (hv : xget L i = some (.int x)) (hw : x + Int32.ofInt z = v) (hn : i < nL9) (kk : aW E k n hp (pc + 3) (xset L i (.int v)) S) : aW E k n hp pc L S := by
  obtain ⟨p, l, e, R, s, m, args, below, meth, c, D, dT, N0, nL, nw, ad0, Q⟩ := E
  obtain ⟨⟨hx, hb, hml, hown, hts⟩, hr, hlk, htab, hK, hZ, hnw, hst, rfl, rfl, rfl, rfl, rfl, rfl, rfl⟩ := C
  intro ad H locs ls ha hR hS hl
  obtain ⟨j, hj⟩ := List.getElem?_of_mem (List.mem_map.mpr ⟨(i, .int x), xget_mem hv, rfl⟩ : (i, x_cv ad (.int x)) ∈ xcl ad L)
  exact lv_iinc hx hb hd hl hj hw hn (xset_cl ad L _ (.int v)) (fun ls hl => kk ad H locs ls ha hR hS hl)
theorem a_iincW (C : aC E l9 N9 D9 T9 cc own nL9 ret tab R9 nw9) {i : Nat} {z : Int} {x v : Int32} (hd : decode cc pc = .ok (.iinc i z, 6)) (hv : xget L i = some (.int x)) (hw : x + Int32.ofInt z = v) (hn : i < nL9) (kk : aW E k n hp (pc + 6) (xset L i (.int v)) S) : aW E k n hp pc L S := by
  obtain ⟨p, l, e, R, s, m, args, below, meth, c, D, dT, N0, nL, nw, ad0, Q⟩ := E
  obtain ⟨⟨hx, hb, hml, hown, hts⟩, hr, hlk, htab, hK, hZ, hnw, hst, rfl, rfl, rfl, rfl, rfl, rfl, rfl⟩ := C
  intro ad H locs ls ha hR hS hl
  obtain ⟨j, hj⟩ := List.getElem?_of_mem (List.mem_map.mpr ⟨(i, .int x), xget_mem hv, rfl⟩ : (i, x_cv ad (.int x)) ∈ xcl ad L)
  exact lv_iincW hx hb hd hl hj hw hn (xset_cl ad L _ (.int v)) (fun ls hl => kk ad H locs ls ha hR hS hl)
theorem a_iadd (C : aC E l9 N9 D9 T9 cc own nL9 ret tab R9 nw9) {x y : Int32} (hd : decode cc pc = .ok (.iadd, 1))  (kk : aW E k n hp (pc + 1) L (.int (x + y) :: S)) : aW E k n hp pc L (.int y :: .int x :: S) := by
  obtain ⟨p, l, e, R, s, m, args, below, meth, c, D, dT, N0, nL, nw, ad0, Q⟩ := E
  obtain ⟨⟨hx, hb, hml, hown, hts⟩, hr, hlk, htab, hK, hZ, hnw, hst, rfl, rfl, rfl, rfl, rfl, rfl, rfl⟩ := C
  intro ad H locs ls ha hR hS hl
  exact lv_iadd hx hb hd  (kk ad H locs ls ha hR hS hl)
theorem a_isub (C : aC E l9 N9 D9 T9 cc own nL9 ret tab R9 nw9) {x y : Int32} (hd : decode cc pc = .ok (.isub, 1))  (kk : aW E k n hp (pc + 1) L (.int (x - y) :: S)) : aW E k n hp pc L (.int y :: .int x :: S) := by
  obtain ⟨p, l, e, R, s, m, args, below, meth, c, D, dT, N0, nL, nw, ad0, Q⟩ := E
  obtain ⟨⟨hx, hb, hml, hown, hts⟩, hr, hlk, htab, hK, hZ, hnw, hst, rfl, rfl, rfl, rfl, rfl, rfl, rfl⟩ := C
  intro ad H locs ls ha hR hS hl
  exact lv_isub hx hb hd  (kk ad H locs ls ha hR hS hl)
theorem a_imul (C : aC E l9 N9 D9 T9 cc own nL9 ret tab R9 nw9) {x y : Int32} (hd : decode cc pc = .ok (.imul, 1))  (kk : aW E k n hp (pc + 1) L (.int (x * y) :: S)) : aW E k n hp pc L (.int y :: .int x :: S) := by
  obtain ⟨p, l, e, R, s, m, args, below, meth, c, D, dT, N0, nL, nw, ad0, Q⟩ := E
  obtain ⟨⟨hx, hb, hml, hown, hts⟩, hr, hlk, htab, hK, hZ, hnw, hst, rfl, rfl, rfl, rfl, rfl, rfl, rfl⟩ := C
  intro ad H locs ls ha hR hS hl
  exact lv_imul hx hb hd  (kk ad H locs ls ha hR hS hl)
theorem a_iand (C : aC E l9 N9 D9 T9 cc own nL9 ret tab R9 nw9) {x y : Int32} (hd : decode cc pc = .ok (.iand, 1))  (kk : aW E k n hp (pc + 1) L (.int (x &&& y) :: S)) : aW E k n hp pc L (.int y :: .int x :: S) := by
  obtain ⟨p, l, e, R, s, m, args, below, meth, c, D, dT, N0, nL, nw, ad0, Q⟩ := E
  obtain ⟨⟨hx, hb, hml, hown, hts⟩, hr, hlk, htab, hK, hZ, hnw, hst, rfl, rfl, rfl, rfl, rfl, rfl, rfl⟩ := C
  intro ad H locs ls ha hR hS hl
  exact lv_iand hx hb hd  (kk ad H locs ls ha hR hS hl)
theorem a_ladd (C : aC E l9 N9 D9 T9 cc own nL9 ret tab R9 nw9) {x y : Int64} (hd : decode cc pc = .ok (.ladd, 1))  (kk : aW E k n hp (pc + 1) L (.long (x + y) :: S)) : aW E k n hp pc L (.long y :: .long x :: S) := by
  obtain ⟨p, l, e, R, s, m, args, below, meth, c, D, dT, N0, nL, nw, ad0, Q⟩ := E
  obtain ⟨⟨hx, hb, hml, hown, hts⟩, hr, hlk, htab, hK, hZ, hnw, hst, rfl, rfl, rfl, rfl, rfl, rfl, rfl⟩ := C
  intro ad H locs ls ha hR hS hl
  exact lv_ladd hx hb hd  (kk ad H locs ls ha hR hS hl)
theorem a_lsub (C : aC E l9 N9 D9 T9 cc own nL9 ret tab R9 nw9) {x y : Int64} (hd : decode cc pc = .ok (.lsub, 1))  (kk : aW E k n hp (pc + 1) L (.long (x - y) :: S)) : aW E k n hp pc L (.long y :: .long x :: S) := by
  obtain ⟨p, l, e, R, s, m, args, below, meth, c, D, dT, N0, nL, nw, ad0, Q⟩ := E
  obtain ⟨⟨hx, hb, hml, hown, hts⟩, hr, hlk, htab, hK, hZ, hnw, hst, rfl, rfl, rfl, rfl, rfl, rfl, rfl⟩ := C
  intro ad H locs ls ha hR hS hl
  exact lv_lsub hx hb hd  (kk ad H locs ls ha hR hS hl)
theorem a_lmul (C : aC E l9 N9 D9 T9 cc own nL9 ret tab R9 nw9) {x y : Int64} (hd : decode cc pc = .ok (.lmul, 1))  (kk : aW E k n hp (pc + 1) L (.long (x * y) :: S)) : aW E k n hp pc L (.long y :: .long x :: S) := by
  obtain ⟨p, l, e, R, s, m, args, below, meth, c, D, dT, N0, nL, nw, ad0, Q⟩ := E
  obtain ⟨⟨hx, hb, hml, hown, hts⟩, hr, hlk, htab, hK, hZ, hnw, hst, rfl, rfl, rfl, rfl, rfl, rfl, rfl⟩ := C
  intro ad H locs ls ha hR hS hl
  exact lv_lmul hx hb hd  (kk ad H locs ls ha hR hS hl)
theorem a_idiv (C : aC E l9 N9 D9 T9 cc own nL9 ret tab R9 nw9) {x y : Int32} (hd : decode cc pc = .ok (.idiv, 1)) (hne : ¬ y = 0) (kk : aW E k n hp (pc + 1) L (.int (x / y) :: S)) : aW E k n hp pc L (.int y :: .int x :: S) := by
  obtain ⟨p, l, e, R, s, m, args, below, meth, c, D, dT, N0, nL, nw, ad0, Q⟩ := E
  obtain ⟨⟨hx, hb, hml, hown, hts⟩, hr, hlk, htab, hK, hZ, hnw, hst, rfl, rfl, rfl, rfl, rfl, rfl, rfl⟩ := C
  intro ad H locs ls ha hR hS hl
  exact lv_idiv hx hb hd hne (kk ad H locs ls ha hR hS hl)
theorem a_ldiv (C : aC E l9 N9 D9 T9 cc own nL9 ret tab R9 nw9) {x y : Int64} (hd : decode cc pc = .ok (.ldiv, 1)) (hne : ¬ y = 0) (kk : aW E k n hp (pc + 1) L (.long (x / y) :: S)) : aW E k n hp pc L (.long y :: .long x :: S) := by
  obtain ⟨p, l, e, R, s, m, args, below, meth, c, D, dT, N0, nL, nw, ad0, Q⟩ := E
  obtain ⟨⟨hx, hb, hml, hown, hts⟩, hr, hlk, htab, hK, hZ, hnw, hst, rfl, rfl, rfl, rfl, rfl, rfl, rfl⟩ := C
  intro ad H locs ls ha hR hS hl
  exact lv_ldiv hx hb hd hne (kk ad H locs ls ha hR hS hl)
theorem a_ineg (C : aC E l9 N9 D9 T9 cc own nL9 ret tab R9 nw9) {x : Int32} (hd : decode cc pc = .ok (.ineg, 1))  (kk : aW E k n hp (pc + 1) L (.int (-x) :: S)) : aW E k n hp pc L (.int x :: S) := by
  obtain ⟨p, l, e, R, s, m, args, below, meth, c, D, dT, N0, nL, nw, ad0, Q⟩ := E
  obtain ⟨⟨hx, hb, hml, hown, hts⟩, hr, hlk, htab, hK, hZ, hnw, hst, rfl, rfl, rfl, rfl, rfl, rfl, rfl⟩ := C
  intro ad H locs ls ha hR hS hl
  exact lv_ineg hx hb hd  (kk ad H locs ls ha hR hS hl)
theorem a_ishr (C : aC E l9 N9 D9 T9 cc own nL9 ret tab R9 nw9) {x y : Int32} (hd : decode cc pc = .ok (.ishr, 1))  (kk : aW E k n hp (pc + 1) L (.int (x >>> (y &&& 31)) :: S)) : aW E k n hp pc L (.int y :: .int x :: S) := by
  obtain ⟨p, l, e, R, s, m, args, below, meth, c, D, dT, N0, nL, nw, ad0, Q⟩ := E
  obtain ⟨⟨hx, hb, hml, hown, hts⟩, hr, hlk, htab, hK, hZ, hnw, hst, rfl, rfl, rfl, rfl, rfl, rfl, rfl⟩ := C
  intro ad H locs ls ha hR hS hl
  exact lv_ishr hx hb hd  (kk ad H locs ls ha hR hS hl)
theorem a_i2l (C : aC E l9 N9 D9 T9 cc own nL9 ret tab R9 nw9) {x : Int32} (hd : decode cc pc = .ok (.i2l, 1))  (kk : aW E k n hp (pc + 1) L (.long x.toInt64 :: S)) : aW E k n hp pc L (.int x :: S) := by
  obtain ⟨p, l, e, R, s, m, args, below, meth, c, D, dT, N0, nL, nw, ad0, Q⟩ := E
  obtain ⟨⟨hx, hb, hml, hown, hts⟩, hr, hlk, htab, hK, hZ, hnw, hst, rfl, rfl, rfl, rfl, rfl, rfl, rfl⟩ := C
  intro ad H locs ls ha hR hS hl
  exact lv_i2l hx hb hd rfl (kk ad H locs ls ha hR hS hl)
theorem a_l2i (C : aC E l9 N9 D9 T9 cc own nL9 ret tab R9 nw9) {x : Int64} (hd : decode cc pc = .ok (.l2i, 1))  (kk : aW E k n hp (pc + 1) L (.int x.toInt32 :: S)) : aW E k n hp pc L (.long x :: S) := by
  obtain ⟨p, l, e, R, s, m, args, below, meth, c, D, dT, N0, nL, nw, ad0, Q⟩ := E
  obtain ⟨⟨hx, hb, hml, hown, hts⟩, hr, hlk, htab, hK, hZ, hnw, hst, rfl, rfl, rfl, rfl, rfl, rfl, rfl⟩ := C
  intro ad H locs ls ha hR hS hl
  exact lv_l2i hx hb hd rfl (kk ad H locs ls ha hR hS hl)
theorem a_lrem (C : aC E l9 N9 D9 T9 cc own nL9 ret tab R9 nw9) {x y : Int64} (hd : decode cc pc = .ok (.lrem, 1)) (hne : ¬ y = 0) (kk : aW E k n hp (pc + 1) L (.long (x - x / y * y) :: S)) : aW E k n hp pc L (.long y :: .long x :: S) := by
  obtain ⟨p, l, e, R, s, m, args, below, meth, c, D, dT, N0, nL, nw, ad0, Q⟩ := E
  obtain ⟨⟨hx, hb, hml, hown, hts⟩, hr, hlk, htab, hK, hZ, hnw, hst, rfl, rfl, rfl, rfl, rfl, rfl, rfl⟩ := C
  intro ad H locs ls ha hR hS hl
  exact lv_lrem hx hb hd hne (kk ad H locs ls ha hR hS hl)
theorem a_lcmp (C : aC E l9 N9 D9 T9 cc own nL9 ret tab R9 nw9) {x y : Int64} (hd : decode cc pc = .ok (.lcmp, 1)) (kk : aW E k n hp (pc + 1) L (.int (lg_cmp x y) :: S)) : aW E k n hp pc L (.long y :: .long x :: S) := by
  obtain ⟨p, l, e, R, s, m, args, below, meth, c, D, dT, N0, nL, nw, ad0, Q⟩ := E
  obtain ⟨⟨hx, hb, hml, hown, hts⟩, hr, hlk, htab, hK, hZ, hnw, hst, rfl, rfl, rfl, rfl, rfl, rfl, rfl⟩ := C
  intro ad H locs ls ha hR hS hl
  exact W.lcmp hx hb hd (kk ad H locs ls ha hR hS hl)
theorem a_dup (C : aC E l9 N9 D9 T9 cc own nL9 ret tab R9 nw9) {v : Value} (hd : decode cc pc = .ok (.dup, 1)) (hv : v.category = 1) (kk : aW E k n hp (pc + 1) L (v :: v :: S)) : aW E k n hp pc L (v :: S) := by
  obtain ⟨p, l, e, R, s, m, args, below, meth, c, D, dT, N0, nL, nw, ad0, Q⟩ := E
  obtain ⟨⟨hx, hb, hml, hown, hts⟩, hr, hlk, htab, hK, hZ, hnw, hst, rfl, rfl, rfl, rfl, rfl, rfl, rfl⟩ := C
  intro ad H locs ls ha hR hS hl
  exact lv_dup hx hb hd ((x_cv_cat ad v).trans hv) (kk ad H locs ls ha hR hS hl)
theorem a_pop (C : aC E l9 N9 D9 T9 cc own nL9 ret tab R9 nw9) {v : Value} (hd : decode cc pc = .ok (.pop, 1)) (hv : v.category = 1) (kk : aW E k n hp (pc + 1) L S) : aW E k n hp pc L (v :: S) := by
  obtain ⟨p, l, e, R, s, m, args, below, meth, c, D, dT, N0, nL, nw, ad0, Q⟩ := E
  obtain ⟨⟨hx, hb, hml, hown, hts⟩, hr, hlk, htab, hK, hZ, hnw, hst, rfl, rfl, rfl, rfl, rfl, rfl, rfl⟩ := C
  intro ad H locs ls ha hR hS hl
  exact lv_pop hx hb hd ((x_cv_cat ad v).trans hv) (kk ad H locs ls ha hR hS hl)
theorem a_dup_x1 (C : aC E l9 N9 D9 T9 cc own nL9 ret tab R9 nw9) {v w : Value} (hd : decode cc pc = .ok (.dup_x1, 1)) (hv : v.category = 1) (hw : w.category = 1) (kk : aW E k n hp (pc + 1) L (v :: w :: v :: S)) : aW E k n hp pc L (v :: w :: S) := by
  obtain ⟨p, l, e, R, s, m, args, below, meth, c, D, dT, N0, nL, nw, ad0, Q⟩ := E
  obtain ⟨⟨hx, hb, hml, hown, hts⟩, hr, hlk, htab, hK, hZ, hnw, hst, rfl, rfl, rfl, rfl, rfl, rfl, rfl⟩ := C
  intro ad H locs ls ha hR hS hl
  exact lv_dup_x1 hx hb hd ((x_cv_cat ad v).trans hv) ((x_cv_cat ad w).trans hw) (kk ad H locs ls ha hR hS hl)
theorem a_dup2 (C : aC E l9 N9 D9 T9 cc own nL9 ret tab R9 nw9) {v w : Value} (hd : decode cc pc = .ok (.dup2, 1)) (hv : v.category = 1) (hw : w.category = 1) (kk : aW E k n hp (pc + 1) L (v :: w :: v :: w :: S)) : aW E k n hp pc L (v :: w :: S) := by
  obtain ⟨p, l, e, R, s, m, args, below, meth, c, D, dT, N0, nL, nw, ad0, Q⟩ := E
  obtain ⟨⟨hx, hb, hml, hown, hts⟩, hr, hlk, htab, hK, hZ, hnw, hst, rfl, rfl, rfl, rfl, rfl, rfl, rfl⟩ := C
  intro ad H locs ls ha hR hS hl
  exact lv_dup2_11 hx hb hd ((x_cv_cat ad v).trans hv) ((x_cv_cat ad w).trans hw) (kk ad H locs ls ha hR hS hl)
theorem a_null (C : aC E l9 N9 D9 T9 cc own nL9 ret tab R9 nw9)  (hd : decode cc pc = .ok (.aconst_null, 1))  (kk : aW E k n hp (pc + 1) L (.null :: S)) : aW E k n hp pc L S := by
  obtain ⟨p, l, e, R, s, m, args, below, meth, c, D, dT, N0, nL, nw, ad0, Q⟩ := E
  obtain ⟨⟨hx, hb, hml, hown, hts⟩, hr, hlk, htab, hK, hZ, hnw, hst, rfl, rfl, rfl, rfl, rfl, rfl, rfl⟩ := C
  intro ad H locs ls ha hR hS hl
  exact lv_null hx hb hd  (kk ad H locs ls ha hR hS hl)
theorem a_if_eq (C : aC E l9 N9 D9 T9 cc own nL9 ret tab R9 nw9) {x : Int32} {off : Int} {tgt : Nat} (hd : decode cc pc = .ok (.ifCond .eq off, 3)) (ht : (pc : Int) + off = (tgt : Int)) (kt : x = 0 → aW E k n hp tgt L S) (kf : ¬ x = 0 → aW E k n hp (pc + 3) L S) : aW E k n hp pc L (.int x :: S) := by
  obtain ⟨p, l, e, R, s, m, args, below, meth, c, D, dT, N0, nL, nw, ad0, Q⟩ := E
  obtain ⟨⟨hx, hb, hml, hown, hts⟩, hr, hlk, htab, hK, hZ, hnw, hst, rfl, rfl, rfl, rfl, rfl, rfl, rfl⟩ := C
  intro ad H locs ls ha hR hS hl
  exact lv_if_eq hx hb hd ht (fun c => kt c ad H locs ls ha hR hS hl) (fun c => kf c ad H locs ls ha hR hS hl)
theorem a_icmp_eq (C : aC E l9 N9 D9 T9 cc own nL9 ret tab R9 nw9) {x y : Int32} {off : Int} {tgt : Nat} (hd : decode cc pc = .ok (.if_icmp .eq off, 3)) (ht : (pc : Int) + off = (tgt : Int)) (kt : x = y → aW E k n hp tgt L S) (kf : ¬ x = y → aW E k n hp (pc + 3) L S) : aW E k n hp pc L (.int y :: .int x :: S) := by
  obtain ⟨p, l, e, R, s, m, args, below, meth, c, D, dT, N0, nL, nw, ad0, Q⟩ := E
  obtain ⟨⟨hx, hb, hml, hown, hts⟩, hr, hlk, htab, hK, hZ, hnw, hst, rfl, rfl, rfl, rfl, rfl, rfl, rfl⟩ := C
  intro ad H locs ls ha hR hS hl
  exact lv_icmp_eq hx hb hd ht (fun c => kt c ad H locs ls ha hR hS hl) (fun c => kf c ad H locs ls ha hR hS hl)
theorem a_if_ne (C : aC E l9 N9 D9 T9 cc own nL9 ret tab R9 nw9) {x : Int32} {off : Int} {tgt : Nat} (hd : decode cc pc = .ok (.ifCond .ne off, 3)) (ht : (pc : Int) + off = (tgt : Int)) (kt : ¬ x = 0 → aW E k n hp tgt L S) (kf : x = 0 → aW E k n hp (pc + 3) L S) : aW E k n hp pc L (.int x :: S) := by
  obtain ⟨p, l, e, R, s, m, args, below, meth, c, D, dT, N0, nL, nw, ad0, Q⟩ := E
  obtain ⟨⟨hx, hb, hml, hown, hts⟩, hr, hlk, htab, hK, hZ, hnw, hst, rfl, rfl, rfl, rfl, rfl, rfl, rfl⟩ := C
  intro ad H locs ls ha hR hS hl
  exact lv_if_ne hx hb hd ht (fun c => kt c ad H locs ls ha hR hS hl) (fun c => kf c ad H locs ls ha hR hS hl)
theorem a_icmp_ne (C : aC E l9 N9 D9 T9 cc own nL9 ret tab R9 nw9) {x y : Int32} {off : Int} {tgt : Nat} (hd : decode cc pc = .ok (.if_icmp .ne off, 3)) (ht : (pc : Int) + off = (tgt : Int)) (kt : ¬ x = y → aW E k n hp tgt L S) (kf : x = y → aW E k n hp (pc + 3) L S) : aW E k n hp pc L (.int y :: .int x :: S) := by
  obtain ⟨p, l, e, R, s, m, args, below, meth, c, D, dT, N0, nL, nw, ad0, Q⟩ := E
  obtain ⟨⟨hx, hb, hml, hown, hts⟩, hr, hlk, htab, hK, hZ, hnw, hst, rfl, rfl, rfl, rfl, rfl, rfl, rfl⟩ := C
  intro ad H locs ls ha hR hS hl
  exact lv_icmp_ne hx hb hd ht (fun c => kt c ad H locs ls ha hR hS hl) (fun c => kf c ad H locs ls ha hR hS hl)
theorem a_if_lt (C : aC E l9 N9 D9 T9 cc own nL9 ret tab R9 nw9) {x : Int32} {off : Int} {tgt : Nat} (hd : decode cc pc = .ok (.ifCond .lt off, 3)) (ht : (pc : Int) + off = (tgt : Int)) (kt : x < 0 → aW E k n hp tgt L S) (kf : ¬ x < 0 → aW E k n hp (pc + 3) L S) : aW E k n hp pc L (.int x :: S) := by
  obtain ⟨p, l, e, R, s, m, args, below, meth, c, D, dT, N0, nL, nw, ad0, Q⟩ := E
  obtain ⟨⟨hx, hb, hml, hown, hts⟩, hr, hlk, htab, hK, hZ, hnw, hst, rfl, rfl, rfl, rfl, rfl, rfl, rfl⟩ := C
  intro ad H locs ls ha hR hS hl
  exact lv_if_lt hx hb hd ht (fun c => kt c ad H locs ls ha hR hS hl) (fun c => kf c ad H locs ls ha hR hS hl)
theorem a_icmp_lt (C : aC E l9 N9 D9 T9 cc own nL9 ret tab R9 nw9) {x y : Int32} {off : Int} {tgt : Nat} (hd : decode cc pc = .ok (.if_icmp .lt off, 3)) (ht : (pc : Int) + off = (tgt : Int)) (kt : x < y → aW E k n hp tgt L S) (kf : ¬ x < y → aW E k n hp (pc + 3) L S) : aW E k n hp pc L (.int y :: .int x :: S) := by
  obtain ⟨p, l, e, R, s, m, args, below, meth, c, D, dT, N0, nL, nw, ad0, Q⟩ := E
  obtain ⟨⟨hx, hb, hml, hown, hts⟩, hr, hlk, htab, hK, hZ, hnw, hst, rfl, rfl, rfl, rfl, rfl, rfl, rfl⟩ := C
  intro ad H locs ls ha hR hS hl
  exact lv_icmp_lt hx hb hd ht (fun c => kt c ad H locs ls ha hR hS hl) (fun c => kf c ad H locs ls ha hR hS hl)
theorem a_if_ge (C : aC E l9 N9 D9 T9 cc own nL9 ret tab R9 nw9) {x : Int32} {off : Int} {tgt : Nat} (hd : decode cc pc = .ok (.ifCond .ge off, 3)) (ht : (pc : Int) + off = (tgt : Int)) (kt : 0 ≤ x → aW E k n hp tgt L S) (kf : ¬ 0 ≤ x → aW E k n hp (pc + 3) L S) : aW E k n hp pc L (.int x :: S) := by
  obtain ⟨p, l, e, R, s, m, args, below, meth, c, D, dT, N0, nL, nw, ad0, Q⟩ := E
  obtain ⟨⟨hx, hb, hml, hown, hts⟩, hr, hlk, htab, hK, hZ, hnw, hst, rfl, rfl, rfl, rfl, rfl, rfl, rfl⟩ := C
  intro ad H locs ls ha hR hS hl
  exact lv_if_ge hx hb hd ht (fun c => kt c ad H locs ls ha hR hS hl) (fun c => kf c ad H locs ls ha hR hS hl)
theorem a_icmp_ge (C : aC E l9 N9 D9 T9 cc own nL9 ret tab R9 nw9) {x y : Int32} {off : Int} {tgt : Nat} (hd : decode cc pc = .ok (.if_icmp .ge off, 3)) (ht : (pc : Int) + off = (tgt : Int)) (kt : y ≤ x → aW E k n hp tgt L S) (kf : ¬ y ≤ x → aW E k n hp (pc + 3) L S) : aW E k n hp pc L (.int y :: .int x :: S) := by
  obtain ⟨p, l, e, R, s, m, args, below, meth, c, D, dT, N0, nL, nw, ad0, Q⟩ := E
  obtain ⟨⟨hx, hb, hml, hown, hts⟩, hr, hlk, htab, hK, hZ, hnw, hst, rfl, rfl, rfl, rfl, rfl, rfl, rfl⟩ := C
  intro ad H locs ls ha hR hS hl
  exact lv_icmp_ge hx hb hd ht (fun c => kt c ad H locs ls ha hR hS hl) (fun c => kf c ad H locs ls ha hR hS hl)
theorem a_if_gt (C : aC E l9 N9 D9 T9 cc own nL9 ret tab R9 nw9) {x : Int32} {off : Int} {tgt : Nat} (hd : decode cc pc = .ok (.ifCond .gt off, 3)) (ht : (pc : Int) + off = (tgt : Int)) (kt : 0 < x → aW E k n hp tgt L S) (kf : ¬ 0 < x → aW E k n hp (pc + 3) L S) : aW E k n hp pc L (.int x :: S) := by
  obtain ⟨p, l, e, R, s, m, args, below, meth, c, D, dT, N0, nL, nw, ad0, Q⟩ := E
  obtain ⟨⟨hx, hb, hml, hown, hts⟩, hr, hlk, htab, hK, hZ, hnw, hst, rfl, rfl, rfl, rfl, rfl, rfl, rfl⟩ := C
  intro ad H locs ls ha hR hS hl
  exact lv_if_gt hx hb hd ht (fun c => kt c ad H locs ls ha hR hS hl) (fun c => kf c ad H locs ls ha hR hS hl)
theorem a_icmp_gt (C : aC E l9 N9 D9 T9 cc own nL9 ret tab R9 nw9) {x y : Int32} {off : Int} {tgt : Nat} (hd : decode cc pc = .ok (.if_icmp .gt off, 3)) (ht : (pc : Int) + off = (tgt : Int)) (kt : y < x → aW E k n hp tgt L S) (kf : ¬ y < x → aW E k n hp (pc + 3) L S) : aW E k n hp pc L (.int y :: .int x :: S) := by
  obtain ⟨p, l, e, R, s, m, args, below, meth, c, D, dT, N0, nL, nw, ad0, Q⟩ := E
  obtain ⟨⟨hx, hb, hml, hown, hts⟩, hr, hlk, htab, hK, hZ, hnw, hst, rfl, rfl, rfl, rfl, rfl, rfl, rfl⟩ := C
  intro ad H locs ls ha hR hS hl
  exact lv_icmp_gt hx hb hd ht (fun c => kt c ad H locs ls ha hR hS hl) (fun c => kf c ad H locs ls ha hR hS hl)
theorem a_if_le (C : aC E l9 N9 D9 T9 cc own nL9 ret tab R9 nw9) {x : Int32} {off : Int} {tgt : Nat} (hd : decode cc pc = .ok (.ifCond .le off, 3)) (ht : (pc : Int) + off = (tgt : Int)) (kt : x ≤ 0 → aW E k n hp tgt L S) (kf : ¬ x ≤ 0 → aW E k n hp (pc + 3) L S) : aW E k n hp pc L (.int x :: S) := by
  obtain ⟨p, l, e, R, s, m, args, below, meth, c, D, dT, N0, nL, nw, ad0, Q⟩ := E
  obtain ⟨⟨hx, hb, hml, hown, hts⟩, hr, hlk, htab, hK, hZ, hnw, hst, rfl, rfl, rfl, rfl, rfl, rfl, rfl⟩ := C
  intro ad H locs ls ha hR hS hl
  exact lv_if_le hx hb hd ht (fun c => kt c ad H locs ls ha hR hS hl) (fun c => kf c ad H locs ls ha hR hS hl)
theorem a_icmp_le (C : aC E l9 N9 D9 T9 cc own nL9 ret tab R9 nw9) {x y : Int32} {off : Int} {tgt : Nat} (hd : decode cc pc = .ok (.if_icmp .le off, 3)) (ht : (pc : Int) + off = (tgt : Int)) (kt : x ≤ y → aW E k n hp tgt L S) (kf : ¬ x ≤ y → aW E k n hp (pc + 3) L S) : aW E k n hp pc L (.int y :: .int x :: S) := by
  obtain ⟨p, l, e, R, s, m, args, below, meth, c, D, dT, N0, nL, nw, ad0, Q⟩ := E
  obtain ⟨⟨hx, hb, hml, hown, hts⟩, hr, hlk, htab, hK, hZ, hnw, hst, rfl, rfl, rfl, rfl, rfl, rfl, rfl⟩ := C
  intro ad H locs ls ha hR hS hl
  exact lv_icmp_le hx hb hd ht (fun c => kt c ad H locs ls ha hR hS hl) (fun c => kf c ad H locs ls ha hR hS hl)
theorem a_goto (C : aC E l9 N9 D9 T9 cc own nL9 ret tab R9 nw9) {off : Int} {tgt : Nat} (hd : decode cc pc = .ok (.goto off, 3)) (ht : (pc : Int) + off = (tgt : Int)) (kk : aW E k n hp tgt L S) : aW E k n hp pc L S := by
  obtain ⟨p, l, e, R, s, m, args, below, meth, c, D, dT, N0, nL, nw, ad0, Q⟩ := E
  obtain ⟨⟨hx, hb, hml, hown, hts⟩, hr, hlk, htab, hK, hZ, hnw, hst, rfl, rfl, rfl, rfl, rfl, rfl, rfl⟩ := C
  intro ad H locs ls ha hR hS hl
  exact lv_goto hx hb hd ht (kk ad H locs ls ha hR hS hl)
theorem a_ldc2 (C : aC E l9 N9 D9 T9 cc own nL9 ret tab R9 nw9) {index : Nat} {v : Int64} (hd : decode cc pc = .ok (.ldc2_w index, 3)) (hw : Cond.constantLong own index v ∈ xTB) (kk : aW E k n hp (pc + 3) L (.long v :: S)) : aW E k n hp pc L S := by
  obtain ⟨p, l, e, R, s, m, args, below, meth, c, D, dT, N0, nL, nw, ad0, Q⟩ := E
  obtain ⟨⟨hx, hb, hml, hown, hts⟩, hr, hlk, htab, hK, hZ, hnw, hst, rfl, rfl, rfl, rfl, rfl, rfl, rfl⟩ := C
  intro ad H locs ls ha hR hS hl
  exact lv_ldc2 hx hb hown (hts _ hw) hd (kk ad H locs ls ha hR hS hl)
theorem a_ldc (C : aC E l9 N9 D9 T9 cc own nL9 ret tab R9 nw9) {index : Nat} {v : Int32} (hd : decode cc pc = .ok (.ldc index, 2)) (hw : Cond.constant own index v ∈ xTB) (kk : aW E k n hp (pc + 2) L (.int v :: S)) : aW E k n hp pc L S := by
  obtain ⟨p, l, e, R, s, m, args, below, meth, c, D, dT, N0, nL, nw, ad0, Q⟩ := E
  obtain ⟨⟨hx, hb, hml, hown, hts⟩, hr, hlk, htab, hK, hZ, hnw, hst, rfl, rfl, rfl, rfl, rfl, rfl, rfl⟩ := C
  intro ad H locs ls ha hR hS hl
  exact lv_ldc hx hb hown (hts _ hw) hd (kk ad H locs ls ha hR hS hl)
theorem a_ldcw (C : aC E l9 N9 D9 T9 cc own nL9 ret tab R9 nw9) {index : Nat} {v : Int32} (hd : decode cc pc = .ok (.ldc_w index, 3)) (hw : Cond.constant own index v ∈ xTB) (kk : aW E k n hp (pc + 3) L (.int v :: S)) : aW E k n hp pc L S := by
  obtain ⟨p, l, e, R, s, m, args, below, meth, c, D, dT, N0, nL, nw, ad0, Q⟩ := E
  obtain ⟨⟨hx, hb, hml, hown, hts⟩, hr, hlk, htab, hK, hZ, hnw, hst, rfl, rfl, rfl, rfl, rfl, rfl, rfl⟩ := C
  intro ad H locs ls ha hR hS hl
  exact lv_ldcw hx hb hown (hts _ hw) hd (kk ad H locs ls ha hR hS hl)
end XROWS
