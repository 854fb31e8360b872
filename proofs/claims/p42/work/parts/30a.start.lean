/-! THE CLAIM OUT OF ONE WALK OF THE LAW'S BODY. Your part is whole_start (and what it stands on); all else here is the same for every law, but numbers. -/
def R_law : String := "ReceivablesBookLaw"
def lw_P (b : Addr) (xs : List Int32) (args : Array Value) (s : State) : Prop := args = #[.ref b] ∧ s.IntsAt b xs ∧ xs.length ≤ 260 ∧ (Jvm.Cond.and given_1 narrow_1).before args s = true
def lw_Q (_ : Array Value) (s : State) (o : Outcome) (t : State) : Prop := o = .returned (some (.int 1)) ∧ Framed s o t [] 600130 7301080
def lw_Z (below : List Frame) (a : Array Value) (s : State) : State → Prop := fun t => ∃ o, t.status = .running ∧ Ended t below o ∧ lw_Q a s o t
/-- the law's own end, with 1 on the stack, nothing written that was there before, its room as the claim has it -/
theorem lw_ret {p : Program} {l : Launch} {e : Env} {s : State} {m : MethodId} {below : List Frame} {meth : Method} {c : Code} {b : Nat} (hx : p.tables.exec = Jvm.exec) (hb : c.code = code) (hr : meth.sig.returnType = ret) (hlocks : meth.locks = false) {pc : Nat} {H : Heap} {ls : Array Slot} (hdg : decode code pc = .ok (.ireturn, 1)) : W p l e room_1 s m #[Value.ref b] below meth c H [] 600130 7301080 (lw_Z below #[Value.ref b] s) (F0 m pc ls [.int 1]) := by
  intro T hT X
  obtain ⟨fs, hret, hrun, hended, hW, hframe⟩ := X.leave (v := some (.int 1)) (hlocks := hlocks) (fun h => by rw [hr] at h; cases h)
  have hmeth' : T.vm.method? m = some meth := X.method'
  refine ⟨T.setFrames fs, ?_, .returned (some (.int 1)), hrun, hended, rfl, ⟨_, rfl⟩, hW, hframe⟩
  jvm_step X.here [X.here.top, hx, hb, hdg, hmeth', hr, ret, narrow_b1]
  (try refine ⟨rfl, ?_⟩); (try refine ⟨rfl, ?_⟩)
  first | (intro acts; rw [hret _ acts rfl rfl rfl]) | rw [hret _ _ rfl rfl rfl]
  exact Steps.refl _
/-- what holds at the law's entry: the machine, the code, the tables' words (any of lw_tbl by 'hts w (by decide +kernel)'), the script of L ints xs at the cell b, what the Statement gives of the start (any of its parts by flat_of_before) -/
def lw_At (p : Program) (s : State) (m : MethodId) (meth : Method) (c : Code) (b L : Nat) (xs : Nat → Int32) : Prop :=
  p.tables.exec = Jvm.exec ∧ c.code = code ∧ meth.sig.returnType = ret ∧ c.maxLocals = 22 ∧ s.vm.findClass R_law = some m.cls ∧ (∀ w ∈ lw_tbl, w.before #[Value.ref b] s = true) ∧ va_X b L xs s s.heap ∧ b < s.heap.size ∧ meth.locks = false ∧ (Jvm.Cond.and given_1 narrow_1).before #[Value.ref b] s = true
-- ===== YOUR PART BEGINS =====
/-- a row's own length, of a term that names one of a known length -/
theorem k_arr {args : Array Value} {s : State} {tm : Term} {N : Nat} (hN : N < 2 ^ 31) (hlen : (Term.length tm).eval args s none [] s = some (.int (Int32.ofNat N))) : ∃ (t : Nat) (cell : Cell), tm.eval args s none [] s = some (.ref t) ∧ s.heap[t]? = some cell ∧ cell.slots.size = N := by
  obtain ⟨t, cell, ht, harr, hv⟩ := Term.length_spec hlen
  have hsz : cell.slots.size < 2 ^ 31 := by
    have hv2 := hlen
    simp only [Term.eval, ht, harr, Option.bind_eq_bind, Option.bind_some] at hv2
    by_cases hlt : cell.slots.size < 2147483648
    · exact hlt
    · simp [hlt] at hv2
  have e : Int32.ofNat N = Int32.ofNat cell.slots.size := Value.int.inj hv
  have e2 := congrArg Int32.toInt e
  rw [Int32.toInt_ofNat_small hsz, Int32.toInt_ofNat_small hN] at e2
  exact ⟨t, cell, ht, (State.arrayAt?_spec harr).1, (Int.ofNat.inj e2).symm⟩
theorem k_tof {args : Array Value} {s : State} {tm : Term} {ty : FieldType} {N : Nat} {f : Nat → Value} (hN : N < 2 ^ 31) (harr : (Cond.arrayOf tm ty).before args s = true) (hlen : (Term.length tm).eval args s none [] s = some (.int (Int32.ofNat N))) (hel : ∀ j : Nat, j < N → (Term.elem tm (.int (Int32.ofNat j))).eval args s none [] s = some (f j)) : ∃ (t : Nat) (cell : Cell), tm.eval args s none [] s = some (.ref t) ∧ s.heap[t]? = some cell ∧ s.isArrayOf cell ty ∧ cell.vm ≠ .unknown ∧ cell.slots.size = N ∧ (∀ j : Nat, j < N → cell.slots[j]? = some (f j)) := by
  obtain ⟨t, h1, cell, h2, h3, h4, -, -, h5, -⟩ := va_Tof (A := fun _ => False) hN harr hlen hel (fun _ _ z => z)
  obtain ⟨t', cell', g1, g2, g3⟩ := k_arr hN hlen
  cases h1.symm.trans g1
  cases h2.symm.trans g2
  exact ⟨t, cell, h1, h2, h3, h4, g3, h5⟩
theorem k_tys {s : State} {args : Array Value} (h0 : (Cond.arrayClass .int).before args s = true) (h1 : (Cond.arrayClass .long).before args s = true) (h2 : (Cond.arrayClass .byte).before args s = true) (h3 : (Cond.arrayOver (.object "java/lang/Object")).before args s = true) : ∃ dT : Nat → ClassId, ∀ (k : Nat) (q : ClassId × FieldType), (xtys dT)[k]? = some q → ArrOfT s q.1 q.2 ∧ va_RA s q.1 q.2 := by
  obtain ⟨c0, k0, p0, a0, b0, d0⟩ := Cond.arrayClass_spec h0
  obtain ⟨c1, k1, p1, a1, b1, d1⟩ := Cond.arrayClass_spec h1
  obtain ⟨c2, k2, p2, a2, b2, d2⟩ := Cond.arrayClass_spec h2
  obtain ⟨p3, c3, k3, e3, -, b3, d3, a3⟩ := Cond.arrayOver_spec h3
  refine ⟨fun k => if k = 0 then c0 else if k = 1 then c1 else if k = 2 then c2 else c3, ?_⟩
  intro k q hq
  match k, hq with
  | 0, hq => cases hq; exact ⟨fun n z => ⟨fun k h => (by cases h), k0, b0, p0, d0⟩, a0⟩
  | 1, hq => cases hq; exact ⟨fun n z => ⟨fun k h => (by cases h), k1, b1, p1, d1⟩, a1⟩
  | 2, hq => cases hq; exact ⟨fun n z => ⟨fun k h => (by cases h), k2, b2, p2, d2⟩, a2⟩
  | 3, hq => cases hq; exact ⟨fun n z => ⟨fun k h => (by cases h), k3, b3, p3, d3⟩, ⟨k3, p3, b3, d3, e3, a3⟩⟩
  | k + 4, hq => exact absurd hq (by simp [xtys])
theorem k_cls {s : State} {args : Array Value} (hts : ∀ w ∈ xTB, w.before args s = true) : ∃ D : va_G, ∀ (k : Nat) (q : vw_C), vwCl[k]? = some q → u_Kn s q.1 q.2.1 q.2.2 (D.1 k) (D.2 k) := by
  obtain ⟨c0, i0, h0⟩ := u_known (C := RJx4a65c) (T := TJx4a65c) (N := 3) (n := 3) hts in_Jx4a65c (hts _ tb55)
  obtain ⟨c1, i1, h1⟩ := u_known (C := RX0) (T := TX0) (N := 4) (n := 4) hts in_X0 (hts _ tb259)
  obtain ⟨c2, i2, h2⟩ := u_known (C := RX2) (T := TX2) (N := 10) (n := 10) hts in_X2 (hts _ tb441)
  obtain ⟨c3, i3, h3⟩ := u_known (C := RX3) (T := TX3) (N := 3) (n := 3) hts in_X3 (hts _ tb81)
  obtain ⟨c4, i4, h4⟩ := u_known (C := RX4) (T := TX4) (N := 5) (n := 5) hts in_X4 (hts _ tb805)
  obtain ⟨c5, i5, h5⟩ := u_known (C := RX5) (T := TX5) (N := 3) (n := 3) hts in_X5 (hts _ tb99)
  obtain ⟨c6, i6, h6⟩ := u_known (C := RX6) (T := TX6) (N := 6) (n := 6) hts in_X6 (hts _ tb47)
  refine ⟨(fun k => if k = 0 then c0 else if k = 1 then c1 else if k = 2 then c2 else if k = 3 then c3 else if k = 4 then c4 else if k = 5 then c5 else c6, fun k => if k = 0 then i0 else if k = 1 then i1 else if k = 2 then i2 else if k = 3 then i3 else if k = 4 then i4 else if k = 5 then i5 else i6), ?_⟩
  intro k q hq
  match k, hq with
  | 0, hq => cases hq; exact h0
  | 1, hq => cases hq; exact h1
  | 2, hq => cases hq; exact h2
  | 3, hq => cases hq; exact h3
  | 4, hq => cases hq; exact h4
  | 5, hq => cases hq; exact h5
  | 6, hq => cases hq; exact h6
  | k + 7, hq => exact absurd hq (by simp [vwCl])
set_option maxHeartbeats 4000000 in
set_option maxRecDepth 100000 in
/-- THE LAW, from its entry -/
theorem whole_start {p : Program} {e : Env} {s : State} {m : MethodId} {below : List Frame} {meth : Method} {c : Code} (l : Launch) (hflags : l.flags = flags0) {b L : Nat} {xs : Nat → Int32} (hL : L ≤ 260) (C0 : lw_At p s m meth c b L xs) : W p l e room_1 s m #[Value.ref b] below meth c s.heap [] 0 0 (lw_Z below #[Value.ref b] s) (entryFrame m ([Value.ref b] : List Value).toArray 22) := by
  obtain ⟨hx, hb, hr, hml, hown, hts, hX, hbl, hlocks, hgv⟩ := C0
  have hst : l.stackTraces = false := by
    unfold Launch.stackTraces
    rw [hflags]
    decide +kernel
  have hs := flat_of_before _ hgv
  have htsB : ∀ w ∈ xTB, w.before #[Value.ref b] s = true := fun w hw => hts w (xtb_tbl hw)
  obtain ⟨D, hD⟩ := k_cls htsB
  obtain ⟨dT, hdT⟩ := k_tys (htsB _ tb97) (htsB _ tb114) (htsB _ tb238) (hts (.arrayOver (.object "java/lang/Object")) (List.mem_of_getElem? (i := 329) (by decide +kernel)))
  have hK : xK D dT s := ⟨hD, hdT⟩
  have hA : ∀ a : Nat, a < s.heap.size → ¬ (fun q : Nat => s.heap.size ≤ q) a := fun a h => Nat.not_le.mpr h
  have hlt : ∀ (t : Nat) (cell : Cell), s.heap[t]? = some cell → t < s.heap.size := fun t cell h => (Array.getElem?_eq_some_iff.mp h).1
  obtain ⟨t0, ce0, m1, m2, m3, m4, m5, m6⟩ := k_tof (N := 12) (ty := .int) (f := fun j => .int (xMonths j)) (tm := (.static "ReceivablesBook$DayCount" "MONTH_DAYS" "[I")) (by decide) (hs (.arrayOf (.static "ReceivablesBook$DayCount" "MONTH_DAYS" "[I") .int) (by decide +kernel)) (va_eqt (hs (.eq (.length (.static "ReceivablesBook$DayCount" "MONTH_DAYS" "[I")) (.int 12)) (by decide +kernel))) (fun j hj => by
    match j, hj with
    | 0, _ => exact va_eqt (z := 31) (hs (.eq (.elem (.static "ReceivablesBook$DayCount" "MONTH_DAYS" "[I") (.int 0)) (.int 31)) (by decide +kernel))
    | 1, _ => exact va_eqt (z := 28) (hs (.eq (.elem (.static "ReceivablesBook$DayCount" "MONTH_DAYS" "[I") (.int 1)) (.int 28)) (by decide +kernel))
    | 2, _ => exact va_eqt (z := 31) (hs (.eq (.elem (.static "ReceivablesBook$DayCount" "MONTH_DAYS" "[I") (.int 2)) (.int 31)) (by decide +kernel))
    | 3, _ => exact va_eqt (z := 30) (hs (.eq (.elem (.static "ReceivablesBook$DayCount" "MONTH_DAYS" "[I") (.int 3)) (.int 30)) (by decide +kernel))
    | 4, _ => exact va_eqt (z := 31) (hs (.eq (.elem (.static "ReceivablesBook$DayCount" "MONTH_DAYS" "[I") (.int 4)) (.int 31)) (by decide +kernel))
    | 5, _ => exact va_eqt (z := 30) (hs (.eq (.elem (.static "ReceivablesBook$DayCount" "MONTH_DAYS" "[I") (.int 5)) (.int 30)) (by decide +kernel))
    | 6, _ => exact va_eqt (z := 31) (hs (.eq (.elem (.static "ReceivablesBook$DayCount" "MONTH_DAYS" "[I") (.int 6)) (.int 31)) (by decide +kernel))
    | 7, _ => exact va_eqt (z := 31) (hs (.eq (.elem (.static "ReceivablesBook$DayCount" "MONTH_DAYS" "[I") (.int 7)) (.int 31)) (by decide +kernel))
    | 8, _ => exact va_eqt (z := 30) (hs (.eq (.elem (.static "ReceivablesBook$DayCount" "MONTH_DAYS" "[I") (.int 8)) (.int 30)) (by decide +kernel))
    | 9, _ => exact va_eqt (z := 31) (hs (.eq (.elem (.static "ReceivablesBook$DayCount" "MONTH_DAYS" "[I") (.int 9)) (.int 31)) (by decide +kernel))
    | 10, _ => exact va_eqt (z := 30) (hs (.eq (.elem (.static "ReceivablesBook$DayCount" "MONTH_DAYS" "[I") (.int 10)) (.int 30)) (by decide +kernel))
    | 11, _ => exact va_eqt (z := 31) (hs (.eq (.elem (.static "ReceivablesBook$DayCount" "MONTH_DAYS" "[I") (.int 11)) (.int 31)) (by decide +kernel))
    | j + 12, hj => exact absurd hj (by omega))
  obtain ⟨t1, ce1, n1, n2, n3, n4, n5, -⟩ := k_tof (N := 0) (ty := .object "java/lang/Object") (f := fun j => .int 0) (tm := (.static "java/util/ArrayList" "DEFAULTCAPACITY_EMPTY_ELEMENTDATA" "[Ljava/lang/Object;")) (by decide) (hs (.arrayOf (.static "java/util/ArrayList" "DEFAULTCAPACITY_EMPTY_ELEMENTDATA" "[Ljava/lang/Object;") (.object "java/lang/Object")) (by decide +kernel)) (va_eqt (hs (.eq (.length (.static "java/util/ArrayList" "DEFAULTCAPACITY_EMPTY_ELEMENTDATA" "[Ljava/lang/Object;")) (.int 0)) (by decide +kernel))) (fun j hj => absurd hj (Nat.not_lt_zero j))
  obtain ⟨q0, -, -, -, g0, -⟩ := Cond.exactly_spec (hs (.exactly (.string "ReceivablesBook" 264) "java/lang/String") (by decide +kernel))
  obtain ⟨q1, -, -, -, g1, -⟩ := Cond.exactly_spec (hs (.exactly (.string "ReceivablesBook" 271) "java/lang/String") (by decide +kernel))
  obtain ⟨q2, -, -, -, g2, -⟩ := Cond.exactly_spec (hs (.exactly (.string "ReceivablesBook" 257) "java/lang/String") (by decide +kernel))
  obtain ⟨q3, -, -, -, g3, -⟩ := Cond.exactly_spec (hs (.exactly (.string "ReceivablesBook" 274) "java/lang/String") (by decide +kernel))
  obtain ⟨q4, -, -, -, g4, -⟩ := Cond.exactly_spec (hs (.exactly (.string "ReceivablesBook" 267) "java/lang/String") (by decide +kernel))
  obtain ⟨mi, hmi⟩ := va_Mi.of (hs (.isRef (.mirror "[Ljava/lang/Object;")) (by decide +kernel))
  obtain ⟨ad0, e0, e1, e2, e3, e4, e5, e6, e7, e8⟩ : ∃ ad0 : Nat → Nat, ad0 900 = t0 ∧ ad0 901 = t1 ∧ ad0 902 = q0 ∧ ad0 903 = q1 ∧ ad0 904 = q2 ∧ ad0 905 = q3 ∧ ad0 906 = q4 ∧ ad0 907 = mi ∧ ad0 908 = b := ⟨fun j => if j = 900 then t0 else if j = 901 then t1 else if j = 902 then q0 else if j = 903 then q1 else if j = 904 then q2 else if j = 905 then q3 else if j = 906 then q4 else if j = 907 then mi else if j = 908 then b else 0, rfl, rfl, rfl, rfl, rfl, rfl, rfl, rfl, rfl⟩
  have hZ : xZ s.heap.size dT ad0 s s.heap := by
    refine ⟨Nat.le_refl _, ⟨?_, ?_, ?_⟩, ⟨?_, ?_, ?_⟩, ⟨?_, ?_⟩, ⟨⟨?_, ?_, ?_, ?_, ?_⟩, ?_⟩, ?_, ?_, ?_⟩
    · rw [e0]; exact va_Zref (hts (.laysStatic "ReceivablesBook$DayCount" "MONTH_DAYS" "[I") (List.mem_of_getElem? (i := 422) (by decide +kernel))) (hts (.initialized "ReceivablesBook$DayCount") (List.mem_of_getElem? (i := 45) (by decide +kernel))) m1 hA
    · rw [e0]; exact ⟨ce0, m2, m3, m4, m5, m6⟩
    · rw [e0]; exact hlt _ _ m2
    · rw [e1]; exact va_Zref (hts (.laysStatic "java/util/ArrayList" "DEFAULTCAPACITY_EMPTY_ELEMENTDATA" "[Ljava/lang/Object;") (List.mem_of_getElem? (i := 67) (by decide +kernel))) (hts (.initialized "java/util/ArrayList") (List.mem_of_getElem? (i := 27) (by decide +kernel))) n1 hA
    · rw [e1]; exact ⟨ce1, n2, n3, n4, n5⟩
    · rw [e1]; exact hlt _ _ n2
    · exact vx_Zqof (hts (.laysStatic "java/lang/Throwable" "UNASSIGNED_STACK" "[Ljava/lang/StackTraceElement;") (List.mem_of_getElem? (i := 198) (by decide +kernel))) (hts (.initialized "java/lang/Throwable") (List.mem_of_getElem? (i := 30) (by decide +kernel))) (hs (.isRef (.static "java/lang/Throwable" "UNASSIGNED_STACK" "[Ljava/lang/StackTraceElement;")) (by decide +kernel)) hA
    · exact vx_Zqof (hts (.laysStatic "java/lang/Throwable" "SUPPRESSED_SENTINEL" "Ljava/util/List;") (List.mem_of_getElem? (i := 200) (by decide +kernel))) (hts (.initialized "java/lang/Throwable") (List.mem_of_getElem? (i := 30) (by decide +kernel))) (hs (.isRef (.static "java/lang/Throwable" "SUPPRESSED_SENTINEL" "Ljava/util/List;")) (by decide +kernel)) hA
    · rw [e2]; exact vk_R.of (hts (.stringRef "ReceivablesBook" 264 "out of range") (List.mem_of_getElem? (i := 212) (by decide +kernel))) g0
    · rw [e3]; exact vk_R.of (hts (.stringRef "ReceivablesBook" 271 "the book is full") (List.mem_of_getElem? (i := 251) (by decide +kernel))) g1
    · rw [e4]; exact vk_R.of (hts (.stringRef "ReceivablesBook" 257 "no such number") (List.mem_of_getElem? (i := 365) (by decide +kernel))) g2
    · rw [e5]; exact vk_R.of (hts (.stringRef "ReceivablesBook" 274 "not possible as things stand") (List.mem_of_getElem? (i := 404) (by decide +kernel))) g3
    · rw [e6]; exact vk_R.of (hts (.stringRef "ReceivablesBook" 267 "no cent at all") (List.mem_of_getElem? (i := 542) (by decide +kernel))) g4
    · exact fun w hw => va_Nw.of (xtn_ot (List.mem_filter.mp hw).2) (hts w (List.mem_filter.mp hw).1)
    · rw [e7]; exact hmi
    · exact va_AO.of (hts (.arrayOver (.object "java/lang/Object")) (List.mem_of_getElem? (i := 329) (by decide +kernel)))
    · exact va_Dc.of (hts _ (List.mem_filter.mp tb953).1)
  have hN : xNc s := by
    intro q hq
    simp only [xNcP, List.mem_cons, List.not_mem_nil, or_false] at hq
    rcases hq with rfl | rfl | rfl | rfl | rfl | rfl
    · exact va_Nc.of (hs (.not (.castable "java/lang/IllegalArgumentException" "java/lang/IllegalStateException")) (by decide +kernel))
    · exact va_Nc.of (hs (.not (.castable "java/lang/IllegalArgumentException" "java/lang/IndexOutOfBoundsException")) (by decide +kernel))
    · exact va_Nc.of (hs (.not (.castable "java/lang/IllegalStateException" "java/lang/IllegalArgumentException")) (by decide +kernel))
    · exact va_Nc.of (hs (.not (.castable "java/lang/IllegalStateException" "java/lang/IndexOutOfBoundsException")) (by decide +kernel))
    · exact va_Nc.of (hs (.not (.castable "java/lang/IndexOutOfBoundsException" "java/lang/IllegalArgumentException")) (by decide +kernel))
    · exact va_Nc.of (hs (.not (.castable "java/lang/IndexOutOfBoundsException" "java/lang/IllegalStateException")) (by decide +kernel))
  have w := law_run (E := (p, l, e, room_1, s, m, #[Value.ref b], below, meth, c, D, dT, s.heap.size, 22, nwLaw, ad0, lw_Z below #[Value.ref b] s)) (l := l) (N0 := s.heap.size) (D := D) (dT := dT) (ret := ret) (tab := c.exceptionTable.toList) hst
    ⟨⟨hx, hb, hml, hown, htsB⟩, hr, hlocks, rfl, hK, hZ, (fun j h => Nat.not_lt.mpr h), hst, rfl, rfl, rfl, rfl, rfl, rfl, rfl⟩ hN (Ln := L) (xs := xs) ⟨by rw [e8]; exact hX, by rw [e8]; exact hbl⟩ hL (fun k ns hp Lo hk hns => by
      intro ad H locs ls ha hR hS hl
      refine va_forget (fun q hq => hS.2.2 q hq) ?_
      refine W.widen hk hns ?_
      exact lw_ret hx hb hr hlocks dL_law_1282)
  have hl := lv_entry ([.ref b]) (n := 22) (Nat.le_of_ble_eq_true rfl)
  have hR0 : xR s.heap.size D dT ad0 (fun _ => none) s.heap := ⟨fun k e h => (by cases h), fun j k e f h => (by cases h)⟩
  have w2 := w ad0 s.heap [] _ (fun _ _ => rfl) hR0 va_S.rf (by
    show lv_has _ 22 [(0, .ref (ad0 908))]
    rw [e8]
    exact hl)
  rw [lg_entry_eq]
  exact w2
-- ===== YOUR PART ENDS =====
set_option maxHeartbeats 4000000 in
theorem lw_walk (l : Launch) (hflags : l.flags = flags0) (b : Addr) (xs : List Int32) : MetFree l x (headSpec (Jvm.Cond.code x code maxLocals ret :: tables_1) room_1) (lw_P b xs) (fun _ _ _ _ _ => True) lw_Q := by
  refine MetFree.of_bodyS (code := code) (maxLocals := maxLocals) (ret := ret) (by decide) ?_ ?_
  · intro args s m h hn
    obtain ⟨meth, c, h1, h2, h3, h4, h5, h6, -, -⟩ := Cond.code_spec hn (atoms_spec (ws := Jvm.Cond.code x code maxLocals ret :: tables_1) h _ List.mem_cons_self)
    exact ⟨meth, c, h1, h2, h3, h4, h5, h6⟩
  · intro p e s m args below meth c s₁ B hml0 hP _
    obtain ⟨rfl, hx, hbd, hgv⟩ := hP
    obtain ⟨scr, harrAt, hlist, hof, hsmall⟩ := hx
    obtain ⟨hcb, hkn, -, -⟩ := State.arrayAt?_spec harrAt
    have hown : s.vm.findClass R_law = some m.cls := findClass_of_methodNamed B.named
    have hts0 : ∀ c ∈ (Jvm.Cond.code x code maxLocals ret :: tables_1), c.before #[Value.ref b] s = true := atoms_spec (ws := Jvm.Cond.code x code maxLocals ret :: tables_1) B.pre
    have hts : ∀ w ∈ lw_tbl, w.before #[Value.ref b] s = true := k2_hts_sels lw_privs (fun w hw => hts0 w (List.mem_cons_of_mem _ hw)) lw_privs_ok
    have hml : c.maxLocals = 22 := B.maxLocals_eq (hts0 _ List.mem_cons_self)
    have X₀ : Stand p l e room_1 s m #[Value.ref b] below meth c s₁ [] 0 0 := Stand.of_body B
    have hh0 : s₁.heap = s.heap := by rw [B.state]; rfl
    have hsz : scr.slots.size = xs.length := by rw [← Array.length_toList, hlist, List.length_map]
    have hval : ∀ j : Nat, j < xs.length → scr.slots[j]? = some (.int (xs.getD j 0)) := fun j hj => by
      rw [← Array.getElem?_toList, hlist]
      simp [hj]
    have hbl : b < s.heap.size := (Array.getElem?_eq_some_iff.mp hcb).1
    have hX : va_X b xs.length (fun j => xs.getD j 0) s s.heap := ⟨scr, hcb, hof, hkn, hsz, hval⟩
    have K : W p l e room_1 s m #[Value.ref b] below meth c s₁.heap [] 0 0 (lw_Z below #[Value.ref b] s) (entryFrame m ([Value.ref b] : List Value).toArray 22) := by
      rw [hh0]
      exact whole_start l hflags hbd ⟨B.exec, B.bytes, B.returns, hml, hown, hts, hX, hbl, B.notSynchronized, hgv⟩
    obtain ⟨t, a1, o, b1, b2, b3⟩ := K s₁ rfl X₀
    exact ⟨t, o, a1, b1, b2, b3⟩
theorem lw_pre_spec {args : Array Value} {s : State} (h : (Jvm.Cond.and given_1 narrow_1).before args s = true) (hr : rest_1_c.before args s = true) : ∃ (b : Addr) (xs : List Int32), lw_P b xs args s := by
  have hs := flat_of_before _ h
  have hq := flat_of_before _ hr
  have hc : (Cond.count 1).before args s = true := hs _ (by decide +kernel)
  have harr : (Cond.arrayOf (.arg 0) .int).before args s = true := hs _ (by decide +kernel)
  have hle : (Cond.le (.length (.arg 0)) (.int 260)).before args s = true := hs _ (by decide +kernel)
  have hlen : (Cond.isInt (.length (.arg 0))).before args s = true := hq _ (by decide +kernel)
  have hall : (Cond.all (.arg 0) (.isInt (.elem (.arg 0) (.index 0)))).before args s = true := hq _ (by decide +kernel)
  obtain ⟨b, xs, hb, hx⟩ := State.ints_of_pre rfl harr hlen hall
  have hsm : xs.length < 2 ^ 31 := hx.choose_spec.2.2.2
  have hev : (Term.length (.arg 0)).eval args s none [] s = some (.int xs.length.toInt32) := hx.length_eval hb
  have hv := Cond.le_ints hev (show (Term.int 260).eval args s none [] s = some (.int 260) from rfl)
  have hd : xs.length.toInt32 ≤ 260 := by
    simpa [Cond.before, Cond.holds, hv] using hle
  have hN : xs.length ≤ 260 := (Int32.ofNat_le_ofNat hsm (by decide)).mp (show Int32.ofNat xs.length ≤ Int32.ofNat 260 from hd)
  exact ⟨b, xs, Cond.one_arg hc (show args[0]? = some (.ref b) from hb), hx, hN, h⟩
theorem lw_comes (l : Launch) (hflags : l.flags = flags0) : Comes l x (Jvm.Cond.code x code maxLocals ret :: tables_1) room_1 (fun tb e args s => Calls_1 tb e args s ∧ rest_1 tb e args s ∧ Pre_1 tb e args s)
    (fun _ _ args s o t => lw_Q args s o t) := by
  intro p e ha hc hk s m args below hf hfit hheap happ hpre
  obtain ⟨b, xs, hP⟩ := lw_pre_spec hpre.2.2 hpre.2.1
  obtain ⟨k, o, h1, h2, h3, hQ⟩ := lw_walk l hflags b xs p e ha hc hk s m args below hf ((Spec.applies_iff_loose hf).mp happ).1 hP trivial
  exact ⟨k, o, h1, h2, h3, hQ⟩
theorem lw_frame {s t : State} {o : Outcome} {args : Array Value} (h : Framed s o t [] 600130 7301080) :
    Framed s o t (fieldLocs frame_1_writes args s ++ arrayLocs frame_1_arrays args s ++ staticLocs frame_1_statics s) 600130 7301080 := h
theorem lw_limb (L : Cond) (hL : ∀ (args : Array Value) (s t : State), L.after args s (.returned (some (.int 1))) t = true) :
    ArmFor flags0 classFile x code maxLocals ret World_1 tables_1 room_1 Calls_1 rest_1 Pre_1
      (fun tb e a s o t => postC L tb e a s o t ∧ Framed s o t (fieldLocs frame_1_writes a s ++ arrayLocs frame_1_arrays a s ++ staticLocs frame_1_statics s) 600130 7301080) := by
  intro l hflags _ _ p e ha hc hk s m args below hf hfit hheap happ hpre
  obtain ⟨k, o, h1, h2, h3, rfl, hF⟩ := lw_comes l hflags p e ha hc hk s m args below hf hfit hheap happ hpre
  exact ⟨k, _, h1, h2, h3, hL args s _, lw_frame hF⟩
theorem i_vc : Claimed_1_1 ∧ Claimed_1_2 := ⟨lw_limb limb_1_1 (fun args s t => by simp [limb_1_1, Cond.after, Cond.holds, Cond.value]), lw_limb limb_1_2 (fun args s t => Cond.after_iff.mpr (by
  first | (rw [show limb_1_2 = Cond.eq .result (.int 1) from rfl, Cond.eq_ints (x := 1) (y := 1) rfl rfl]; simp; done) | (simp [limb_1_2, Cond.value, Term.eval]; done)))⟩
