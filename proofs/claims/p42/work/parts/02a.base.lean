/-! THE ABSTRACT MACHINE of these rows: a heap by numbers ('abstract addresses'), an address map to the machine's, one table of words for all methods. -/
/-- a method's words: its code, and the table -/
abbrev xws (y : MethodName) (b : ByteArray) (n : Nat) (ret : Option FieldType) : List Cond := Cond.code y b n ret :: xTB
abbrev xwsH (y : MethodName) (b : ByteArray) (n : Nat) (ret : Option FieldType) (hh : List (Nat × Nat × Nat × Nat)) : List Cond := Cond.codeWith y b n ret hh :: xTB
theorem xws_in {y : MethodName} {b : ByteArray} {n : Nat} {ret : Option FieldType} (h : Cond.code y b n ret ∈ xTB) : GoodIn xTB (xws y b n ret) := xtb_in fun w hw => by
  rcases List.mem_cons.mp hw with rfl | hw
  · exact h
  · exact hw
theorem xwsH_in {y : MethodName} {b : ByteArray} {n : Nat} {ret : Option FieldType} {hh : List (Nat × Nat × Nat × Nat)} (h : Cond.codeWith y b n ret hh ∈ xTB) : GoodIn xTB (xwsH y b n ret hh) := xtb_in fun w hw => by
  rcases List.mem_cons.mp hw with rfl | hw
  · exact h
  · exact hw
/-- an abstract heap: at a number, an array (its kind, its length and contents) or an object (its class's place, its fields) -/
abbrev xH : Type := Nat → Option va_E
def x_cv (ad : Nat → Nat) (v : Value) : Value := match v with
  | .ref k => .ref (ad k)
  | .int x => .int x
  | .long x => .long x
  | w => w
def x_ca (ad : Nat → Nat) (A : vp_A) : vp_A := match A with
  | (n, .inr (.inr (.inr (.inr f)))) => (n, .inr (.inr (.inr (.inr (fun j => (f j).map ad)))))
  | (n, .inl f) => (n, .inl f)
  | (n, .inr (.inl f)) => (n, .inr (.inl f))
  | (n, .inr (.inr (.inl f))) => (n, .inr (.inr (.inl f)))
  | (n, .inr (.inr (.inr (.inl f)))) => (n, .inr (.inr (.inr (.inl f))))
def x_ce (dT : Nat → ClassId) (ad : Nat → Nat) (e : va_E) : va_E := match e with
  | .inl q => .inl (dT q.1, x_ca ad q.2)
  | .inr o => .inr (o.1, o.2.map (x_cv ad))
def xcl (ad : Nat → Nat) (L : List (Nat × Value)) : List (Nat × Value) := L.map (fun q => (q.1, x_cv ad q.2))
abbrev xtys (dT : Nat → ClassId) : List (ClassId × FieldType) := [(dT 0, .int), (dT 1, .long), (dT 2, .byte), (dT 3, .object "java/lang/Object")]
/-- the machine's heap holds the abstract one -/
def xR (N0 : Nat) (D : va_G) (dT : Nat → ClassId) (ad : Nat → Nat) (hp : xH) (H : Heap) : Prop := (∀ k e, hp k = some e → va_at D vwCl (ad k, x_ce dT ad e) H ∧ N0 ≤ ad k) ∧ ∀ j k e f, hp j = some e → hp k = some f → ad j = ad k → j = k
def xK (D : va_G) (dT : Nat → ClassId) (U : State) : Prop := va_K D vwCl (xtys dT) U
def xMonths (j : Nat) : Int32 := match j with
  | 0 => 31 | 1 => 28 | 2 => 31 | 3 => 30 | 4 => 31 | 5 => 30 | 6 => 31 | 7 => 31 | 8 => 30 | 9 => 31 | 10 => 30 | 11 => 31 | _ => 0
def xStr (ad : Nat → Nat) (U : State) : Prop := (vk_R "ReceivablesBook" 264 "out of range" (ad 902) U ∧ vk_R "ReceivablesBook" 271 "the book is full" (ad 903) U ∧ vk_R "ReceivablesBook" 257 "no such number" (ad 904) U ∧ vk_R "ReceivablesBook" 274 "not possible as things stand" (ad 905) U ∧ vk_R "ReceivablesBook" 267 "no cent at all" (ad 906) U) ∧ ∀ w ∈ xTN, va_Nw w U
/-- what static fields hold (numbers from 900 on name the machine's own old cells), and the strings -/
def xZ (N0 : Nat) (dT : Nat → ClassId) (ad : Nat → Nat) (U : State) (H : Heap) : Prop :=
  N0 ≤ H.size ∧
  (va_Z "ReceivablesBook$DayCount" "MONTH_DAYS" "[I" (.ref (ad 900)) (fun q => N0 ≤ q) U H ∧ va_X (ad 900) 12 xMonths U H ∧ ad 900 < N0) ∧
  (va_Z "java/util/ArrayList" "DEFAULTCAPACITY_EMPTY_ELEMENTDATA" "[Ljava/lang/Object;" (.ref (ad 901)) (fun q => N0 ≤ q) U H ∧ (∃ scr : Cell, H[ad 901]? = some scr ∧ U.isArrayOf scr (.object "java/lang/Object") ∧ scr.vm ≠ .unknown ∧ scr.slots.size = 0) ∧ ad 901 < N0) ∧
  (vx_Zq Bundle.tN "UNASSIGNED_STACK" Bundle.steD (fun q => N0 ≤ q) U H ∧ vx_Zq Bundle.tN "SUPPRESSED_SENTINEL" Bundle.listD (fun q => N0 ≤ q) U H) ∧
  xStr ad U ∧ va_Mi "[Ljava/lang/Object;" (ad 907) U ∧ va_AO "java/lang/Object" U ∧ va_Dc U
theorem xStr.warm {ad : Nat → Nat} {u U : State} (hW : u.WarmedH U.vm) (h : xStr ad u) : xStr ad U := ⟨⟨h.1.1.warm hW, h.1.2.1.warm hW, h.1.2.2.1.warm hW, h.1.2.2.2.1.warm hW, h.1.2.2.2.2.warm hW⟩, fun w hw => xtn_warm (List.mem_filter.mp hw).2 hW (h.2 w hw)⟩
theorem xStr.same {ad : Nat → Nat} {u U : State} (hv : U.vm = u.vm) (h : xStr ad u) : xStr ad U := ⟨⟨h.1.1.same hv, h.1.2.1.same hv, h.1.2.2.1.same hv, h.1.2.2.2.1.same hv, h.1.2.2.2.2.same hv⟩, fun w hw => va_Nw.same (xtn_ot (List.mem_filter.mp hw).2) hv.symm (h.2 w hw)⟩
theorem xArr.moved {ty : FieldType} {a : Nat} {u U : State} {H : Heap} (hvm : u.vm.Alike U.vm) (h : ∃ scr : Cell, H[a]? = some scr ∧ u.isArrayOf scr ty ∧ scr.vm ≠ .unknown ∧ scr.slots.size = 0) : ∃ scr : Cell, H[a]? = some scr ∧ U.isArrayOf scr ty ∧ scr.vm ≠ .unknown ∧ scr.slots.size = 0 := by
  obtain ⟨scr, h1, h2, h3⟩ := h
  exact ⟨scr, h1, State.isArrayOf_alike hvm h2, h3⟩
/-- to another state of the same launch, over a heap that has kept all old cells -/
theorem xZ.to {N0 : Nat} {dT : Nat → ClassId} {ad ad' : Nat → Nat} {u U : State} {H H1 : Heap} (h : xZ N0 dT ad u H) (hW : u.vm.Alike U.vm) (hs : xStr ad U) (hq : ∀ q : Nat, q < H.size → ¬ N0 ≤ q → H1[q]? = H[q]?) (hz : H.size ≤ H1.size) (hA : ∀ j, 900 ≤ j → ad' j = ad j) : xZ N0 dT ad' U H1 := by
  obtain ⟨h0, ⟨a1, a2, a3⟩, ⟨b1, b2, b3⟩, ⟨c1, c2⟩, d, m1, m2, m3⟩ := h
  have lt : ∀ q, q < N0 → H1[q]? = H[q]? := fun q z => hq q (Nat.lt_of_lt_of_le z h0) (Nat.not_le.mpr z)
  refine ⟨Nat.le_trans h0 hz, ⟨?_, ?_, ?_⟩, ⟨?_, ?_, ?_⟩, ⟨(c1.moved hW).kept hq, (c2.moved hW).kept hq⟩, ?_, ?_, m2.moved hW, m3.moved hW⟩
  · rw [hA 900 (by decide)]; exact (a1.moved hW).kept hq
  · rw [hA 900 (by decide)]; exact (a2.moved hW).kept (lt _ a3)
  · rw [hA 900 (by decide)]; exact a3
  · rw [hA 901 (by decide)]; exact (b1.moved hW).kept hq
  · rw [hA 901 (by decide)]
    obtain ⟨scr, g1, g2⟩ := xArr.moved hW b2
    exact ⟨scr, by rw [lt _ b3]; exact g1, g2⟩
  · rw [hA 901 (by decide)]; exact b3
  · unfold xStr at hs ⊢
    rw [hA 902 (by decide), hA 903 (by decide), hA 904 (by decide), hA 905 (by decide), hA 906 (by decide)]
    exact hs
  · rw [hA 907 (by decide)]; exact m1.moved hW
/-- a contract's start, its end, its throw -/
def xPc (N0 : Nat) (D : va_G) (dT : Nat → ClassId) (ad : Nat → Nat) (as : List Value) (hp : xH) : Array Value → State → Prop := fun a U =>
  a = (as.map (x_cv ad)).toArray ∧ xR N0 D dT ad hp U.heap ∧ xK D dT U ∧ xZ N0 dT ad U U.heap
def xQc (N0 : Nat) (D : va_G) (dT : Nat → ClassId) (ad0 : Nat → Nat) (nw : Nat → Prop) (post : Option Value → xH → Prop) : Array Value → State → Outcome → State → Prop := fun _ st o t =>
  ∃ (r : Option Value) (hp : xH) (ad : Nat → Nat), o = .returned (r.map (x_cv ad)) ∧ post r hp ∧ (∀ j, ¬ nw j → ad j = ad0 j) ∧ xR N0 D dT ad hp t.heap ∧ va_F (fun q => N0 ≤ q) st t
def xXc (N0 : Nat) (D : va_G) (dT : Nat → ClassId) (ad0 : Nat → Nat) (nw : Nat → Prop) (px : String → xH → Prop) : String → State → State → Prop := fun x st t =>
  ∃ (hp : xH) (ad : Nat → Nat), px x hp ∧ (∀ j, ¬ nw j → ad j = ad0 j) ∧ xR N0 D dT ad hp t.heap ∧ va_F (fun q => N0 ≤ q) st t
abbrev xRm (d mc ms : Nat) : Room := { frames := d, cells := mc, slots := ms, locals := 40 * d }
/-- THE CONTRACT: at launch l, with d frames below, from the arguments as over the abstract heap hp: it returns with post, or throws with px; the numbers nw may be given new cells -/
def xMet (l : Launch) (N0 : Nat) (D : va_G) (dT : Nat → ClassId) (y : MethodName) (b : ByteArray) (n : Nat) (ret : Option FieldType) (d mc ms : Nat) (as : List Value) (hp : xH) (nw : Nat → Prop) (post : Option Value → xH → Prop) (px : String → xH → Prop) : Prop :=
  ∀ ad : Nat → Nat, vx_Met l y (xws y b n ret) (xRm d mc ms) (xPc N0 D dT ad as hp) (xQc N0 D dT ad nw post) (xXc N0 D dT ad nw px) mc ms (fun q => N0 ≤ q)
def xMetH (l : Launch) (N0 : Nat) (D : va_G) (dT : Nat → ClassId) (y : MethodName) (b : ByteArray) (n : Nat) (ret : Option FieldType) (hh : List (Nat × Nat × Nat × Nat)) (d mc ms : Nat) (as : List Value) (hp : xH) (nw : Nat → Prop) (post : Option Value → xH → Prop) (px : String → xH → Prop) : Prop :=
  ∀ ad : Nat → Nat, vx_Met l y (xwsH y b n ret hh) (xRm d mc ms) (xPc N0 D dT ad as hp) (xQc N0 D dT ad nw post) (xXc N0 D dT ad nw px) mc ms (fun q => N0 ≤ q)
theorem xPc_blind {N0 : Nat} {D : va_G} {dT : Nat → ClassId} {ad : Nat → Nat} {as : List Value} {hp : xH} : FrameBlind (xPc N0 D dT ad as hp) := fun a U g mk h =>
  ⟨h.1, h.2.1, va_K.moved (u := U) (U := U.calling g mk a) (Vm.Alike.refl U.vm) h.2.2.1, xZ.to (u := U) (U := U.calling g mk a) h.2.2.2 (Vm.Alike.refl U.vm) (xStr.same (u := U) rfl h.2.2.2.2.2.2.2.1) (fun _ _ _ => rfl) (Nat.le_refl _) (fun _ _ => rfl)⟩
/-- where a walk stands: the machine's names, as one -/
abbrev xEnv : Type := Program × Launch × Env × Room × State × MethodId × Array Value × List Frame × Method × Code × va_G × (Nat → ClassId) × Nat × Nat × (Nat → Prop) × (Nat → Nat) × (State → Prop)
/-- what holds of a walk all the way -/
def aC (E : xEnv) (l9 : Launch) (N9 : Nat) (D9 : va_G) (T9 : Nat → ClassId) (cc : ByteArray) (own : String) (nL9 : Nat) (ret : Option FieldType) (tab : List ExceptionTableEntry) (R9 : Room) (nw9 : Nat → Prop) : Prop := match E with
  | (p, l, _, R, s, m, args, _, meth, c, D, dT, N0, nL, nw, ad0, _) => (p.tables.exec = Jvm.exec ∧ c.code = cc ∧ c.maxLocals = nL ∧ s.vm.findClass own = some m.cls ∧ ∀ w ∈ xTB, w.before args s = true) ∧ meth.sig.returnType = ret ∧ meth.locks = false ∧ c.exceptionTable.toList = tab ∧ xK D dT s ∧ xZ N0 dT ad0 s s.heap ∧ (∀ j, 900 ≤ j → ¬ nw j) ∧
    (l.stackTraces = false ∧ l = l9 ∧ N0 = N9 ∧ D = D9 ∧ dT = T9 ∧ nL = nL9 ∧ R = R9 ∧ nw = nw9)
/-- the walk at pc, with the locals L, the stack S, over the abstract heap hp, k cells and n slots made: it comes to its end -/
def aW (E : xEnv) (k n : Nat) (hp : xH) (pc : Nat) (L : List (Nat × Value)) (S : List Value) : Prop := match E with
  | (p, l, e, R, s, m, args, below, meth, c, D, dT, N0, nL, nw, ad0, Q) => ∀ (ad : Nat → Nat) (H : Heap) (locs : List Loc) (ls : Array Slot), (∀ j, ¬ nw j → ad j = ad0 j) → xR N0 D dT ad hp H → va_S (fun q => N0 ≤ q) s.heap H locs → lv_has ls nL (xcl ad L) → W p l e R s m args below meth c H locs k n Q (F0 m pc ls (S.map (x_cv ad)))
/-- a throw of the class x on its way out of pc -/
def aX (E : xEnv) (k n : Nat) (hp : xH) (pc : Nat) (L : List (Nat × Value)) (x : String) : Prop := match E with
  | (p, l, e, R, s, m, args, below, meth, c, D, dT, N0, nL, nw, ad0, Q) => ∀ (ad : Nat → Nat) (H : Heap) (locs : List Loc) (ls : Array Slot) (S : List Value) (q : Nat) (ce : Cell), (∀ j, ¬ nw j → ad j = ad0 j) → xR N0 D dT ad hp H → va_S (fun q => N0 ≤ q) s.heap H locs → lv_has ls nL (xcl ad L) → H[q]? = some ce → ce.vm = .none → s.vm.findClass x = some ce.cls → vx_W p l e R s m args below meth c H locs k n Q (F0 m pc ls S) q
/-- a value may be returned over a heap -/
def aR (E : xEnv) (r : Option Value) (hp : xH) : Prop := match E with
  | (p, l, e, R, s, m, args, below, meth, c, D, dT, N0, nL, nw, ad0, Q) => ∀ (ad : Nat → Nat) (t : State) (L : List Loc), (∀ j, ¬ nw j → ad j = ad0 j) → xR N0 D dT ad hp t.heap → va_F (fun q => N0 ≤ q) s t → t.status = .running → Ended t below (.returned (r.map (x_cv ad))) → FrameEnd s (.returned (r.map (x_cv ad))) t L R.cells R.slots → (∀ q ∈ L, N0 ≤ q.base) → Q t
def aT (E : xEnv) (x : String) (hp : xH) : Prop := match E with
  | (p, l, e, R, s, m, args, below, meth, c, D, dT, N0, nL, nw, ad0, Q) => ∀ (ad : Nat → Nat) (t : State) (q : Nat), (∀ j, ¬ nw j → ad j = ad0 j) → xR N0 D dT ad hp t.heap → va_F (fun q => N0 ≤ q) s t → t.status = .running → Ended t below (.threw q) → (∃ (ce : Cell) (L : List Loc), t.heap[q]? = some ce ∧ ce.vm = .none ∧ s.vm.findClass x = some ce.cls ∧ s.WarmedH t.vm ∧ s.sameButNew ({ t with vm := s.vm } : State) L R.cells R.slots ∧ ∀ z ∈ L, N0 ≤ z.base) → Q t
