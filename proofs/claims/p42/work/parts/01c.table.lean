/-- the words of the law's table that hold in every warmer state: every method's contract asks for these, all of them -/
def xTB : List Cond := lw_tbl.filter goodWord
theorem xtb_of {N : Nat} {w : Cond} (h : lw_tbl[N]? = some w) (hg : goodWord w = true) : w ∈ xTB := List.mem_filter.mpr ⟨List.mem_of_getElem? h, hg⟩
theorem xtb_good {w : Cond} (h : w ∈ xTB) : goodWord w = true := (List.mem_filter.mp h).2
theorem xtb_tbl {w : Cond} (h : w ∈ xTB) : w ∈ lw_tbl := (List.mem_filter.mp h).1
theorem xtb_in {ws : List Cond} (h : ∀ w ∈ ws, w ∈ xTB) : GoodIn xTB ws := fun w hw => ⟨h w hw, good_of_word (xtb_good (h w hw))⟩
/-- the words that hold in every warmer state, by another way -/
def xnw (w : Cond) : Bool := match w with
  | .castable .. => true
  | .methodLinkNest .. => true
  | .declares .. => true
  | _ => false
def xTN : List Cond := lw_tbl.filter xnw
theorem xtn_of {N : Nat} {w : Cond} (h : lw_tbl[N]? = some w) (hg : xnw w = true) : w ∈ xTN := List.mem_filter.mpr ⟨List.mem_of_getElem? h, hg⟩
theorem xtn_warm {w : Cond} {s U : State} (hg : xnw w = true) (hW : s.WarmedH U.vm) (h : va_Nw w s) : va_Nw w U := by
  cases w <;> first | exact va_Nw.warmC hW h | exact va_Nw.warmM hW h | exact va_Nw.warmD hW h | cases hg
theorem xtn_ot {w : Cond} (hg : xnw w = true) : w.onTables = true := by
  cases w <;> first | rfl | cases hg
/-- a field's link: own's entry 'index' names the field j of the class ci, of the type ty -/
def xFL (own : String) (index ci j : Nat) (ty : FieldType) (fin : Bool) : Prop := ∃ (Cn : String) (T : u_T) (N : Nat) (ref : String) (ty0 : Nat → FieldType), vwCl[ci]? = some (Cn, T, N) ∧ j < N ∧ (∀ w ∈ u_ws Cn T N, w ∈ xTB) ∧ Cond.fieldLink own index ref (T j).2.1 (T j).2.2.1 ∈ xTB ∧ (ref = (T j).1 ∨ Cond.sameField ref (T j).1 (T j).2.1 (T j).2.2.1 ∈ xTB) ∧ (∀ k, k < N → parseFieldDescriptor (T k).2.2.1 = some (ty0 k)) ∧ (∀ a, a < N → ∀ b, b < N → a ≠ b → (T a).2.1 ≠ (T b).2.1) ∧ ty0 j = ty ∧ (T j).2.2.2 = fin
/-- what the table says of a method: a virtual one, a static one, a constructor -/
def xCV (y : MethodName) (b : ByteArray) (n : Nat) (ret : Option FieldType) (na : Nat) : Prop := Cond.instanceMethod y ∈ xTB ∧ Cond.selects y.cls y y ∈ xTB ∧ Cond.initialized y.cls ∈ xTB ∧ Cond.code y b n ret ∈ xTB ∧ (y.cls ≠ "java/lang/invoke/MethodHandle" ∧ y.cls ≠ "java/lang/invoke/VarHandle" ∧ (parseMethodDescriptor y.desc).map (fun d => d.parameters.length) = some na)
def xCS (y : MethodName) (b : ByteArray) (n : Nat) (ret : Option FieldType) (na : Nat) : Prop := Cond.static y ∈ xTB ∧ Cond.initialized y.cls ∈ xTB ∧ Cond.code y b n ret ∈ xTB ∧ (y.cls ≠ "java/lang/invoke/MethodHandle" ∧ y.cls ≠ "java/lang/invoke/VarHandle" ∧ (parseMethodDescriptor y.desc).map (fun d => d.parameters.length) = some na)
def xCI (y : MethodName) (b : ByteArray) (n : Nat) (na : Nat) : Prop := Cond.instanceMethod y ∈ xTB ∧ y.name = "<init>" ∧ Cond.initialized y.cls ∈ xTB ∧ Cond.code y b n none ∈ xTB ∧ (y.cls ≠ "java/lang/invoke/MethodHandle" ∧ y.cls ≠ "java/lang/invoke/VarHandle" ∧ (parseMethodDescriptor y.desc).map (fun d => d.parameters.length) = some na)
