/-- the words of the law's table that hold in every warmer state: every method's contract asks for these, all of them -/
def xTB : List Cond := lw_tbl.filter goodWord
theorem xtb_of {N : Nat} {w : Cond} (h : lw_tbl[N]? = some w) (hg : goodWord w = true) : w ∈ xTB := List.mem_filter.mpr ⟨List.mem_of_getElem? h, hg⟩
theorem xtb_good {w : Cond} (h : w ∈ xTB) : goodWord w = true := (List.mem_filter.mp h).2
theorem xtb_tbl {w : Cond} (h : w ∈ xTB) : w ∈ lw_tbl := (List.mem_filter.mp h).1
theorem xtb_in {ws : List Cond} (h : ∀ w ∈ ws, w ∈ xTB) : GoodIn xTB ws := fun w hw => ⟨h w hw, good_of_word (xtb_good (h w hw))⟩
/-- the words that hold in every warmer state, by another way -/
def xnw (w : Cond) : Bool := match w with
  | .castable .. => true
  | .methodLinkNest .. => true
  | .declares .. => true
  | _ => false
def xTN : List Cond := lw_tbl.filter xnw
theorem xtn_of {N : Nat} {w : Cond} (h : lw_tbl[N]? = some w) (hg : xnw w = true) : w ∈ xTN := List.mem_filter.mpr ⟨List.mem_of_getElem? h, hg⟩
theorem xtn_warm {w : Cond} {s U : State} (hg : xnw w = true) (hW : s.WarmedH U.vm) (h : va_Nw w s) : va_Nw w U := by
  cases w <;> first | exact va_Nw.warmC hW h | exact va_Nw.warmM hW h | exact va_Nw.warmD hW h | cases hg
theorem xtn_ot {w : Cond} (hg : xnw w = true) : w.onTables = true := by
  cases w <;> first | rfl | cases hg
