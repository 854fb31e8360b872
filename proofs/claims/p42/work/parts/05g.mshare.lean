theorem xpre_k {t o : Nat → Int32} {i : Nat} (h : t i = o i) : xpre t o i = xpre t o (i + 1) := by
  funext j
  show (if j < i then t j else o j) = (if j < i + 1 then t j else o j)
  by_cases h1 : j < i
  · rw [if_pos h1, if_pos (Nat.lt_succ_of_lt h1)]
  · rw [if_neg h1]
    by_cases h2 : j = i
    · subst h2; rw [if_pos (Nat.lt_succ_self _), h]
    · rw [if_neg (by omega)]
theorem xpre_ge {t o : Nat → Int32} {i j : Nat} (h : i ≤ j) : xpre t o i j = o j := if_neg (by omega)
/-- how a rule shares an amount -/
def xgets (a : Int32) (all : Int64) : Int32 := (if a.toInt64 < all then a.toInt64 else all).toInt32
def xzer (f : Nat → Nat → Int32) (ni : Nat) : Nat → Int32 := xpre (fun _ => 0) (f 25) ni
def xfro (f : Nat → Nat → Int32) (c a : Int32) (ni : Nat) : Nat → Int32 := fun j => if f 10 j = c then xfrom f c j a ni else 0
def mShf (ni w : Nat) (a : Int32) (f : Nat → Nat → Int32) (g : Nat → Nat → Int64) : Nat → Nat → Int32 := if f 6 w = 1 then fup f 25 (xspl ni (nI w) (xgets a (xall f (nI w) ni)) f g).1 else if f 6 w = 0 then fup f 25 (xpre (xfro f (nI w) (xgets a (xall f (nI w) ni)) ni) (xzer f ni) ni) else fup f 25 (xzer f ni)
def mShg (ni w : Nat) (a : Int32) (f : Nat → Nat → Int32) (g : Nat → Nat → Int64) : Nat → Nat → Int64 := if f 6 w = 1 then gup g 26 (xspl ni (nI w) (xgets a (xall f (nI w) ni)) f g).2 else g