def xsum (t : Nat → Int32) : Nat → Int32
  | 0 => 0
  | k + 1 => xsum t k + t k
def xsumL (t : Nat → Int64) : Nat → Int64
  | 0 => 0
  | k + 1 => xsumL t k + t k
def xsubt (s : Int32) (t : Nat → Int32) : Nat → Int32
  | 0 => s
  | k + 1 => xsubt s t k - t k
theorem lcmp_gt {x y : Int64} : 0 < lg_cmp x y ↔ y < x := by
  unfold lg_cmp
  by_cases h1 : y < x
  · simp [h1]
  · by_cases h2 : x = y
    · simp [h2]
    · simp [h1, h2]
theorem lcmp_eq {x y : Int64} : lg_cmp x y = 0 ↔ x = y := by
  unfold lg_cmp
  by_cases h1 : y < x
  · have : ¬ x = y := fun z => by subst z; exact absurd h1 (Int64.lt_irrefl)
    simp [h1, this]
  · by_cases h2 : x = y
    · simp [h2]
    · simp [h1, h2]
theorem lcmp_lt {x y : Int64} : lg_cmp x y < 0 ↔ x < y := by
  unfold lg_cmp
  by_cases h1 : y < x
  · have : ¬ x < y := Int64.not_lt.mpr (Int64.le_of_lt h1)
    simp [h1, this]
  · by_cases h2 : x = y
    · simp [h2]
    · have h3 : x < y := by
        rcases Int64.lt_or_eq_of_le (Int64.not_lt.mp h1) with q | q
        · exact q
        · exact absurd q h2
      simp [h1, h2, h3]
def xclr (f : Nat → Nat → Int32) (c : Int32) : Nat → Int64 := fun j => if f 10 j = c then (f 13 j - f 14 j).toInt64 else 0
def xlin (f : Nat → Nat → Int32) (i : Int32) : Nat → Int32 := fun j => if f 23 j = i then f 24 j else 0
def xopn (f : Nat → Nat → Int32) (c : Int32) : Nat → Int32 := fun j => if f 10 j = c then f 13 j else 0
def xrst (f : Nat → Nat → Int32) (c : Int32) : Nat → Int32 := fun j => if f 19 j = c then f 20 j else 0
def xbal (f : Nat → Nat → Int32) (c : Int32) (ni np : Nat) : Int32 := xsubt (xsum (xopn f c) ni) (xrst f c) np
def xage (n : Nat → Int32) (f : Nat → Nat → Int32) (c b : Int32) : Nat → Int32 := fun j => if f 10 j = c ∧ xbk (n 1 - f 12 j) = b then f 13 j else 0
def xlev (f : Nat → Nat → Int32) (l : Int32) : Nat → Int32 := fun j => if f 17 j = l then 1 else 0