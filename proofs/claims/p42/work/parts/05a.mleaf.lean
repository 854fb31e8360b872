/-- the reference's counts -/
def xI (n : Nat → Int32) (nc ni np nl : Nat) : Prop := n 2 = nI nc ∧ n 3 = nI ni ∧ n 4 = nI np ∧ n 5 = nI nl ∧ nc ≤ 6 ∧ ni ≤ 24 ∧ np ≤ 24 ∧ nl ≤ 16000
theorem xI_0 {n : Nat → Int32} {nc ni np nl : Nat} {w : Int32} (h : xI n nc ni np nl) : xI (nup n 0 w) nc ni np nl := h
theorem xI_1 {n : Nat → Int32} {nc ni np nl : Nat} {w : Int32} (h : xI n nc ni np nl) : xI (nup n 1 w) nc ni np nl := h
/-- the bucket of so many days of lateness -/
def xbk (l : Int32) : Int32 := if l ≤ 0 then 0 else if l ≤ 30 then 1 else if l ≤ 60 then 2 else if l ≤ 90 then 3 else 4