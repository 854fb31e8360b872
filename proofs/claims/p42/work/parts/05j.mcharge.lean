/-- all clear amounts are disputed in part -/
def mDF (ni : Nat) (c a : Int32) (f : Nat → Nat → Int32) (g : Nat → Nat → Int64) : Nat → Nat → Int32 := fup f 25 (xspl ni c a f g).1
def xdis (F : Nat → Nat → Int32) : Nat → Int32 := fun j => F 14 j + F 25 j
def xcnt (F : Nat → Nat → Int32) : Nat → Int32 := fun j => if 0 < F 25 j then 1 else 0
def o_disputeAll (nc ni : Nat) (c a : Int32) (n : Nat → Int32) (f : Nat → Nat → Int32) (g : Nat → Nat → Int64) : Int32 × mS := if ¬ xin c nc then oNo 1 n f g else if a < 1 then oNo 2 n f g else if xall f c ni < a.toInt64 then oNo 3 n f g else (xsum (xcnt (mDF ni c a f g)) ni, nup n 0 0, fup (mDF ni c a f g) 14 (xpre (xdis (mDF ni c a f g)) (f 14) ni), gup g 26 (xspl ni c a f g).2)
/-- the accrued interest of a customer's invoices; what is charged is taken off -/
def xacs (f : Nat → Nat → Int32) (g : Nat → Nat → Int64) (c : Int32) : Nat → Int32 := fun j => if f 10 j = c then xac f g j else 0
def xdrp (f : Nat → Nat → Int32) (g : Nat → Nat → Int64) (c : Int32) : Nat → Int64 := fun j => g 15 j - (if f 10 j = c then (xac f g j).toInt64 * xun (f 7 c.toNatClampNeg) else 0)
def o_charge (nc ni nl : Nat) (c t : Int32) (n : Nat → Int32) (f : Nat → Nat → Int32) (g : Nat → Nat → Int64) : Int32 × mS := if ¬ xin c nc then oNo 1 n f g else if ¬ xokD t then oNo 2 n f g else if 0 < xsum (xacs f g c) ni ∧ ni = 24 then oNo 3 n f g else if xsum (xacs f g c) ni = 0 then (-1, nup n 0 0, f, g) else (nI ni, mEn ni nl (xsum (xacs f g c) ni) (nup n 0 0), mEf ni nl c (xsum (xacs f g c) ni) t 1 n f, gup g 15 (xpreL (xdrp f g c) (g 15) ni))
theorem xpreL_ge {t o : Nat → Int64} {i j : Nat} (h : i ≤ j) : xpreL t o i j = o j := if_neg (by omega)