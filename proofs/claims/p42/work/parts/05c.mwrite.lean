def mWn (nl : Nat) (a : Int32) (n : Nat → Int32) : Nat → Int32 := if a = 0 then n else nup n 5 (nI (nl + 1))
def mWf (nl i : Nat) (a : Int32) (f : Nat → Nat → Int32) : Nat → Nat → Int32 := if a = 0 then f else fup (fup f 23 (upd (f 23) nl (nI i))) 24 (upd (f 24) nl a)
def mWl (nl : Nat) (a : Int32) : Nat := if a = 0 then nl else nl + 1
theorem xI_W {n : Nat → Int32} {nc ni np nl : Nat} {a : Int32} (h : xI n nc ni np nl) (hl : nl < 16000) : xI (mWn nl a n) nc ni np (mWl nl a) := by
  unfold mWn mWl
  by_cases ha : a = 0
  · rw [if_pos ha, if_pos ha]; exact h
  · rw [if_neg ha, if_neg ha]
    obtain ⟨h1, h2, h3, h4, h5, h6, h7, h8⟩ := h
    exact ⟨h1, h2, h3, rfl, h5, h6, h7, hl⟩
/-- an invoice is entered -/
def mEf (ni nl : Nat) (c a t b : Int32) (n : Nat → Int32) (f : Nat → Nat → Int32) : Nat → Nat → Int32 := mWf nl ni a (fup (fup (fup (fup (fup f 10 (upd (f 10) ni c)) 11 (upd (f 11) ni a)) 12 (upd (f 12) ni (n 1 + t))) 13 (upd (f 13) ni a)) 16 (upd (f 16) ni b))
def mEn (ni nl : Nat) (a : Int32) (n : Nat → Int32) : Nat → Int32 := nup (mWn nl a n) 3 (nI (ni + 1))
/-- an amount goes from a payment to an invoice -/
def mPf (nl p i : Nat) (a : Int32) (f : Nat → Nat → Int32) : Nat → Nat → Int32 := mWf nl i (-a) (fup (fup (fup (fup (fup (fup f 22 (upd (f 22) (24 * p + i) (f 22 (24 * p + i) + a))) 20 (upd (f 20) p (f 20 p - a))) 13 (upd (f 13) i (f 13 i - a))) 14 (upd (f 14) i (if f 13 i - a < f 14 i then f 13 i - a else f 14 i))) 18 (upd (f 18) i 0)) 17 (upd (f 17) i (if f 13 i - a = 0 then 0 else f 17 i)))
/-- an amount is taken back -/
def mBf (nl p i : Nat) (f : Nat → Nat → Int32) : Nat → Nat → Int32 := mWf nl i (f 22 (24 * p + i)) (fup (fup (fup f 22 (upd (f 22) (24 * p + i) 0)) 20 (upd (f 20) p (f 20 p + f 22 (24 * p + i)))) 13 (upd (f 13) i (f 13 i + f 22 (24 * p + i))))
theorem nIs1 (k : Nat) : nI k + 1 - 1 = nI k := by rw [nI_1]; exact nI_pred k
def o_postInvoice (nc ni nl : Nat) (c a t : Int32) (n : Nat → Int32) (f : Nat → Nat → Int32) (g : Nat → Nat → Int64) : Int32 × mS := if ¬ xin c nc then oNo 1 n f g else if ¬ (xokA a ∧ xokD t) then oNo 2 n f g else if ni = 24 then oNo 3 n f g else (nI ni, mEn ni nl a (nup n 0 0), mEf ni nl c a t 0 n f, g)
def o_release (ni np nl : Nat) (p i : Int32) (n : Nat → Int32) (f : Nat → Nat → Int32) (g : Nat → Nat → Int64) : Int32 × mS := if ¬ (xin p np ∧ xin i ni) then oNo 1 n f g else (f 22 (24 * p.toNatClampNeg + i.toNatClampNeg), mWn nl (f 22 (24 * p.toNatClampNeg + i.toNatClampNeg)) (nup n 0 0), mBf nl p.toNatClampNeg i.toNatClampNeg f, g)
def o_dispute (ni : Nat) (i a : Int32) (n : Nat → Int32) (f : Nat → Nat → Int32) (g : Nat → Nat → Int64) : Int32 × mS := if ¬ xin i ni then oNo 1 n f g else if a < 1 then oNo 2 n f g else if f 13 i.toNatClampNeg - f 14 i.toNatClampNeg < a then oNo 3 n f g else (f 14 i.toNatClampNeg + a, nup n 0 0, fup f 14 (upd (f 14) i.toNatClampNeg (f 14 i.toNatClampNeg + a)), g)
/-- a dispute is settled: what is granted is credited -/
def mSf (nl i : Nat) (a : Int32) (f : Nat → Nat → Int32) : Nat → Nat → Int32 := mWf nl i (-a) (if f 13 i - a = 0 then fup (fup (fup (fup f 13 (upd (f 13) i (f 13 i - a))) 14 (upd (f 14) i 0)) 17 (upd (f 17) i 0)) 18 (upd (f 18) i 0) else fup (fup f 13 (upd (f 13) i (f 13 i - a))) 14 (upd (f 14) i 0))
def o_settle (ni nl : Nat) (i a : Int32) (n : Nat → Int32) (f : Nat → Nat → Int32) (g : Nat → Nat → Int64) : Int32 × mS := if ¬ xin i ni then oNo 1 n f g else if f 14 i.toNatClampNeg = 0 then oNo 2 n f g else if ¬ (0 ≤ a ∧ a ≤ f 14 i.toNatClampNeg) then oNo 3 n f g else (f 13 i.toNatClampNeg - a, mWn nl (-a) (nup n 0 0), mSf nl i.toNatClampNeg a f, g)
def xpat (m : Int32) : Int32 := if m = 0 then 7 else if m = 3 then 21 else 14
/-- days to the next reminder -/
def xdr (n : Nat → Int32) (f : Nat → Nat → Int32) (i : Nat) : Int32 := if ¬ (f 17 i < 4 ∧ 0 < f 13 i ∧ f 14 i = 0) then -1 else (if (if n 1 < f 12 i then f 12 i else n 1) < f 9 (xow f i) then f 9 (xow f i) else (if n 1 < f 12 i then f 12 i else n 1)) - n 1 + xpat (f 17 i) - f 18 i