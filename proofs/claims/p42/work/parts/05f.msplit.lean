/-- a split in proportion: the shares rounded down, the remainders, and the cents that are left -/
def xs0 (f : Nat → Nat → Int32) (c a : Int32) (all : Int64) : Nat → Int32 := fun j => if xclr f c j = 0 then 0 else (a.toInt64 * xclr f c j / all).toInt32
def xr0 (f : Nat → Nat → Int32) (c a : Int32) (all : Int64) : Nat → Int64 := fun j => if xclr f c j = 0 then 0 else a.toInt64 * xclr f c j - a.toInt64 * xclr f c j / all * all
def xgr (R : Nat → Int64) : Nat → Nat
  | 0 => 0
  | k + 1 => if R (xgr R k) < R k then k else xgr R k
theorem xgr_s {R : Nat → Int64} {k : Nat} : xgr R (k + 1) = if R (xgr R k) < R k then k else xgr R k := rfl
theorem xgr_1 {R : Nat → Int64} : xgr R 1 = 0 := by
  rw [xgr_s]
  split <;> rfl
theorem xgr_lt {R : Nat → Int64} : ∀ k, xgr R (k + 1) < k + 1 := by
  intro k
  induction k with
  | zero => rw [xgr_1]; exact Nat.zero_lt_one
  | succ k ih =>
    rw [xgr_s]
    split
    · exact Nat.lt_succ_self _
    · exact Nat.lt_succ_of_lt ih
def xgive (ni : Nat) : Nat → (Nat → Int32) → (Nat → Int64) → (Nat → Int32) × (Nat → Int64)
  | 0, S, R => (S, R)
  | q + 1, S, R => xgive ni q (upd S (xgr R ni) (S (xgr R ni) + 1)) (vp_updL R (xgr R ni) 0)
def xall (f : Nat → Nat → Int32) (c : Int32) (ni : Nat) : Int64 := xsumL (xclr f c) ni
def xlft (f : Nat → Nat → Int32) (c a : Int32) (ni : Nat) : Nat → Int32 := xsubt a (xs0 f c a (xall f c ni))
def xspl (ni : Nat) (c a : Int32) (f : Nat → Nat → Int32) (g : Nat → Nat → Int64) : (Nat → Int32) × (Nat → Int64) := xgive ni (xlft f c a ni ni).toNatClampNeg (xpre (xs0 f c a (xall f c ni)) (f 25) ni) (xpreL (xr0 f c a (xall f c ni)) (g 26) ni)
theorem xcl0 {x : Int32} (h : x ≤ 0) : x.toNatClampNeg = 0 := by
  have h1 := Int32.le_iff_toInt_le.mp h
  rw [Int32.toInt_zero] at h1
  show x.toInt.toNat = 0
  omega
theorem xclr_fup {f : Nat → Nat → Int32} {c : Int32} {w : Nat → Int32} : xclr (fup f 25 w) c = xclr f c := rfl
theorem fup_id {f : Nat → Nat → Int32} {j : Nat} : fup f j (f j) = f := by
  funext k
  by_cases h : k = j
  · subst h; exact fup_s
  · exact fup_n h
theorem gup_id {f : Nat → Nat → Int64} {j : Nat} : gup f j (f j) = f := by
  funext k
  by_cases h : k = j
  · subst h; exact gup_s
  · exact gup_n h