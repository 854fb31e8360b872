/-! What the reference's calls do, as functions of its state: the answer, the new state (its refusal at n 0). -/
abbrev mS : Type := (Nat → Int32) × (Nat → Nat → Int32) × (Nat → Nat → Int64)
def mP (h : xH) (o : Int32 × mS) : Option Value → xH → Prop := fun r h' => r = some (.int o.1) ∧ h' = xM h o.2.1 o.2.2.1 o.2.2.2
def oNo (why : Int32) (n : Nat → Int32) (f : Nat → Nat → Int32) (g : Nat → Nat → Int64) : Int32 × mS := (0, nup n 0 why, f, g)
def oRd (p : Prop) [Decidable p] (v : Int32) (n : Nat → Int32) (f : Nat → Nat → Int32) (g : Nat → Nat → Int64) : Int32 × mS := if p then (v, nup n 0 0, f, g) else oNo 1 n f g
theorem mP_rt {p : Prop} [Decidable p] {v : Int32} {h : xH} {n : Nat → Int32} {f : Nat → Nat → Int32} {g : Nat → Nat → Int64} (hp : p) {w : Int32} (e : w = v) : mP h (oRd p v n f g) (some (.int w)) (xM h (nup n 0 0) f g) := by
  unfold mP oRd
  rw [if_pos hp, e]
  exact ⟨rfl, rfl⟩
theorem mP_rf {p : Prop} [Decidable p] {v : Int32} {h : xH} {n : Nat → Int32} {f : Nat → Nat → Int32} {g : Nat → Nat → Int64} (hp : ¬ p) : mP h (oRd p v n f g) (some (.int 0)) (xM h (nup n 0 1) f g) := by
  unfold mP oRd
  rw [if_neg hp]
  exact ⟨rfl, rfl⟩
/-- the customer of an invoice, of a payment -/
def xow (f : Nat → Nat → Int32) (i : Nat) : Nat := (f 10 i).toNatClampNeg
def xun (m : Int32) : Int64 := 10000 * (if m = 0 then (365 : Int32) else 360).toInt64
theorem xun_ne (m : Int32) : ¬ xun m = 0 := by
  unfold xun
  split <;> decide
/-- the accrued cents of an invoice -/
def xac (f : Nat → Nat → Int32) (g : Nat → Nat → Int64) (i : Nat) : Int32 := (g 15 i / xun (f 7 (xow f i))).toInt32
theorem xow_eq {f : Nat → Nat → Int32} {i k : Nat} (h : f 10 i = nI k) (hk : k < 2 ^ 31) : xow f i = k := by
  unfold xow
  rw [h, nI_clamp hk]
abbrev xokR (rule : Int32) : Prop := 0 ≤ rule ∧ rule ≤ 2
abbrev xokT (rate : Int32) : Prop := 0 ≤ rate ∧ rate ≤ 3000
abbrev xokD (term : Int32) : Prop := 0 ≤ term ∧ term ≤ 120
abbrev xokA (amount : Int32) : Prop := 1 ≤ amount ∧ amount ≤ 10000000
def o_setRule (nc : Nat) (c rule : Int32) (n : Nat → Int32) (f : Nat → Nat → Int32) (g : Nat → Nat → Int64) : Int32 × mS := if ¬ xin c nc then oNo 1 n f g else if ¬ xokR rule then oNo 2 n f g else (f 6 c.toNatClampNeg, nup n 0 0, fup f 6 (upd (f 6) c.toNatClampNeg rule), g)
def o_setRate (nc : Nat) (c rate : Int32) (n : Nat → Int32) (f : Nat → Nat → Int32) (g : Nat → Nat → Int64) : Int32 × mS := if ¬ xin c nc then oNo 1 n f g else if ¬ xokT rate then oNo 2 n f g else (f 8 c.toNatClampNeg, nup n 0 0, fup f 8 (upd (f 8) c.toNatClampNeg rate), g)
def o_pause (nc : Nat) (c days : Int32) (n : Nat → Int32) (f : Nat → Nat → Int32) (g : Nat → Nat → Int64) : Int32 × mS := if ¬ xin c nc then oNo 1 n f g else if ¬ (0 ≤ days ∧ days ≤ 200) then oNo 2 n f g else (n 1 + days, nup n 0 0, fup f 9 (upd (f 9) c.toNatClampNeg (n 1 + days)), g)
def o_addCustomer (nc : Nat) (rule conv rate : Int32) (n : Nat → Int32) (f : Nat → Nat → Int32) (g : Nat → Nat → Int64) : Int32 × mS := if ¬ (xokR rule ∧ xokR conv ∧ xokT rate) then oNo 1 n f g else if nc = 6 then oNo 2 n f g else (nI nc, nup (nup n 0 0) 2 (nI (nc + 1)), fup (fup (fup f 6 (upd (f 6) nc rule)) 7 (upd (f 7) nc conv)) 8 (upd (f 8) nc rate), g)
def mWr (nl : Nat) (i : Nat) (a : Int32) (n : Nat → Int32) (f : Nat → Nat → Int32) : (Nat → Int32) × (Nat → Nat → Int32) := if a = 0 then (n, f) else (nup n 5 (nI (nl + 1)), fup (fup f 23 (upd (f 23) nl (nI i))) 24 (upd (f 24) nl a))