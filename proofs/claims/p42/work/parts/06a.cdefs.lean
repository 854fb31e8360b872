/-! The class's objects as a function of the reference's state (n, f, g) and of what the class alone keeps: jc 0 credited, jc 1 a payment's amount, jc 2 what a reversed payment's field says, jc 3 weights, jc 4 parts, jr remainders. -/
theorem xleT {a b : Nat} (h : a ≤ b) : Nat.ble a b = true := Nat.ble_eq_true_of_le h
theorem xleF {a b : Nat} (h : b < a) : Nat.ble a b = false := by
  cases h2 : Nat.ble a b with
  | true => exact absurd (Nat.le_of_ble_eq_true h2) (by omega)
  | false => rfl
def aCap (c : Nat) : Nat := bif Nat.ble c 10 then 10 else bif Nat.ble c 15 then 15 else bif Nat.ble c 22 then 22 else 33
def aGen (c : Nat) : Nat := bif Nat.beq c 0 then 0 else bif Nat.ble c 10 then 1 else bif Nat.ble c 15 then 2 else bif Nat.ble c 22 then 3 else 4
/-- the number of a list's row -/
def aAd (b c : Nat) : Nat := bif Nat.beq c 0 then 901 else 300 + (b + aGen c)
def lGen (c : Nat) : Nat := bif Nat.ble c 64 then 0 else bif Nat.ble c 128 then 1 else bif Nat.ble c 256 then 2 else bif Nat.ble c 512 then 3 else bif Nat.ble c 1024 then 4 else bif Nat.ble c 2048 then 5 else bif Nat.ble c 4096 then 6 else bif Nat.ble c 8192 then 7 else 8
def lCap (c : Nat) : Nat := bif Nat.ble c 64 then 64 else bif Nat.ble c 128 then 128 else bif Nat.ble c 256 then 256 else bif Nat.ble c 512 then 512 else bif Nat.ble c 1024 then 1024 else bif Nat.ble c 2048 then 2048 else bif Nat.ble c 4096 then 4096 else bif Nat.ble c 8192 then 8192 else 16384
def xpow (f : Nat → Nat → Int32) (i : Nat) : Nat := (f 19 i).toNatClampNeg
def xpd (f : Nat → Nat → Int32) (jc : Nat → Nat → Int32) (i : Nat) : Int32 := f 11 i - jc 0 i - f 13 i
def xsp (f : Nat → Nat → Int32) (jc : Nat → Nat → Int32) (i : Nat) : Int32 := if f 21 i = 0 then jc 1 i - f 20 i else jc 2 i
def xLo (b c : Nat) : List Value := [.int (nI c), .ref (aAd b c), .int (nI c)]
def xCo (f : Nat → Nat → Int32) (i : Nat) : List Value := [.int (f 7 i), .int (f 6 i), .int (f 8 i), .int (f 9 i)]
def xIo (f : Nat → Nat → Int32) (g : Nat → Nat → Int64) (jc : Nat → Nat → Int32) (i : Nat) : List Value := [.ref (16 + xow f i), .int (f 11 i), .int (f 12 i), .int (f 16 i), .int (f 14 i), .int (f 17 i), .int (xpd f jc i), .int (jc 0 i), .int (f 18 i), .long (g 15 i)]
def xPo (f : Nat → Nat → Int32) (jc : Nat → Nat → Int32) (i : Nat) : List Value := [.ref (16 + xpow f i), .int (f 21 i), .int (jc 1 i), .ref (96 + i), .int (xsp f jc i)]
def xBo (t : Int32) : List Value := [.ref 1, .ref 2, .ref 3, .ref 7, .ref 10, .int t]
def xDo (nl : Nat) : List Value := [.int (nI nl), .ref (340 + lGen nl), .ref (350 + lGen nl)]
def xSo : List Value := [.ref 11, .ref 12, .ref 13]
/-- a list's row's contents -/
def xLr (b c : Nat) : Nat → Option Nat := fun q => if q < c then some (b + q) else none
/-- a ledger's row's contents -/
def xDr (c : Nat) (w : Nat → Int32) : Nat → Int32 := fun q => if q < c then w q else 0
/-- a payment's row's contents -/
def xPr (f : Nat → Nat → Int32) (i : Nat) : Nat → Int32 := fun q => if q < 24 then f 22 (24 * i + q) else 0
def xCf (nc ni np nl : Nat) (t : Int32) (jc : Nat → Nat → Int32) (jr : Nat → Int64) (k : Nat) : Option va_E :=
  bif Nat.beq k 0 then some (.inr (6, xBo t)) else bif Nat.beq k 1 then some (.inr (0, xLo 0 nc)) else bif Nat.beq k 2 then some (.inr (0, xLo 10 ni)) else bif Nat.beq k 3 then some (.inr (0, xLo 20 np)) else bif Nat.beq k 7 then some (.inr (3, xDo nl)) else bif Nat.beq k 10 then some (.inr (5, xSo)) else bif Nat.beq k 11 then some (.inl (0, 24, .inl (jc 3))) else bif Nat.beq k 12 then some (.inl (0, 24, .inl (jc 4))) else bif Nat.beq k 13 then some (.inl (1, 24, .inr (.inl jr))) else none
def xCc (nc : Nat) (f : Nat → Nat → Int32) (i : Nat) : Option va_E := bif Nat.ble (i + 1) nc then some (.inr (1, xCo f i)) else none
def xCi (ni : Nat) (f : Nat → Nat → Int32) (g : Nat → Nat → Int64) (jc : Nat → Nat → Int32) (i : Nat) : Option va_E := bif Nat.ble (i + 1) ni then some (.inr (2, xIo f g jc i)) else none
def xCp (np : Nat) (f : Nat → Nat → Int32) (jc : Nat → Nat → Int32) (i : Nat) : Option va_E := bif Nat.ble (i + 1) np then some (.inr (4, xPo f jc i)) else none
def xCa (np : Nat) (f : Nat → Nat → Int32) (i : Nat) : Option va_E := bif Nat.ble (i + 1) np then some (.inl (0, 24, .inl (xPr f i))) else none
def xCL (b c : Nat) (j : Nat) : Option va_E := bif Nat.beq j 0 then none else bif Nat.beq j (aGen c) then some (.inl (3, aCap c, .inr (.inr (.inr (.inr (xLr b c)))))) else none
def xCD (nl : Nat) (w : Nat → Int32) (j : Nat) : Option va_E := bif Nat.beq j (lGen nl) then some (.inl (0, lCap nl, .inl (xDr nl w))) else none
def xCr (nc ni np nl : Nat) (f : Nat → Nat → Int32) (j : Nat) : Option va_E := bif Nat.ble j 9 then xCL 16 nc j else bif Nat.ble j 19 then xCL 32 ni (j - 10) else bif Nat.ble j 29 then xCL 64 np (j - 20) else bif Nat.ble j 39 then none else bif Nat.ble j 49 then xCD nl (f 23) (j - 40) else bif Nat.ble j 59 then xCD nl (f 24) (j - 50) else none
def xC (h : xH) (nc ni np nl : Nat) (t : Int32) (f : Nat → Nat → Int32) (g : Nat → Nat → Int64) (jc : Nat → Nat → Int32) (jr : Nat → Int64) : xH := fun k => bif Nat.ble k 15 then xCf nc ni np nl t jc jr k else bif Nat.ble k 31 then xCc nc f (k - 16) else bif Nat.ble k 63 then xCi ni f g jc (k - 32) else bif Nat.ble k 95 then xCp np f jc (k - 64) else bif Nat.ble k 127 then xCa np f (k - 96) else bif Nat.ble 300 k && Nat.ble k 399 then xCr nc ni np nl f (k - 300) else h k
section XC
variable {h : xH} {nc ni np nl : Nat} {t : Int32} {f : Nat → Nat → Int32} {g : Nat → Nat → Int64} {jc : Nat → Nat → Int32} {jr : Nat → Int64}
theorem xC_0 : xC h nc ni np nl t f g jc jr 0 = some (.inr (6, xBo t)) := rfl
theorem xC_1 : xC h nc ni np nl t f g jc jr 1 = some (.inr (0, xLo 0 nc)) := rfl
theorem xC_2 : xC h nc ni np nl t f g jc jr 2 = some (.inr (0, xLo 10 ni)) := rfl
theorem xC_3 : xC h nc ni np nl t f g jc jr 3 = some (.inr (0, xLo 20 np)) := rfl
theorem xC_7 : xC h nc ni np nl t f g jc jr 7 = some (.inr (3, xDo nl)) := rfl
theorem xC_10 : xC h nc ni np nl t f g jc jr 10 = some (.inr (5, xSo)) := rfl
theorem xC_11 : xC h nc ni np nl t f g jc jr 11 = some (.inl (0, 24, .inl (jc 3))) := rfl
theorem xC_12 : xC h nc ni np nl t f g jc jr 12 = some (.inl (0, 24, .inl (jc 4))) := rfl
theorem xC_13 : xC h nc ni np nl t f g jc jr 13 = some (.inl (1, 24, .inr (.inl jr))) := rfl
theorem xC_fx {k : Nat} (hk : k ≤ 15) : xC h nc ni np nl t f g jc jr k = xCf nc ni np nl t jc jr k := by
  unfold xC
  rw [xleT hk]; rfl
theorem xC_cx {i : Nat} (hi : i ≤ 15) : xC h nc ni np nl t f g jc jr (16 + i) = xCc nc f i := by
  unfold xC
  rw [xleF (show 15 < 16 + i by omega), xleT (show 16 + i ≤ 31 by omega), Nat.add_sub_cancel_left]; rfl
theorem xC_ix {i : Nat} (hi : i ≤ 31) : xC h nc ni np nl t f g jc jr (32 + i) = xCi ni f g jc i := by
  unfold xC
  rw [xleF (show 15 < 32 + i by omega), xleF (show 31 < 32 + i by omega), xleT (show 32 + i ≤ 63 by omega), Nat.add_sub_cancel_left]; rfl
theorem xC_px {i : Nat} (hi : i ≤ 31) : xC h nc ni np nl t f g jc jr (64 + i) = xCp np f jc i := by
  unfold xC
  rw [xleF (show 15 < 64 + i by omega), xleF (show 31 < 64 + i by omega), xleF (show 63 < 64 + i by omega), xleT (show 64 + i ≤ 95 by omega), Nat.add_sub_cancel_left]; rfl
theorem xC_ax {i : Nat} (hi : i ≤ 31) : xC h nc ni np nl t f g jc jr (96 + i) = xCa np f i := by
  unfold xC
  rw [xleF (show 15 < 96 + i by omega), xleF (show 31 < 96 + i by omega), xleF (show 63 < 96 + i by omega), xleF (show 95 < 96 + i by omega), xleT (show 96 + i ≤ 127 by omega), Nat.add_sub_cancel_left]; rfl
theorem xC_rx {i : Nat} (hi : i ≤ 99) : xC h nc ni np nl t f g jc jr (300 + i) = xCr nc ni np nl f i := by
  unfold xC
  rw [xleF (show 15 < 300 + i by omega), xleF (show 31 < 300 + i by omega), xleF (show 63 < 300 + i by omega), xleF (show 95 < 300 + i by omega), xleF (show 127 < 300 + i by omega), xleT (show 300 ≤ 300 + i by omega), xleT (show 300 + i ≤ 399 by omega), Nat.add_sub_cancel_left]; rfl
theorem xC_ox {k : Nat} (h1 : 127 < k) (h2 : k < 300 ∨ 399 < k) : xC h nc ni np nl t f g jc jr k = h k := by
  unfold xC
  rw [xleF (show 15 < k by omega), xleF (show 31 < k by omega), xleF (show 63 < k by omega), xleF (show 95 < k by omega), xleF h1]
  rcases h2 with h2 | h2
  · rw [xleF h2]; rfl
  · rw [xleF h2, Bool.and_false]; rfl
theorem xC_cu {i : Nat} (hi : i < nc) (h2 : nc ≤ 6) : xC h nc ni np nl t f g jc jr (16 + i) = some (.inr (1, xCo f i)) := by
  rw [xC_cx (by omega)]
  unfold xCc
  rw [xleT (show i + 1 ≤ nc from hi)]; rfl
theorem xC_in {i : Nat} (hi : i < ni) (h2 : ni ≤ 24) : xC h nc ni np nl t f g jc jr (32 + i) = some (.inr (2, xIo f g jc i)) := by
  rw [xC_ix (by omega)]
  unfold xCi
  rw [xleT (show i + 1 ≤ ni from hi)]; rfl
theorem xC_pa {i : Nat} (hi : i < np) (h2 : np ≤ 24) : xC h nc ni np nl t f g jc jr (64 + i) = some (.inr (4, xPo f jc i)) := by
  rw [xC_px (by omega)]
  unfold xCp
  rw [xleT (show i + 1 ≤ np from hi)]; rfl
theorem xC_pr {i : Nat} (hi : i < np) (h2 : np ≤ 24) : xC h nc ni np nl t f g jc jr (96 + i) = some (.inl (0, 24, .inl (xPr f i))) := by
  rw [xC_ax (by omega)]
  unfold xCa
  rw [xleT (show i + 1 ≤ np from hi)]; rfl
theorem aGen_le (c : Nat) : aGen c ≤ 4 := by
  unfold aGen
  cases Nat.beq c 0 <;> cases Nat.ble c 10 <;> cases Nat.ble c 15 <;> cases Nat.ble c 22 <;> decide
theorem aGen_0 {c : Nat} (h : 0 < c) : aGen c ≠ 0 := by
  unfold aGen
  rw [xb_f (show c ≠ 0 by omega)]
  cases Nat.ble c 10 <;> cases Nat.ble c 15 <;> cases Nat.ble c 22 <;> decide
theorem lGen_le (c : Nat) : lGen c ≤ 8 := by
  unfold lGen
  cases Nat.ble c 64 <;> cases Nat.ble c 128 <;> cases Nat.ble c 256 <;> cases Nat.ble c 512 <;> cases Nat.ble c 1024 <;> cases Nat.ble c 2048 <;> cases Nat.ble c 4096 <;> cases Nat.ble c 8192 <;> decide
theorem xbr (k : Nat) : Nat.beq k k = true := Nat.beq_refl k
theorem xC_l1 (h1 : 0 < nc) : xC h nc ni np nl t f g jc jr (aAd 0 nc) = some (.inl (3, aCap nc, .inr (.inr (.inr (.inr (xLr 16 nc)))))) := by
  have := aGen_le nc
  have h2 := aGen_0 h1
  unfold aAd
  rw [xb_f (show nc ≠ 0 by omega), cond_false, xC_rx (by omega), Nat.zero_add]
  unfold xCr
  rw [xleT (show aGen nc ≤ 9 by omega), cond_true]
  unfold xCL
  rw [xb_f h2, xbr]; rfl
theorem xC_l2 (h1 : 0 < ni) : xC h nc ni np nl t f g jc jr (aAd 10 ni) = some (.inl (3, aCap ni, .inr (.inr (.inr (.inr (xLr 32 ni)))))) := by
  have := aGen_le ni
  have h2 := aGen_0 h1
  unfold aAd
  rw [xb_f (show ni ≠ 0 by omega), cond_false, xC_rx (by omega)]
  unfold xCr
  rw [xleF (show 9 < 10 + aGen ni by omega), xleT (show 10 + aGen ni ≤ 19 by omega), cond_true, cond_false, Nat.add_sub_cancel_left]
  unfold xCL
  rw [xb_f h2, xbr]; rfl
theorem xC_l3 (h1 : 0 < np) : xC h nc ni np nl t f g jc jr (aAd 20 np) = some (.inl (3, aCap np, .inr (.inr (.inr (.inr (xLr 64 np)))))) := by
  have := aGen_le np
  have h2 := aGen_0 h1
  unfold aAd
  rw [xb_f (show np ≠ 0 by omega), cond_false, xC_rx (by omega)]
  unfold xCr
  rw [xleF (show 9 < 20 + aGen np by omega), xleF (show 19 < 20 + aGen np by omega), xleT (show 20 + aGen np ≤ 29 by omega), cond_true, cond_false, cond_false, Nat.add_sub_cancel_left]
  unfold xCL
  rw [xb_f h2, xbr]; rfl
theorem xC_d1 : xC h nc ni np nl t f g jc jr (340 + lGen nl) = some (.inl (0, lCap nl, .inl (xDr nl (f 23)))) := by
  have := lGen_le nl
  rw [show 340 + lGen nl = 300 + (40 + lGen nl) by omega, xC_rx (by omega)]
  unfold xCr
  rw [xleF (show 9 < 40 + lGen nl by omega), xleF (show 19 < 40 + lGen nl by omega), xleF (show 29 < 40 + lGen nl by omega), xleF (show 39 < 40 + lGen nl by omega), xleT (show 40 + lGen nl ≤ 49 by omega), Nat.add_sub_cancel_left]
  unfold xCD
  rw [xbr]; rfl
theorem xC_d2 : xC h nc ni np nl t f g jc jr (350 + lGen nl) = some (.inl (0, lCap nl, .inl (xDr nl (f 24)))) := by
  have := lGen_le nl
  rw [show 350 + lGen nl = 300 + (50 + lGen nl) by omega, xC_rx (by omega)]
  unfold xCr
  rw [xleF (show 9 < 50 + lGen nl by omega), xleF (show 19 < 50 + lGen nl by omega), xleF (show 29 < 50 + lGen nl by omega), xleF (show 39 < 50 + lGen nl by omega), xleF (show 49 < 50 + lGen nl by omega), xleT (show 50 + lGen nl ≤ 59 by omega), Nat.add_sub_cancel_left]
  unfold xCD
  rw [xbr]; rfl
theorem xLr_lt {b c i : Nat} (h : i < c) : xLr b c i = some (b + i) := if_pos h
theorem xDr_lt {c i : Nat} {w : Nat → Int32} (h : i < c) : xDr c w i = w i := if_pos h
theorem xPr_lt {i q : Nat} (h : q < 24) : xPr f i q = f 22 (24 * i + q) := if_pos h
theorem aCap_ge {c : Nat} (h : c ≤ 33) : c ≤ aCap c := by
  unfold aCap
  by_cases h1 : c ≤ 10
  · rw [xleT h1]; exact h1
  · rw [xleF (show 10 < c by omega)]
    by_cases h2 : c ≤ 15
    · rw [xleT h2]; exact h2
    · rw [xleF (show 15 < c by omega)]
      by_cases h3 : c ≤ 22
      · rw [xleT h3]; exact h3
      · rw [xleF (show 22 < c by omega)]; exact h
theorem aCap_le (c : Nat) : aCap c ≤ 33 := by
  unfold aCap
  cases Nat.ble c 10 <;> cases Nat.ble c 15 <;> cases Nat.ble c 22 <;> decide
end XC
theorem xC_up {h : xH} {nc' ni' np' nl' : Nat} {t' : Int32} {f' : Nat → Nat → Int32} {g' : Nat → Nat → Int64} {jc' : Nat → Nat → Int32} {jr' : Nat → Int64} {hp : xH} {a : Nat} {e : va_E} (he : xC h nc' ni' np' nl' t' f' g' jc' jr' a = some e) (ho : ∀ k, k ≠ a → 127 < k → (k < 300 ∨ 399 < k) → hp k = h k)
    (hf : ∀ k, k ≤ 15 → k ≠ a → hp k = xCf nc' ni' np' nl' t' jc' jr' k) (hc : ∀ i, i ≤ 15 → 16 + i ≠ a → hp (16 + i) = xCc nc' f' i) (hi : ∀ i, i ≤ 31 → 32 + i ≠ a → hp (32 + i) = xCi ni' f' g' jc' i) (hq : ∀ i, i ≤ 31 → 64 + i ≠ a → hp (64 + i) = xCp np' f' jc' i) (ha : ∀ i, i ≤ 31 → 96 + i ≠ a → hp (96 + i) = xCa np' f' i) (hr : ∀ i, i ≤ 99 → 300 + i ≠ a → hp (300 + i) = xCr nc' ni' np' nl' f' i) : xup hp a e = xC h nc' ni' np' nl' t' f' g' jc' jr' := by
  funext k
  by_cases hk : k = a
  · subst hk; rw [xup_s]; exact he.symm
  · rw [xup_n hk]
    by_cases h1 : k ≤ 15
    · rw [xC_fx h1]; exact hf k h1 hk
    · by_cases h2 : k ≤ 31
      · obtain ⟨i, rfl⟩ : ∃ i, k = 16 + i := ⟨k - 16, by omega⟩
        rw [xC_cx (by omega)]; exact hc i (by omega) hk
      · by_cases h3 : k ≤ 63
        · obtain ⟨i, rfl⟩ : ∃ i, k = 32 + i := ⟨k - 32, by omega⟩
          rw [xC_ix (by omega)]; exact hi i (by omega) hk
        · by_cases h4 : k ≤ 95
          · obtain ⟨i, rfl⟩ : ∃ i, k = 64 + i := ⟨k - 64, by omega⟩
            rw [xC_px (by omega)]; exact hq i (by omega) hk
          · by_cases h5 : k ≤ 127
            · obtain ⟨i, rfl⟩ : ∃ i, k = 96 + i := ⟨k - 96, by omega⟩
              rw [xC_ax (by omega)]; exact ha i (by omega) hk
            · by_cases h6 : 300 ≤ k ∧ k ≤ 399
              · obtain ⟨i, rfl⟩ : ∃ i, k = 300 + i := ⟨k - 300, by omega⟩
                rw [xC_rx (by omega)]; exact hr i (by omega) hk
              · rw [xC_ox (by omega) (by omega)]; exact ho k hk (by omega) (by omega)
theorem xud {f : Nat → Int32} {i k : Nat} {v : Int32} (h : k ≠ i) : upd f i v k = f k := if_neg h
theorem xudL {f : Nat → Int64} {i k : Nat} {v : Int64} (h : k ≠ i) : vp_updL f i v k = f k := if_neg h
theorem xudL_i {f : Nat → Int64} {i : Nat} {v : Int64} : vp_updL f i v i = v := if_pos rfl
section XCU
variable {h : xH} {nc ni np nl : Nat} {t : Int32} {f : Nat → Nat → Int32} {g : Nat → Nat → Int64} {jc : Nat → Nat → Int32} {jr : Nat → Int64}
theorem xr_1 {a b c v : Int32} : a - b - (c - v) = a - b - c + v := by grind
theorem xr_2 {a b c v : Int32} : a - b - (c + v) = a - b - c - v := by grind
theorem xr_3 {a b c v : Int32} : a - (b + v) - (c - v) = a - b - c := by grind
theorem xr_4 {a b c : Int32} : a - b - (a - b - c) = c := by grind
theorem xr_5 {a b : Int32} : a - (a - b) = b := by grind
theorem xr_6 {a b c : Int32} : a - (b - c) = a - b + c := by grind
theorem xCc_6 {i : Nat} {v : Int32} (hi : i < nc) (h2 : nc ≤ 6) : xup (xC h nc ni np nl t f g jc jr) (16 + i) (.inr (1, (xCo f i).set 1 (.int v))) = xC h nc ni np nl t (fup f 6 (upd (f 6) i v)) g jc jr := by
  refine xC_up ?_ ?_ ?_ ?_ ?_ ?_ ?_ ?_
  · rw [xC_cu hi h2]
    exact congrArg (fun z => some (Sum.inr (1, (xCo f i).set 1 (.int z)))) xupd_i
  · exact fun k _ h1 h2 => xC_ox h1 h2
  · exact fun k h1 h2 => xC_fx h1
  · intro j h1 h3
    have hj : j ≠ i := fun z => h3 (by rw [z])
    have e : xCo (fup f 6 (upd (f 6) i v)) j = xCo f j := by
      show (xCo f j).set 1 (.int (upd (f 6) i v j)) = _
      rw [xud hj]; rfl
    rw [xC_cx h1]
    unfold xCc
    rw [e]
  · exact fun i h1 _ => xC_ix h1
  · exact fun i h1 _ => xC_px h1
  · exact fun i h1 _ => xC_ax h1
  · exact fun i h1 _ => xC_rx h1
theorem xCc_8 {i : Nat} {v : Int32} (hi : i < nc) (h2 : nc ≤ 6) : xup (xC h nc ni np nl t f g jc jr) (16 + i) (.inr (1, (xCo f i).set 2 (.int v))) = xC h nc ni np nl t (fup f 8 (upd (f 8) i v)) g jc jr := by
  refine xC_up ?_ ?_ ?_ ?_ ?_ ?_ ?_ ?_
  · rw [xC_cu hi h2]
    exact congrArg (fun z => some (Sum.inr (1, (xCo f i).set 2 (.int z)))) xupd_i
  · exact fun k _ h1 h2 => xC_ox h1 h2
  · exact fun k h1 h2 => xC_fx h1
  · intro j h1 h3
    have hj : j ≠ i := fun z => h3 (by rw [z])
    have e : xCo (fup f 8 (upd (f 8) i v)) j = xCo f j := by
      show (xCo f j).set 2 (.int (upd (f 8) i v j)) = _
      rw [xud hj]; rfl
    rw [xC_cx h1]
    unfold xCc
    rw [e]
  · exact fun i h1 _ => xC_ix h1
  · exact fun i h1 _ => xC_px h1
  · exact fun i h1 _ => xC_ax h1
  · exact fun i h1 _ => xC_rx h1
theorem xCc_9 {i : Nat} {v : Int32} (hi : i < nc) (h2 : nc ≤ 6) : xup (xC h nc ni np nl t f g jc jr) (16 + i) (.inr (1, (xCo f i).set 3 (.int v))) = xC h nc ni np nl t (fup f 9 (upd (f 9) i v)) g jc jr := by
  refine xC_up ?_ ?_ ?_ ?_ ?_ ?_ ?_ ?_
  · rw [xC_cu hi h2]
    exact congrArg (fun z => some (Sum.inr (1, (xCo f i).set 3 (.int z)))) xupd_i
  · exact fun k _ h1 h2 => xC_ox h1 h2
  · exact fun k h1 h2 => xC_fx h1
  · intro j h1 h3
    have hj : j ≠ i := fun z => h3 (by rw [z])
    have e : xCo (fup f 9 (upd (f 9) i v)) j = xCo f j := by
      show (xCo f j).set 3 (.int (upd (f 9) i v j)) = _
      rw [xud hj]; rfl
    rw [xC_cx h1]
    unfold xCc
    rw [e]
  · exact fun i h1 _ => xC_ix h1
  · exact fun i h1 _ => xC_px h1
  · exact fun i h1 _ => xC_ax h1
  · exact fun i h1 _ => xC_rx h1
theorem xCi_14 {i : Nat} {v : Int32} (hi : i < ni) (h2 : ni ≤ 24) : xup (xC h nc ni np nl t f g jc jr) (32 + i) (.inr (2, (xIo f g jc i).set 4 (.int v))) = xC h nc ni np nl t (fup f 14 (upd (f 14) i v)) g jc jr := by
  refine xC_up ?_ ?_ ?_ ?_ ?_ ?_ ?_ ?_
  · rw [xC_in hi h2]
    have e : xIo (fup f 14 (upd (f 14) i v)) g jc i = (xIo f g jc i).set 4 (.int v) := congrArg (fun z => (xIo f g jc i).set 4 (.int z)) xupd_i
    rw [e]
  · exact fun k _ h1 h2 => xC_ox h1 h2
  · exact fun k h1 h2 => xC_fx h1
  · exact fun i h1 _ => xC_cx h1
  · intro j h1 h3
    have hj : j ≠ i := fun z => h3 (by rw [z])
    have e : xIo (fup f 14 (upd (f 14) i v)) g jc j = xIo f g jc j := by
      show (xIo f g jc j).set 4 (.int (upd (f 14) i v j)) = _
      rw [xud hj]; rfl
    rw [xC_ix h1]
    unfold xCi
    rw [e]
  · exact fun i h1 _ => xC_px h1
  · exact fun i h1 _ => xC_ax h1
  · exact fun i h1 _ => xC_rx h1
theorem xCi_17 {i : Nat} {v : Int32} (hi : i < ni) (h2 : ni ≤ 24) : xup (xC h nc ni np nl t f g jc jr) (32 + i) (.inr (2, (xIo f g jc i).set 5 (.int v))) = xC h nc ni np nl t (fup f 17 (upd (f 17) i v)) g jc jr := by
  refine xC_up ?_ ?_ ?_ ?_ ?_ ?_ ?_ ?_
  · rw [xC_in hi h2]
    have e : xIo (fup f 17 (upd (f 17) i v)) g jc i = (xIo f g jc i).set 5 (.int v) := congrArg (fun z => (xIo f g jc i).set 5 (.int z)) xupd_i
    rw [e]
  · exact fun k _ h1 h2 => xC_ox h1 h2
  · exact fun k h1 h2 => xC_fx h1
  · exact fun i h1 _ => xC_cx h1
  · intro j h1 h3
    have hj : j ≠ i := fun z => h3 (by rw [z])
    have e : xIo (fup f 17 (upd (f 17) i v)) g jc j = xIo f g jc j := by
      show (xIo f g jc j).set 5 (.int (upd (f 17) i v j)) = _
      rw [xud hj]; rfl
    rw [xC_ix h1]
    unfold xCi
    rw [e]
  · exact fun i h1 _ => xC_px h1
  · exact fun i h1 _ => xC_ax h1
  · exact fun i h1 _ => xC_rx h1
theorem xCi_18 {i : Nat} {v : Int32} (hi : i < ni) (h2 : ni ≤ 24) : xup (xC h nc ni np nl t f g jc jr) (32 + i) (.inr (2, (xIo f g jc i).set 8 (.int v))) = xC h nc ni np nl t (fup f 18 (upd (f 18) i v)) g jc jr := by
  refine xC_up ?_ ?_ ?_ ?_ ?_ ?_ ?_ ?_
  · rw [xC_in hi h2]
    have e : xIo (fup f 18 (upd (f 18) i v)) g jc i = (xIo f g jc i).set 8 (.int v) := congrArg (fun z => (xIo f g jc i).set 8 (.int z)) xupd_i
    rw [e]
  · exact fun k _ h1 h2 => xC_ox h1 h2
  · exact fun k h1 h2 => xC_fx h1
  · exact fun i h1 _ => xC_cx h1
  · intro j h1 h3
    have hj : j ≠ i := fun z => h3 (by rw [z])
    have e : xIo (fup f 18 (upd (f 18) i v)) g jc j = xIo f g jc j := by
      show (xIo f g jc j).set 8 (.int (upd (f 18) i v j)) = _
      rw [xud hj]; rfl
    rw [xC_ix h1]
    unfold xCi
    rw [e]
  · exact fun i h1 _ => xC_px h1
  · exact fun i h1 _ => xC_ax h1
  · exact fun i h1 _ => xC_rx h1
theorem xCi_15 {i : Nat} {v : Int64} (hi : i < ni) (h2 : ni ≤ 24) : xup (xC h nc ni np nl t f g jc jr) (32 + i) (.inr (2, (xIo f g jc i).set 9 (.long v))) = xC h nc ni np nl t f (gup g 15 (vp_updL (g 15) i v)) jc jr := by
  refine xC_up ?_ ?_ ?_ ?_ ?_ ?_ ?_ ?_
  · rw [xC_in hi h2]
    have e : xIo f (gup g 15 (vp_updL (g 15) i v)) jc i = (xIo f g jc i).set 9 (.long v) := congrArg (fun z => (xIo f g jc i).set 9 (.long z)) xudL_i
    rw [e]
  · exact fun k _ h1 h2 => xC_ox h1 h2
  · exact fun k h1 h2 => xC_fx h1
  · exact fun i h1 _ => xC_cx h1
  · intro j h1 h3
    have hj : j ≠ i := fun z => h3 (by rw [z])
    have e : xIo f (gup g 15 (vp_updL (g 15) i v)) jc j = xIo f g jc j := by
      show (xIo f g jc j).set 9 (.long (vp_updL (g 15) i v j)) = _
      rw [xudL hj]; rfl
    rw [xC_ix h1]
    unfold xCi
    rw [e]
  · exact fun i h1 _ => xC_px h1
  · exact fun i h1 _ => xC_ax h1
  · exact fun i h1 _ => xC_rx h1
theorem xCi_13p {i : Nat} {v : Int32} (hi : i < ni) (h2 : ni ≤ 24) : xup (xC h nc ni np nl t f g jc jr) (32 + i) (.inr (2, (xIo f g jc i).set 6 (.int (xpd f jc i + v)))) = xC h nc ni np nl t (fup f 13 (upd (f 13) i (f 13 i - v))) g jc jr := by
  refine xC_up ?_ ?_ ?_ ?_ ?_ ?_ ?_ ?_
  · rw [xC_in hi h2]
    have e : xIo (fup f 13 (upd (f 13) i (f 13 i - v))) g jc i = (xIo f g jc i).set 6 (.int (xpd f jc i + v)) := congrArg (fun z => (xIo f g jc i).set 6 (.int z)) ((congrArg (fun z => f 11 i - jc 0 i - z) xupd_i).trans xr_1)
    rw [e]
  · exact fun k _ h1 h2 => xC_ox h1 h2
  · exact fun k h1 h2 => xC_fx h1
  · exact fun i h1 _ => xC_cx h1
  · intro j h1 h3
    have hj : j ≠ i := fun z => h3 (by rw [z])
    have e : xIo (fup f 13 (upd (f 13) i (f 13 i - v))) g jc j = xIo f g jc j := by
      show (xIo f g jc j).set 6 (.int (f 11 j - jc 0 j - upd (f 13) i (f 13 i - v) j)) = _
      rw [xud hj]; rfl
    rw [xC_ix h1]
    unfold xCi
    rw [e]
  · exact fun i h1 _ => xC_px h1
  · exact fun i h1 _ => xC_ax h1
  · exact fun i h1 _ => xC_rx h1
theorem xCi_13m {i : Nat} {v : Int32} (hi : i < ni) (h2 : ni ≤ 24) : xup (xC h nc ni np nl t f g jc jr) (32 + i) (.inr (2, (xIo f g jc i).set 6 (.int (xpd f jc i - v)))) = xC h nc ni np nl t (fup f 13 (upd (f 13) i (f 13 i + v))) g jc jr := by
  refine xC_up ?_ ?_ ?_ ?_ ?_ ?_ ?_ ?_
  · rw [xC_in hi h2]
    have e : xIo (fup f 13 (upd (f 13) i (f 13 i + v))) g jc i = (xIo f g jc i).set 6 (.int (xpd f jc i - v)) := congrArg (fun z => (xIo f g jc i).set 6 (.int z)) ((congrArg (fun z => f 11 i - jc 0 i - z) xupd_i).trans xr_2)
    rw [e]
  · exact fun k _ h1 h2 => xC_ox h1 h2
  · exact fun k h1 h2 => xC_fx h1
  · exact fun i h1 _ => xC_cx h1
  · intro j h1 h3
    have hj : j ≠ i := fun z => h3 (by rw [z])
    have e : xIo (fup f 13 (upd (f 13) i (f 13 i + v))) g jc j = xIo f g jc j := by
      show (xIo f g jc j).set 6 (.int (f 11 j - jc 0 j - upd (f 13) i (f 13 i + v) j)) = _
      rw [xud hj]; rfl
    rw [xC_ix h1]
    unfold xCi
    rw [e]
  · exact fun i h1 _ => xC_px h1
  · exact fun i h1 _ => xC_ax h1
  · exact fun i h1 _ => xC_rx h1
theorem xCi_c {i : Nat} {v : Int32} (hi : i < ni) (h2 : ni ≤ 24) : xup (xC h nc ni np nl t f g jc jr) (32 + i) (.inr (2, (xIo f g jc i).set 7 (.int (jc 0 i + v)))) = xC h nc ni np nl t (fup f 13 (upd (f 13) i (f 13 i - v))) g (fup jc 0 (upd (jc 0) i (jc 0 i + v))) jr := by
  refine xC_up ?_ ?_ ?_ ?_ ?_ ?_ ?_ ?_
  · rw [xC_in hi h2]
    have e : xIo (fup f 13 (upd (f 13) i (f 13 i - v))) g (fup jc 0 (upd (jc 0) i (jc 0 i + v))) i = (xIo f g jc i).set 7 (.int (jc 0 i + v)) := by
      show ((xIo f g jc i).set 6 (.int (f 11 i - upd (jc 0) i (jc 0 i + v) i - upd (f 13) i (f 13 i - v) i))).set 7 (.int (upd (jc 0) i (jc 0 i + v) i)) = _
      rw [xupd_i, xupd_i, xr_3]; rfl
    rw [e]
  · exact fun k _ h1 h2 => xC_ox h1 h2
  · exact fun k h1 h2 => xC_fx h1
  · exact fun i h1 _ => xC_cx h1
  · intro j h1 h3
    have hj : j ≠ i := fun z => h3 (by rw [z])
    have e : xIo (fup f 13 (upd (f 13) i (f 13 i - v))) g (fup jc 0 (upd (jc 0) i (jc 0 i + v))) j = xIo f g jc j := by
      show ((xIo f g jc j).set 6 (.int (f 11 j - upd (jc 0) i (jc 0 i + v) j - upd (f 13) i (f 13 i - v) j))).set 7 (.int (upd (jc 0) i (jc 0 i + v) j)) = _
      rw [xud hj, xud hj]; rfl
    rw [xC_ix h1]
    unfold xCi
    rw [e]
  · exact fun i h1 _ => xC_px h1
  · exact fun i h1 _ => xC_ax h1
  · exact fun i h1 _ => xC_rx h1
theorem xCs_11 {w : Nat → Int32} : xup (xC h nc ni np nl t f g jc jr) 11 (.inl (0, 24, .inl w)) = xC h nc ni np nl t f g (fup jc 3 w) jr := by
  refine xC_up ?_ ?_ ?_ ?_ ?_ ?_ ?_ ?_
  · rfl
  · exact fun k _ h1 h2 => xC_ox h1 h2
  · intro k h1 h2
    rw [xC_fx h1]
    unfold xCf
    rw [xb_f h2]; rfl
  · exact fun i h1 _ => xC_cx h1
  · exact fun i h1 _ => xC_ix h1
  · exact fun i h1 _ => xC_px h1
  · exact fun i h1 _ => xC_ax h1
  · exact fun i h1 _ => xC_rx h1
theorem xCs_12 {w : Nat → Int32} : xup (xC h nc ni np nl t f g jc jr) 12 (.inl (0, 24, .inl w)) = xC h nc ni np nl t f g (fup jc 4 w) jr := by
  refine xC_up ?_ ?_ ?_ ?_ ?_ ?_ ?_ ?_
  · rfl
  · exact fun k _ h1 h2 => xC_ox h1 h2
  · intro k h1 h2
    rw [xC_fx h1]
    unfold xCf
    rw [xb_f h2]; rfl
  · exact fun i h1 _ => xC_cx h1
  · exact fun i h1 _ => xC_ix h1
  · exact fun i h1 _ => xC_px h1
  · exact fun i h1 _ => xC_ax h1
  · exact fun i h1 _ => xC_rx h1
theorem xCs_13 {w : Nat → Int64} : xup (xC h nc ni np nl t f g jc jr) 13 (.inl (1, 24, .inr (.inl w))) = xC h nc ni np nl t f g jc w := by
  refine xC_up ?_ ?_ ?_ ?_ ?_ ?_ ?_ ?_
  · rfl
  · exact fun k _ h1 h2 => xC_ox h1 h2
  · intro k h1 h2
    rw [xC_fx h1]
    unfold xCf
    rw [xb_f h2]; rfl
  · exact fun i h1 _ => xC_cx h1
  · exact fun i h1 _ => xC_ix h1
  · exact fun i h1 _ => xC_px h1
  · exact fun i h1 _ => xC_ax h1
  · exact fun i h1 _ => xC_rx h1
theorem xCb_1 {v : Int32} : xup (xC h nc ni np nl t f g jc jr) 0 (.inr (6, (xBo t).set 5 (.int v))) = xC h nc ni np nl v f g jc jr := by
  refine xC_up ?_ ?_ ?_ ?_ ?_ ?_ ?_ ?_
  · rfl
  · exact fun k _ h1 h2 => xC_ox h1 h2
  · intro k h1 h2
    rw [xC_fx h1]
    unfold xCf
    rw [xb_f h2]; rfl
  · exact fun i h1 _ => xC_cx h1
  · exact fun i h1 _ => xC_ix h1
  · exact fun i h1 _ => xC_px h1
  · exact fun i h1 _ => xC_ax h1
  · exact fun i h1 _ => xC_rx h1
end XCU
