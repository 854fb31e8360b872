/-! The reference's state: six numbers n, the int and boolean rows f (by their fields' numbers), the long rows g; its cells at 200 (the object), 206 .. 226 (its rows). -/
def nup (n : Nat → Int32) (j : Nat) (v : Int32) : Nat → Int32 := fun k => bif Nat.beq k j then v else n k
def fup (f : Nat → Nat → Int32) (j : Nat) (w : Nat → Int32) : Nat → Nat → Int32 := fun k => bif Nat.beq k j then w else f k
def gup (g : Nat → Nat → Int64) (j : Nat) (w : Nat → Int64) : Nat → Nat → Int64 := fun k => bif Nat.beq k j then w else g k
theorem xb_f {k j : Nat} (h : k ≠ j) : Nat.beq k j = false := by
  cases h2 : Nat.beq k j with
  | true => exact absurd (Nat.eq_of_beq_eq_true h2) h
  | false => rfl
theorem nup_s {n : Nat → Int32} {j : Nat} {v : Int32} : nup n j v j = v := by simp [nup]
theorem fup_s {f : Nat → Nat → Int32} {j : Nat} {v : Nat → Int32} : fup f j v j = v := by simp [fup]
theorem gup_s {f : Nat → Nat → Int64} {j : Nat} {v : Nat → Int64} : gup f j v j = v := by simp [gup]
theorem nup_n {n : Nat → Int32} {j k : Nat} {v : Int32} (h : k ≠ j) : nup n j v k = n k := by simp [nup, xb_f h]
theorem fup_n {f : Nat → Nat → Int32} {j k : Nat} {v : Nat → Int32} (h : k ≠ j) : fup f j v k = f k := by simp [fup, xb_f h]
theorem gup_n {f : Nat → Nat → Int64} {j k : Nat} {v : Nat → Int64} (h : k ≠ j) : gup f j v k = f k := by simp [gup, xb_f h]
def xMo (n : Nat → Int32) : List Value := [.int (n 0), .int (n 1), .int (n 2), .int (n 3), .int (n 4), .int (n 5), .ref 206, .ref 207, .ref 208, .ref 209, .ref 210, .ref 211, .ref 212, .ref 213, .ref 214, .ref 215, .ref 216, .ref 217, .ref 218, .ref 219, .ref 220, .ref 221, .ref 222, .ref 223, .ref 224, .ref 225, .ref 226]
def xMl (j : Nat) : Nat := bif Nat.ble j 9 then 6 else bif Nat.ble j 21 then 24 else bif Nat.beq j 22 then 576 else bif Nat.ble j 24 then 16000 else 24
def xMc (n : Nat → Int32) (f : Nat → Nat → Int32) (g : Nat → Nat → Int64) (j : Nat) : Option va_E := bif Nat.beq j 0 then some (.inr (7, xMo n)) else bif Nat.ble j 5 then none else bif Nat.beq j 15 then some (.inl (1, 24, .inr (.inl (g j)))) else bif Nat.beq j 26 then some (.inl (1, 24, .inr (.inl (g j)))) else bif Nat.beq j 16 then some (.inl (2, 24, .inl (f j))) else bif Nat.beq j 21 then some (.inl (2, 24, .inl (f j))) else some (.inl (0, xMl j, .inl (f j)))
def xM (h : xH) (n : Nat → Int32) (f : Nat → Nat → Int32) (g : Nat → Nat → Int64) : xH := fun k => bif Nat.ble 200 k && Nat.ble k 226 then xMc n f g (k - 200) else h k
theorem xM_0 {h : xH} {n : Nat → Int32} {f : Nat → Nat → Int32} {g : Nat → Nat → Int64} : xM h n f g 200 = some (.inr (7, xMo n)) := rfl
theorem xMup {h : xH} {n n' : Nat → Int32} {f f' : Nat → Nat → Int32} {g g' : Nat → Nat → Int64} {e : va_E} (j : Nat) (hj : j ≤ 26) (he : xMc n' f' g' j = some e) (hn : ∀ i, i ≠ j → xMc n' f' g' i = xMc n f g i) : xup (xM h n f g) (200 + j) e = xM h n' f' g' := by
  funext k
  by_cases hk : k = 200 + j
  · subst hk
    rw [xup_s]
    have h1 : Nat.ble 200 (200 + j) = true := Nat.ble_eq_true_of_le (by omega)
    have h2 : Nat.ble (200 + j) 226 = true := Nat.ble_eq_true_of_le (by omega)
    simp only [xM, h1, h2, Bool.and_self, cond_true, Nat.add_sub_cancel_left]
    exact he.symm
  · rw [xup_n hk]
    unfold xM
    cases h1 : Nat.ble 200 k with
    | false => simp only [Bool.false_and, cond_false]
    | true =>
      have h3 : 200 ≤ k := Nat.le_of_ble_eq_true h1
      cases h2 : Nat.ble k 226 with
      | false => simp only [Bool.and_false, cond_false]
      | true =>
        simp only [Bool.and_self, cond_true]
        exact (hn (k - 200) (by omega)).symm
theorem xM_out {h : xH} {n : Nat → Int32} {f : Nat → Nat → Int32} {g : Nat → Nat → Int64} {k : Nat} (hk : k < 200 ∨ 226 < k) : xM h n f g k = h k := by
  unfold xM
  cases h1 : Nat.ble 200 k with
  | false => simp only [Bool.false_and, cond_false]
  | true =>
    cases h2 : Nat.ble k 226 with
    | false => simp only [Bool.and_false, cond_false]
    | true =>
      have := Nat.le_of_ble_eq_true h1
      have := Nat.le_of_ble_eq_true h2
      omega
/-- a truth as a number -/
def bI (p : Prop) [Decidable p] : Int32 := if p then 1 else 0
theorem bI_t {p : Prop} [Decidable p] (h : p) : bI p = 1 := if_pos h
theorem bI_f {p : Prop} [Decidable p] (h : ¬ p) : bI p = 0 := if_neg h
theorem bI_0 {p : Prop} [Decidable p] : bI p = 0 ↔ ¬ p := by
  by_cases h : p
  · rw [bI_t h]; simp [h]
  · rw [bI_f h]; simp [h]
theorem bI_n0 {p : Prop} [Decidable p] : ¬ bI p = 0 ↔ p := by
  by_cases h : p
  · rw [bI_t h]; simp [h]
  · rw [bI_f h]; simp [h]
theorem bI_nar {p : Prop} [Decidable p] : narrow .boolean (.int (bI p)) = .int (bI p) := by
  by_cases h : p
  · rw [bI_t h]; rfl
  · rw [bI_f h]; rfl
theorem xM_6 {h : xH} {n : Nat → Int32} {f : Nat → Nat → Int32} {g : Nat → Nat → Int64} : xM h n f g 206 = some (.inl (0, 6, .inl (f 6))) := rfl
theorem xMw_6 {h : xH} {n : Nat → Int32} {f : Nat → Nat → Int32} {g : Nat → Nat → Int64} {w : Nat → Int32} : xup (xM h n f g) 206 (.inl (0, 6, .inl w)) = xM h n (fup f 6 w) g := xMup 6 (by decide) rfl (fun i hi => by simp only [xMc, fup_n hi])
theorem xM_7 {h : xH} {n : Nat → Int32} {f : Nat → Nat → Int32} {g : Nat → Nat → Int64} : xM h n f g 207 = some (.inl (0, 6, .inl (f 7))) := rfl
theorem xMw_7 {h : xH} {n : Nat → Int32} {f : Nat → Nat → Int32} {g : Nat → Nat → Int64} {w : Nat → Int32} : xup (xM h n f g) 207 (.inl (0, 6, .inl w)) = xM h n (fup f 7 w) g := xMup 7 (by decide) rfl (fun i hi => by simp only [xMc, fup_n hi])
theorem xM_8 {h : xH} {n : Nat → Int32} {f : Nat → Nat → Int32} {g : Nat → Nat → Int64} : xM h n f g 208 = some (.inl (0, 6, .inl (f 8))) := rfl
theorem xMw_8 {h : xH} {n : Nat → Int32} {f : Nat → Nat → Int32} {g : Nat → Nat → Int64} {w : Nat → Int32} : xup (xM h n f g) 208 (.inl (0, 6, .inl w)) = xM h n (fup f 8 w) g := xMup 8 (by decide) rfl (fun i hi => by simp only [xMc, fup_n hi])
theorem xM_9 {h : xH} {n : Nat → Int32} {f : Nat → Nat → Int32} {g : Nat → Nat → Int64} : xM h n f g 209 = some (.inl (0, 6, .inl (f 9))) := rfl
theorem xMw_9 {h : xH} {n : Nat → Int32} {f : Nat → Nat → Int32} {g : Nat → Nat → Int64} {w : Nat → Int32} : xup (xM h n f g) 209 (.inl (0, 6, .inl w)) = xM h n (fup f 9 w) g := xMup 9 (by decide) rfl (fun i hi => by simp only [xMc, fup_n hi])
theorem xM_10 {h : xH} {n : Nat → Int32} {f : Nat → Nat → Int32} {g : Nat → Nat → Int64} : xM h n f g 210 = some (.inl (0, 24, .inl (f 10))) := rfl
theorem xMw_10 {h : xH} {n : Nat → Int32} {f : Nat → Nat → Int32} {g : Nat → Nat → Int64} {w : Nat → Int32} : xup (xM h n f g) 210 (.inl (0, 24, .inl w)) = xM h n (fup f 10 w) g := xMup 10 (by decide) rfl (fun i hi => by simp only [xMc, fup_n hi])
theorem xM_11 {h : xH} {n : Nat → Int32} {f : Nat → Nat → Int32} {g : Nat → Nat → Int64} : xM h n f g 211 = some (.inl (0, 24, .inl (f 11))) := rfl
theorem xMw_11 {h : xH} {n : Nat → Int32} {f : Nat → Nat → Int32} {g : Nat → Nat → Int64} {w : Nat → Int32} : xup (xM h n f g) 211 (.inl (0, 24, .inl w)) = xM h n (fup f 11 w) g := xMup 11 (by decide) rfl (fun i hi => by simp only [xMc, fup_n hi])
theorem xM_12 {h : xH} {n : Nat → Int32} {f : Nat → Nat → Int32} {g : Nat → Nat → Int64} : xM h n f g 212 = some (.inl (0, 24, .inl (f 12))) := rfl
theorem xMw_12 {h : xH} {n : Nat → Int32} {f : Nat → Nat → Int32} {g : Nat → Nat → Int64} {w : Nat → Int32} : xup (xM h n f g) 212 (.inl (0, 24, .inl w)) = xM h n (fup f 12 w) g := xMup 12 (by decide) rfl (fun i hi => by simp only [xMc, fup_n hi])
theorem xM_13 {h : xH} {n : Nat → Int32} {f : Nat → Nat → Int32} {g : Nat → Nat → Int64} : xM h n f g 213 = some (.inl (0, 24, .inl (f 13))) := rfl
theorem xMw_13 {h : xH} {n : Nat → Int32} {f : Nat → Nat → Int32} {g : Nat → Nat → Int64} {w : Nat → Int32} : xup (xM h n f g) 213 (.inl (0, 24, .inl w)) = xM h n (fup f 13 w) g := xMup 13 (by decide) rfl (fun i hi => by simp only [xMc, fup_n hi])
theorem xM_14 {h : xH} {n : Nat → Int32} {f : Nat → Nat → Int32} {g : Nat → Nat → Int64} : xM h n f g 214 = some (.inl (0, 24, .inl (f 14))) := rfl
theorem xMw_14 {h : xH} {n : Nat → Int32} {f : Nat → Nat → Int32} {g : Nat → Nat → Int64} {w : Nat → Int32} : xup (xM h n f g) 214 (.inl (0, 24, .inl w)) = xM h n (fup f 14 w) g := xMup 14 (by decide) rfl (fun i hi => by simp only [xMc, fup_n hi])
theorem xM_15 {h : xH} {n : Nat → Int32} {f : Nat → Nat → Int32} {g : Nat → Nat → Int64} : xM h n f g 215 = some (.inl (1, 24, .inr (.inl (g 15)))) := rfl
theorem xMw_15 {h : xH} {n : Nat → Int32} {f : Nat → Nat → Int32} {g : Nat → Nat → Int64} {w : Nat → Int64} : xup (xM h n f g) 215 (.inl (1, 24, .inr (.inl w))) = xM h n f (gup g 15 w) := xMup 15 (by decide) rfl (fun i hi => by simp only [xMc, gup_n hi])
theorem xM_16 {h : xH} {n : Nat → Int32} {f : Nat → Nat → Int32} {g : Nat → Nat → Int64} : xM h n f g 216 = some (.inl (2, 24, .inl (f 16))) := rfl
theorem xMw_16 {h : xH} {n : Nat → Int32} {f : Nat → Nat → Int32} {g : Nat → Nat → Int64} {w : Nat → Int32} : xup (xM h n f g) 216 (.inl (2, 24, .inl w)) = xM h n (fup f 16 w) g := xMup 16 (by decide) rfl (fun i hi => by simp only [xMc, fup_n hi])
theorem xM_17 {h : xH} {n : Nat → Int32} {f : Nat → Nat → Int32} {g : Nat → Nat → Int64} : xM h n f g 217 = some (.inl (0, 24, .inl (f 17))) := rfl
theorem xMw_17 {h : xH} {n : Nat → Int32} {f : Nat → Nat → Int32} {g : Nat → Nat → Int64} {w : Nat → Int32} : xup (xM h n f g) 217 (.inl (0, 24, .inl w)) = xM h n (fup f 17 w) g := xMup 17 (by decide) rfl (fun i hi => by simp only [xMc, fup_n hi])
theorem xM_18 {h : xH} {n : Nat → Int32} {f : Nat → Nat → Int32} {g : Nat → Nat → Int64} : xM h n f g 218 = some (.inl (0, 24, .inl (f 18))) := rfl
theorem xMw_18 {h : xH} {n : Nat → Int32} {f : Nat → Nat → Int32} {g : Nat → Nat → Int64} {w : Nat → Int32} : xup (xM h n f g) 218 (.inl (0, 24, .inl w)) = xM h n (fup f 18 w) g := xMup 18 (by decide) rfl (fun i hi => by simp only [xMc, fup_n hi])
theorem xM_19 {h : xH} {n : Nat → Int32} {f : Nat → Nat → Int32} {g : Nat → Nat → Int64} : xM h n f g 219 = some (.inl (0, 24, .inl (f 19))) := rfl
theorem xMw_19 {h : xH} {n : Nat → Int32} {f : Nat → Nat → Int32} {g : Nat → Nat → Int64} {w : Nat → Int32} : xup (xM h n f g) 219 (.inl (0, 24, .inl w)) = xM h n (fup f 19 w) g := xMup 19 (by decide) rfl (fun i hi => by simp only [xMc, fup_n hi])
theorem xM_20 {h : xH} {n : Nat → Int32} {f : Nat → Nat → Int32} {g : Nat → Nat → Int64} : xM h n f g 220 = some (.inl (0, 24, .inl (f 20))) := rfl
theorem xMw_20 {h : xH} {n : Nat → Int32} {f : Nat → Nat → Int32} {g : Nat → Nat → Int64} {w : Nat → Int32} : xup (xM h n f g) 220 (.inl (0, 24, .inl w)) = xM h n (fup f 20 w) g := xMup 20 (by decide) rfl (fun i hi => by simp only [xMc, fup_n hi])
theorem xM_21 {h : xH} {n : Nat → Int32} {f : Nat → Nat → Int32} {g : Nat → Nat → Int64} : xM h n f g 221 = some (.inl (2, 24, .inl (f 21))) := rfl
theorem xMw_21 {h : xH} {n : Nat → Int32} {f : Nat → Nat → Int32} {g : Nat → Nat → Int64} {w : Nat → Int32} : xup (xM h n f g) 221 (.inl (2, 24, .inl w)) = xM h n (fup f 21 w) g := xMup 21 (by decide) rfl (fun i hi => by simp only [xMc, fup_n hi])
theorem xM_22 {h : xH} {n : Nat → Int32} {f : Nat → Nat → Int32} {g : Nat → Nat → Int64} : xM h n f g 222 = some (.inl (0, 576, .inl (f 22))) := rfl
theorem xMw_22 {h : xH} {n : Nat → Int32} {f : Nat → Nat → Int32} {g : Nat → Nat → Int64} {w : Nat → Int32} : xup (xM h n f g) 222 (.inl (0, 576, .inl w)) = xM h n (fup f 22 w) g := xMup 22 (by decide) rfl (fun i hi => by simp only [xMc, fup_n hi])
theorem xM_23 {h : xH} {n : Nat → Int32} {f : Nat → Nat → Int32} {g : Nat → Nat → Int64} : xM h n f g 223 = some (.inl (0, 16000, .inl (f 23))) := rfl
theorem xMw_23 {h : xH} {n : Nat → Int32} {f : Nat → Nat → Int32} {g : Nat → Nat → Int64} {w : Nat → Int32} : xup (xM h n f g) 223 (.inl (0, 16000, .inl w)) = xM h n (fup f 23 w) g := xMup 23 (by decide) rfl (fun i hi => by simp only [xMc, fup_n hi])
theorem xM_24 {h : xH} {n : Nat → Int32} {f : Nat → Nat → Int32} {g : Nat → Nat → Int64} : xM h n f g 224 = some (.inl (0, 16000, .inl (f 24))) := rfl
theorem xMw_24 {h : xH} {n : Nat → Int32} {f : Nat → Nat → Int32} {g : Nat → Nat → Int64} {w : Nat → Int32} : xup (xM h n f g) 224 (.inl (0, 16000, .inl w)) = xM h n (fup f 24 w) g := xMup 24 (by decide) rfl (fun i hi => by simp only [xMc, fup_n hi])
theorem xM_25 {h : xH} {n : Nat → Int32} {f : Nat → Nat → Int32} {g : Nat → Nat → Int64} : xM h n f g 225 = some (.inl (0, 24, .inl (f 25))) := rfl
theorem xMw_25 {h : xH} {n : Nat → Int32} {f : Nat → Nat → Int32} {g : Nat → Nat → Int64} {w : Nat → Int32} : xup (xM h n f g) 225 (.inl (0, 24, .inl w)) = xM h n (fup f 25 w) g := xMup 25 (by decide) rfl (fun i hi => by simp only [xMc, fup_n hi])
theorem xM_26 {h : xH} {n : Nat → Int32} {f : Nat → Nat → Int32} {g : Nat → Nat → Int64} : xM h n f g 226 = some (.inl (1, 24, .inr (.inl (g 26)))) := rfl
theorem xMw_26 {h : xH} {n : Nat → Int32} {f : Nat → Nat → Int32} {g : Nat → Nat → Int64} {w : Nat → Int64} : xup (xM h n f g) 226 (.inl (1, 24, .inr (.inl w))) = xM h n f (gup g 26 w) := xMup 26 (by decide) rfl (fun i hi => by simp only [xMc, gup_n hi])
theorem xMp_0 {h : xH} {n : Nat → Int32} {f : Nat → Nat → Int32} {g : Nat → Nat → Int64} {v : Int32} : xup (xM h n f g) 200 (.inr (7, (xMo n).set 0 (.int v))) = xM h (nup n 0 v) f g := xMup 0 (by decide) rfl (fun i hi => by simp only [xMc, xb_f hi, cond_false])
theorem xMp_1 {h : xH} {n : Nat → Int32} {f : Nat → Nat → Int32} {g : Nat → Nat → Int64} {v : Int32} : xup (xM h n f g) 200 (.inr (7, (xMo n).set 1 (.int v))) = xM h (nup n 1 v) f g := xMup 0 (by decide) rfl (fun i hi => by simp only [xMc, xb_f hi, cond_false])
theorem xMp_2 {h : xH} {n : Nat → Int32} {f : Nat → Nat → Int32} {g : Nat → Nat → Int64} {v : Int32} : xup (xM h n f g) 200 (.inr (7, (xMo n).set 2 (.int v))) = xM h (nup n 2 v) f g := xMup 0 (by decide) rfl (fun i hi => by simp only [xMc, xb_f hi, cond_false])
theorem xMp_3 {h : xH} {n : Nat → Int32} {f : Nat → Nat → Int32} {g : Nat → Nat → Int64} {v : Int32} : xup (xM h n f g) 200 (.inr (7, (xMo n).set 3 (.int v))) = xM h (nup n 3 v) f g := xMup 0 (by decide) rfl (fun i hi => by simp only [xMc, xb_f hi, cond_false])
theorem xMp_4 {h : xH} {n : Nat → Int32} {f : Nat → Nat → Int32} {g : Nat → Nat → Int64} {v : Int32} : xup (xM h n f g) 200 (.inr (7, (xMo n).set 4 (.int v))) = xM h (nup n 4 v) f g := xMup 0 (by decide) rfl (fun i hi => by simp only [xMc, xb_f hi, cond_false])
theorem xMp_5 {h : xH} {n : Nat → Int32} {f : Nat → Nat → Int32} {g : Nat → Nat → Int64} {v : Int32} : xup (xM h n f g) 200 (.inr (7, (xMo n).set 5 (.int v))) = xM h (nup n 5 v) f g := xMup 0 (by decide) rfl (fun i hi => by simp only [xMc, xb_f hi, cond_false])
