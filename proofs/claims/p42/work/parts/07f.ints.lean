/-! whole numbers under the machine's -/
def zs (t : Nat → Int) : Nat → Int
  | 0 => 0
  | k + 1 => zs t k + t k
theorem zs_s {t : Nat → Int} {k : Nat} : zs t (k + 1) = zs t k + t k := rfl
theorem zs_congr {t s : Nat → Int} : ∀ n, (∀ i, i < n → t i = s i) → zs t n = zs s n := by
  intro n
  induction n with
  | zero => intro _; rfl
  | succ n ih =>
    intro h
    rw [zs_s, zs_s, ih (fun i hi => h i (by omega)), h n (by omega)]
theorem zs_le {t s : Nat → Int} : ∀ n, (∀ i, i < n → t i ≤ s i) → zs t n ≤ zs s n := by
  intro n
  induction n with
  | zero => intro _; exact Int.le_refl _
  | succ n ih =>
    intro h
    have h1 := ih (fun i hi => h i (by omega))
    have h2 := h n (by omega)
    rw [zs_s, zs_s]
    omega
theorem zs_nn {t : Nat → Int} : ∀ n, (∀ i, i < n → 0 ≤ t i) → 0 ≤ zs t n := by
  intro n
  induction n with
  | zero => intro _; exact Int.le_refl _
  | succ n ih =>
    intro h
    have h1 := ih (fun i hi => h i (by omega))
    have h2 := h n (by omega)
    rw [zs_s]
    omega
theorem zs_bd {t : Nat → Int} {B : Int} : ∀ n, (∀ i, i < n → t i ≤ B) → zs t n ≤ n * B := by
  intro n
  induction n with
  | zero => intro _; rw [show ((0 : Nat) : Int) = 0 from rfl, Int.zero_mul]; exact Int.le_refl _
  | succ n ih =>
    intro h
    have h1 := ih (fun i hi => h i (by omega))
    have h2 := h n (by omega)
    rw [zs_s, Int.natCast_succ, Int.add_mul, Int.one_mul]
    omega
theorem zs_up {t s : Nat → Int} {i : Nat} {d : Int} : ∀ n, i < n → (∀ j, j < n → j ≠ i → s j = t j) → s i = t i + d → zs s n = zs t n + d := by
  intro n
  induction n with
  | zero => intro h; exact absurd h (Nat.not_lt_zero i)
  | succ n ih =>
    intro h1 h2 h3
    rw [zs_s, zs_s]
    by_cases h : i = n
    · subst h
      rw [zs_congr i (fun j hj => h2 j (by omega) (by omega)), h3]
      omega
    · rw [ih (by omega) (fun j hj => h2 j (by omega)) h3, h2 n (by omega) (fun z => h z.symm)]
      omega
theorem zs_add {t s : Nat → Int} : ∀ n, zs (fun i => t i + s i) n = zs t n + zs s n := by
  intro n
  induction n with
  | zero => rfl
  | succ n ih =>
    rw [zs_s, zs_s, zs_s, ih]
    omega
theorem zs_ext {t : Nat → Int} {n : Nat} : ∀ m, n ≤ m → (∀ i, n ≤ i → i < m → t i = 0) → zs t m = zs t n := by
  intro m
  induction m with
  | zero => intro h _; rw [show n = 0 by omega]
  | succ m ih =>
    intro h1 h2
    by_cases h : n = m + 1
    · rw [h]
    · rw [zs_s, ih (by omega) (fun i hi hj => h2 i hi (by omega)), h2 m (by omega) (by omega), Int.add_zero]
theorem zs_mem {t : Nat → Int} {i : Nat} : ∀ n, (∀ i, i < n → 0 ≤ t i) → i < n → t i ≤ zs t n := by
  intro n
  induction n with
  | zero => intro _ h; exact absurd h (Nat.not_lt_zero i)
  | succ n ih =>
    intro h hi
    have h1 := zs_nn n (fun i hi => h i (by omega))
    rw [zs_s]
    by_cases e : i = n
    · rw [e]; omega
    · have h2 := ih (fun i hi => h i (by omega)) (by omega)
      have h3 := h n (by omega)
      omega
theorem zs_one {i : Nat} {x : Int} : ∀ n, i < n → zs (fun j => if j = i then x else 0) n = x := by
  intro n hi
  have := zs_up (t := fun _ => 0) (s := fun j => if j = i then x else 0) (i := i) (d := x) n hi (fun j _ hj => if_neg hj) (by show (if i = i then x else 0) = 0 + x; rw [if_pos rfl, Int.zero_add])
  rw [this, zs_congr (s := fun _ => 0) n (fun _ _ => rfl)]
  have h0 : ∀ m : Nat, zs (fun _ => 0) m = 0 := by
    intro m
    induction m with
    | zero => rfl
    | succ m ih => rw [zs_s, ih]; rfl
  rw [h0]
  omega
/-! Int32, Int64 -/
theorem i32_le {a b : Int32} : a ≤ b ↔ a.toInt ≤ b.toInt := Int32.le_iff_toInt_le
theorem i32_lt {a b : Int32} : a < b ↔ a.toInt < b.toInt := Int32.lt_iff_toInt_lt
theorem i32_rng (a : Int32) : -2147483648 ≤ a.toInt ∧ a.toInt ≤ 2147483647 := by
  have h1 := Int32.le_toInt a
  have h2 := Int32.toInt_lt a
  omega
theorem i64_rng (a : Int64) : -9223372036854775808 ≤ a.toInt ∧ a.toInt ≤ 9223372036854775807 := by
  have h1 := Int64.le_toInt a
  have h2 := Int64.toInt_lt a
  omega
theorem bm32 {x : Int} (h1 : -2147483648 ≤ x) (h2 : x ≤ 2147483647) : x.bmod (2 ^ 32) = x := Int.bmod_eq_of_le_mul_two (by omega) (by omega)
theorem bm64 {x : Int} (h1 : -9223372036854775808 ≤ x) (h2 : x ≤ 9223372036854775807) : x.bmod (2 ^ 64) = x := Int.bmod_eq_of_le_mul_two (by omega) (by omega)
theorem i32_add {a b : Int32} (h1 : -2147483648 ≤ a.toInt + b.toInt) (h2 : a.toInt + b.toInt ≤ 2147483647) : (a + b).toInt = a.toInt + b.toInt := by rw [Int32.toInt_add, bm32 h1 h2]
theorem i32_sub {a b : Int32} (h1 : -2147483648 ≤ a.toInt - b.toInt) (h2 : a.toInt - b.toInt ≤ 2147483647) : (a - b).toInt = a.toInt - b.toInt := by rw [Int32.toInt_sub, bm32 h1 h2]
theorem i64_add {a b : Int64} (h1 : -9223372036854775808 ≤ a.toInt + b.toInt) (h2 : a.toInt + b.toInt ≤ 9223372036854775807) : (a + b).toInt = a.toInt + b.toInt := by rw [Int64.toInt_add, bm64 h1 h2]
theorem i64_sub {a b : Int64} (h1 : -9223372036854775808 ≤ a.toInt - b.toInt) (h2 : a.toInt - b.toInt ≤ 9223372036854775807) : (a - b).toInt = a.toInt - b.toInt := by rw [Int64.toInt_sub, bm64 h1 h2]
theorem i64_mul {a b : Int64} (h1 : -9223372036854775808 ≤ a.toInt * b.toInt) (h2 : a.toInt * b.toInt ≤ 9223372036854775807) : (a * b).toInt = a.toInt * b.toInt := by rw [Int64.toInt_mul, bm64 h1 h2]
theorem i64_div {a b : Int64} (h1 : 0 ≤ a.toInt) (h2 : 0 < b.toInt) : (a / b).toInt = a.toInt / b.toInt := by
  have h3 := i64_rng a
  have h4 := Int.ediv_le_self b.toInt h1
  have h5 := Int.ediv_nonneg h1 (Int.le_of_lt h2)
  rw [Int64.toInt_div, Int.tdiv_eq_ediv_of_nonneg h1, bm64 (by omega) (by omega)]
theorem i64_32 {a : Int64} (h1 : -2147483648 ≤ a.toInt) (h2 : a.toInt ≤ 2147483647) : a.toInt32.toInt = a.toInt := by rw [Int64.toInt_toInt32, bm32 h1 h2]
theorem i32_inj {a b : Int32} (h : a.toInt = b.toInt) : a = b := Int32.toInt_inj.mp h
theorem i64_inj {a b : Int64} (h : a.toInt = b.toInt) : a = b := Int64.toInt_inj.mp h
theorem i32_z : (0 : Int32).toInt = 0 := rfl
theorem i64_z : (0 : Int64).toInt = 0 := rfl
theorem i64_le {a b : Int64} : a ≤ b ↔ a.toInt ≤ b.toInt := Int64.le_iff_toInt_le
theorem i64_lt {a b : Int64} : a < b ↔ a.toInt < b.toInt := Int64.lt_iff_toInt_lt
theorem xsumL_z {t : Nat → Int64} : ∀ n, n ≤ 24 → (∀ i, i < n → -2147483648 ≤ (t i).toInt ∧ (t i).toInt ≤ 2147483647) → (xsumL t n).toInt = zs (fun i => (t i).toInt) n ∧ -(n * 2147483648 : Int) ≤ (xsumL t n).toInt ∧ (xsumL t n).toInt ≤ n * 2147483648 := by
  intro n
  induction n with
  | zero => intro _ _; have e0 : (xsumL t 0).toInt = 0 := rfl; exact ⟨rfl, by rw [e0]; omega, by rw [e0]; omega⟩
  | succ n ih =>
    intro hn h
    obtain ⟨h1, h2, h3⟩ := ih (by omega) (fun i hi => h i (by omega))
    have h4 := h n (by omega)
    have e : (xsumL t (n + 1)).toInt = (xsumL t n).toInt + (t n).toInt := i64_add (by omega) (by omega)
    rw [zs_s, ← h1, e, Int.natCast_succ]
    exact ⟨rfl, by omega, by omega⟩
theorem xsubt_z {a : Int32} {t : Nat → Int32} : ∀ n, (∀ i, i < n → 0 ≤ (t i).toInt) → zs (fun i => (t i).toInt) n ≤ a.toInt → (xsubt a t n).toInt = a.toInt - zs (fun i => (t i).toInt) n := by
  intro n
  induction n with
  | zero => intro _ _; show a.toInt = a.toInt - 0; omega
  | succ n ih =>
    intro h hs
    have h4 := h n (by omega)
    have h5 := zs_nn (t := fun i => (t i).toInt) n (fun i hi => h i (by omega))
    have h6 := i32_rng a
    rw [zs_s] at hs
    have h7 := ih (fun i hi => h i (by omega)) (by omega)
    have e : (xsubt a t (n + 1)).toInt = (xsubt a t n).toInt - (t n).toInt := i32_sub (by omega) (by omega)
    rw [zs_s, e, h7]
    omega
theorem xsum_z {t : Nat → Int32} : ∀ n, (∀ i, i < n → 0 ≤ (t i).toInt) → zs (fun i => (t i).toInt) n ≤ 2147483647 → (xsum t n).toInt = zs (fun i => (t i).toInt) n := by
  intro n
  induction n with
  | zero => intro _ _; rfl
  | succ n ih =>
    intro h hs
    have h4 := h n (by omega)
    have h5 := zs_nn (t := fun i => (t i).toInt) n (fun i hi => h i (by omega))
    rw [zs_s] at hs
    have h7 := ih (fun i hi => h i (by omega)) (by omega)
    have e : (xsum t (n + 1)).toInt = (xsum t n).toInt + (t n).toInt := i32_add (by omega) (by omega)
    rw [zs_s, e, h7]
