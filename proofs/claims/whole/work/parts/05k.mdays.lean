/-- a day in months of 30 days -/
def t_len (m y : Nat) : Nat := if m = 2 then (if y = 2004 then 29 else 28) else if m = 4 ∨ m = 6 ∨ m = 9 ∨ m = 11 then 30 else 31
def t_y : Nat → Nat → Nat → Nat × Nat
  | 0, y, l => (y, l)
  | k + 1, y, l => if 365 ≤ l ∧ y < 2004 then t_y k (y + 1) (l - 365) else (y, l)
def t_m (y : Nat) : Nat → Nat → Nat → Nat × Nat
  | 0, m, l => (m, l)
  | k + 1, m, l => if t_len m y ≤ l then t_m y k (m + 1) (l - t_len m y) else (m, l)
def t_M (d : Nat) : Nat := 360 * (t_y 3 2001 d).1 + 30 * (t_m (t_y 3 2001 d).1 14 1 (t_y 3 2001 d).2).1 + (if (t_m (t_y 3 2001 d).1 14 1 (t_y 3 2001 d).2).2 + 1 = 31 then 30 else (t_m (t_y 3 2001 d).1 14 1 (t_y 3 2001 d).2).2 + 1)
theorem t_y_ok : ∀ d, d < 1461 → (t_y 3 2001 d).1 ≤ 2004 ∧ (t_y 3 2001 d).2 < 392 := by decide +kernel
theorem t_len_ge (m y : Nat) : 28 ≤ t_len m y ∧ t_len m y ≤ 31 := by
  unfold t_len
  split
  · split <;> omega
  · split <;> omega
theorem t_len_eq {m y : Nat} (hm : m < 2 ^ 31) (hy : y < 2 ^ 31) : (if nI m = 2 then (if nI y = 2004 then (29 : Int32) else 28) else if nI m = 4 ∨ nI m = 6 ∨ nI m = 9 ∨ nI m = 11 then 30 else 31) = nI (t_len m y) := by
  have e : ∀ {a : Nat}, a < 2 ^ 31 → ∀ b : Nat, b < 2 ^ 31 → (nI a = nI b ↔ a = b) := fun ha b hb => nI_eq ha hb
  have h2 := e hm 2 (by decide)
  have h4 := e hm 4 (by decide)
  have h6 := e hm 6 (by decide)
  have h9 := e hm 9 (by decide)
  have h11 := e hm 11 (by decide)
  have hy4 := e hy 2004 (by decide)
  unfold t_len
  by_cases c2 : m = 2
  · rw [if_pos c2, if_pos (show nI m = 2 from h2.mpr c2)]
    by_cases cy : y = 2004
    · rw [if_pos cy, if_pos (show nI y = 2004 from hy4.mpr cy)]; rfl
    · rw [if_neg cy, if_neg (show ¬ nI y = 2004 from fun z => cy (hy4.mp z))]; rfl
  · rw [if_neg c2, if_neg (show ¬ nI m = 2 from fun z => c2 (h2.mp z))]
    by_cases c4 : m = 4 ∨ m = 6 ∨ m = 9 ∨ m = 11
    · rw [if_pos c4, if_pos (show nI m = 4 ∨ nI m = 6 ∨ nI m = 9 ∨ nI m = 11 from c4.imp h4.mpr (Or.imp h6.mpr (Or.imp h9.mpr h11.mpr)))]; rfl
    · rw [if_neg c4, if_neg (show ¬ (nI m = 4 ∨ nI m = 6 ∨ nI m = 9 ∨ nI m = 11) from fun z => c4 (z.imp h4.mp (Or.imp h6.mp (Or.imp h9.mp h11.mp))))]; rfl
theorem t_365 {l : Nat} (h : 365 ≤ l) : nI l + Int32.ofInt (-365) = nI (l - 365) := by
  rw [← pk_sub h, Int32.sub_eq_add_neg]
  rfl
def xbt (conv : Int32) (a b : Nat) : Int32 := if conv = 2 then nI (t_M b) - nI (t_M a) else nI b - nI a
theorem t_fin (y m k : Nat) : 360 * nI y + 30 * nI m + nI k = nI (360 * y + 30 * m + k) := by
  rw [← nI_add (360 * y + 30 * m) k, ← nI_add (360 * y) (30 * m), ← pk_mul, ← pk_mul]
  rfl
theorem t_m_snd (y : Nat) : ∀ (k m l : Nat), (t_m y k m l).2 ≤ l := by
  intro k
  induction k with
  | zero => intro m l; exact Nat.le_refl _
  | succ k ih =>
    intro m l
    show (if t_len m y ≤ l then t_m y k (m + 1) (l - t_len m y) else (m, l)).2 ≤ l
    split
    · exact Nat.le_trans (ih _ _) (Nat.sub_le _ _)
    · exact Nat.le_refl _
theorem t_m_le {d y l1 m l : Nat} (e1 : (y, l1) = t_y 3 2001 d) (e2 : (m, l) = t_m y 14 1 l1) (hd : d ≤ 1460) : l ≤ 1460 := by
  have h1 := t_y_ok d (by omega)
  rw [← e1] at h1
  have h2 := t_m_snd y 14 1 l1
  rw [← e2] at h2
  have h3 : l ≤ l1 := h2
  have h4 : l1 < 392 := h1.2
  omega
set_option maxRecDepth 100000 in
set_option maxHeartbeats 4000000 in
theorem m_X7_thirties {l : Launch} {N0 : Nat} {D : va_G} {dT : Nat → ClassId} (hflags : l.stackTraces = false) {hp : xH} {d : Nat} (hd : d ≤ 1460)  : xMet l N0 D dT yX7_thirties cX7_thirties 5 (some FieldType.int) 1 0 0 [.int (nI d)] (hp) xNo (fun r h => r = some (.int (nI (t_M d))) ∧ h = hp) xNX := by
  refine xMet_of hflags (by decide +kernel) (fun _ _ h => h) (Nat.le_of_ble_eq_true rfl) ?_
  intro E C I hret hthr
  refine a_loc [(0, .int (nI d))] (xsub_cons rfl (xsub_nil)) ?_
  have fin : ∀ (y l1 m l : Nat), (y, l1) = t_y 3 2001 d → (m, l) = t_m y 14 1 l1 → aW E 0 0 hp 57 [(1, .int (nI y)), (2, .int (nI l)), (3, .int (nI m))] [] := by
    intro y l1 m l e1 e2
    have hl9 : l < 2 ^ 30 := by
      have : l ≤ 1460 := t_m_le e1 e2 hd
      omega
    have e3 : (t_y 3 2001 d) = (y, l1) := e1.symm
    have e4 : t_m (t_y 3 2001 d).1 14 1 (t_y 3 2001 d).2 = (m, l) := by rw [e3]; exact e2.symm
    refine a_iload_n (i := 2) C dX7_thirties_57 rfl rfl ?_
    refine a_iconst (v := 1) C dX7_thirties_58 (by decide) ?_
    refine a_iadd C dX7_thirties_59 ?_
    refine a_top (nI (l + 1)) (nI_1 l) ?_
    refine a_istore (i := 4) C dX7_thirties_60 (by decide) ?_
    refine a_sipush (v := 360) C dX7_thirties_62 (by decide) ?_
    refine a_iload_n (i := 1) C dX7_thirties_65 rfl rfl ?_
    refine a_imul C dX7_thirties_66 ?_
    refine a_bipush (v := 30) C dX7_thirties_67 (by decide) ?_
    refine a_iload_n (i := 3) C dX7_thirties_69 rfl rfl ?_
    refine a_imul C dX7_thirties_70 ?_
    refine a_iadd C dX7_thirties_71 ?_
    refine a_iload (i := 4) C dX7_thirties_72 rfl ?_
    refine a_bipush (v := 31) C dX7_thirties_74 (by decide) ?_
    refine a_icmp_ne (tgt := 84) C dX7_thirties_76 (by decide) (fun c76 => ?_) (fun c76 => ?_)
    · refine a_iload (i := 4) C dX7_thirties_84 rfl ?_
      refine a_iadd C dX7_thirties_86 ?_
      exact a_iret C dX7_thirties_87 (Nat.le_of_ble_eq_true rfl) (Nat.le_of_ble_eq_true rfl) (hret _ _ ⟨congrArg (fun z => some (Value.int z)) (by unfold t_M; rw [e4, e3]; first | (rw [if_pos (show l + 1 = 31 from (nI_eq (b := 31) (by omega) (by omega)).mp c76)]; exact t_fin y m 30) | (rw [if_neg (show ¬ l + 1 = 31 from fun z => c76 (by rw [z]; rfl))]; exact t_fin y m (l + 1))), rfl⟩)
    · refine a_bipush (v := 30) C dX7_thirties_79 (by decide) ?_
      refine a_goto (tgt := 86) C dX7_thirties_81 (by decide) ?_
      refine a_iadd C dX7_thirties_86 ?_
      exact a_iret C dX7_thirties_87 (Nat.le_of_ble_eq_true rfl) (Nat.le_of_ble_eq_true rfl) (hret _ _ ⟨congrArg (fun z => some (Value.int z)) (by unfold t_M; rw [e4, e3]; first | (rw [if_pos (show l + 1 = 31 from (nI_eq (b := 31) (by omega) (by omega)).mp c76)]; exact t_fin y m 30) | (rw [if_neg (show ¬ l + 1 = 31 from fun z => c76 (by rw [z]; rfl))]; exact t_fin y m (l + 1))), rfl⟩)
  have mon : ∀ (y l1 : Nat), (y, l1) = t_y 3 2001 d → y ≤ 2004 → ∀ (k m l : Nat), l < 28 * k → m + k ≤ 40 → l < 392 → t_m y k m l = t_m y 14 1 l1 → aW E 0 0 hp 34 [(1, .int (nI y)), (2, .int (nI l)), (3, .int (nI m))] [] := by
    intro y l1 e1 hy k
    induction k with
    | zero => intro m l h1; exact absurd h1 (by omega)
    | succ k ih =>
      intro m l h1 h2 h3 ht
      have hlen := t_len_ge m y
      refine a_iload_n (i := 2) C dX7_thirties_34 rfl rfl ?_
      refine a_iload_n (i := 3) C dX7_thirties_35 rfl rfl ?_
      refine a_iload_n (i := 1) C dX7_thirties_36 rfl rfl ?_
      refine a_callS C dX7_thirties_37 cs_X7_length tb1078 (m_X7_length hflags) rfl rfl (Nat.le_of_ble_eq_true rfl) ⟨Nat.le_of_ble_eq_true rfl, Nat.le_of_ble_eq_true rfl⟩ ⟨Nat.le_of_ble_eq_true rfl, Nat.le_of_ble_eq_true rfl⟩ (fun _ h => h.elim) xav_no (fun _ _ h => h.elim) (fun r37 hp37 hq37 => ?_)
      obtain ⟨rfl, rfl⟩ := hq37
      refine a_top (nI (t_len m y)) (t_len_eq (by omega) (by omega)) ?_
      refine a_icmp_lt (tgt := 57) C dX7_thirties_40 (by decide) (fun c40 => ?_) (fun c40 => ?_)
      · have hm : (m, l) = t_m y 14 1 l1 := by
          rw [← ht]
          exact (if_neg (fun z => absurd ((nI_ltI (by omega) (by omega)).mp c40) (by omega))).symm
        refine a_loc _ ?_ (fin y l1 m l e1 hm)
        exact xsub_cons rfl (xsub_cons rfl (xsub_cons rfl xsub_nil))
      · refine a_iload_n (i := 2) C dX7_thirties_43 rfl rfl ?_
        refine a_iload_n (i := 3) C dX7_thirties_44 rfl rfl ?_
        refine a_iload_n (i := 1) C dX7_thirties_45 rfl rfl ?_
        refine a_callS C dX7_thirties_46 cs_X7_length tb1078 (m_X7_length hflags) rfl rfl (Nat.le_of_ble_eq_true rfl) ⟨Nat.le_of_ble_eq_true rfl, Nat.le_of_ble_eq_true rfl⟩ ⟨Nat.le_of_ble_eq_true rfl, Nat.le_of_ble_eq_true rfl⟩ (fun _ h => h.elim) xav_no (fun _ _ h => h.elim) (fun r46 hp46 hq46 => ?_)
        obtain ⟨rfl, rfl⟩ := hq46
        refine a_top (nI (t_len m y)) (t_len_eq (by omega) (by omega)) ?_
        refine a_isub C dX7_thirties_49 ?_
        refine a_istore_n (i := 2) C dX7_thirties_50 rfl (by decide) ?_
        refine a_iinc (i := 3) (v := nI (m + 1)) C dX7_thirties_51 rfl (nI_1 m) (by decide) ?_
        refine a_goto (tgt := 34) C dX7_thirties_54 (by decide) ?_
        have hle : t_len m y ≤ l := by
          rcases Nat.lt_or_ge l (t_len m y) with q | q
          · exact absurd ((nI_ltI (by omega) (by omega)).mpr q) c40
          · exact q
        refine a_loc [(1, .int (nI y)), (2, .int (nI (l - t_len m y))), (3, .int (nI (m + 1)))] (xsub_cons rfl (xsub_cons (by rw [← pk_sub hle]; rfl) (xsub_cons rfl xsub_nil))) ?_
        exact ih (m + 1) (l - t_len m y) (by omega) (by omega) (by omega) (by rw [← ht]; exact (if_pos hle).symm)
  have yr : ∀ (k y l : Nat), y ≤ 2004 → 2004 ≤ y + k → l ≤ 1460 → t_y k y l = t_y 3 2001 d → aW E 0 0 hp 6 [(1, .int (nI y)), (2, .int (nI l))] [] := by
    intro k
    induction k with
    | zero =>
      intro y l h1 h2 h3 ht
      have hx : (y, l) = t_y 3 2001 d := ht
      refine a_iload_n (i := 2) C dX7_thirties_6 rfl rfl ?_
      refine a_sipush (v := 365) C dX7_thirties_7 (by decide) ?_
      refine a_icmp_lt (tgt := 32) C dX7_thirties_10 (by decide) (fun c10 => ?_) (fun c10 => ?_)
      · refine a_iconst (v := 1) C dX7_thirties_32 (by decide) ?_
        refine a_istore_n (i := 3) C dX7_thirties_33 rfl (by decide) ?_
        have hb := t_y_ok d (by omega)
        rw [← hx] at hb
        refine a_loc _ ?_ (mon y l hx hb.1 14 1 l hb.2 (by omega) hb.2 rfl)
        exact xsub_cons rfl (xsub_cons rfl (xsub_cons rfl xsub_nil))
      · refine a_iload_n (i := 1) C dX7_thirties_13 rfl rfl ?_
        refine a_sipush (v := 2004) C dX7_thirties_14 (by decide) ?_
        refine a_icmp_ge (tgt := 32) C dX7_thirties_17 (by decide) (fun c17 => ?_) (fun c17 => ?_)
        · refine a_iconst (v := 1) C dX7_thirties_32 (by decide) ?_
          refine a_istore_n (i := 3) C dX7_thirties_33 rfl (by decide) ?_
          have hb := t_y_ok d (by omega)
          rw [← hx] at hb
          refine a_loc _ ?_ (mon y l hx hb.1 14 1 l hb.2 (by omega) hb.2 rfl)
          exact xsub_cons rfl (xsub_cons rfl (xsub_cons rfl xsub_nil))
        · have h365 : 365 ≤ l := by
            rcases Nat.lt_or_ge l 365 with q | q
            · exact absurd ((nI_ltI (a := l) (b := 365) (by omega) (by omega)).mpr q) c10
            · exact q
          refine a_iincW (i := 2) (v := nI (l - 365)) C dX7_thirties_20 rfl (t_365 h365) (by decide) ?_
          refine a_iinc (i := 1) (v := nI (y + 1)) C dX7_thirties_26 rfl (nI_1 y) (by decide) ?_
          refine a_goto (tgt := 6) C dX7_thirties_29 (by decide) ?_
          exact absurd ((xle (a := 2004) (b := y) (by omega) (by omega)).mpr (by omega)) c17
    | succ k ih =>
      intro y l h1 h2 h3 ht
      refine a_iload_n (i := 2) C dX7_thirties_6 rfl rfl ?_
      refine a_sipush (v := 365) C dX7_thirties_7 (by decide) ?_
      refine a_icmp_lt (tgt := 32) C dX7_thirties_10 (by decide) (fun c10 => ?_) (fun c10 => ?_)
      · have hx : (y, l) = t_y 3 2001 d := by
          rw [← ht]
          exact (if_neg (fun z => by
            first
            | exact absurd ((nI_ltI (a := l) (b := 365) (by omega) (by omega)).mp c10) (by omega)
            | exact absurd ((xle (a := 2004) (b := y) (by omega) (by omega)).mp c17) (by omega))).symm
        refine a_iconst (v := 1) C dX7_thirties_32 (by decide) ?_
        refine a_istore_n (i := 3) C dX7_thirties_33 rfl (by decide) ?_
        have hb := t_y_ok d (by omega)
        rw [← hx] at hb
        refine a_loc _ ?_ (mon y l hx hb.1 14 1 l hb.2 (by omega) hb.2 rfl)
        exact xsub_cons rfl (xsub_cons rfl (xsub_cons rfl xsub_nil))
      · refine a_iload_n (i := 1) C dX7_thirties_13 rfl rfl ?_
        refine a_sipush (v := 2004) C dX7_thirties_14 (by decide) ?_
        refine a_icmp_ge (tgt := 32) C dX7_thirties_17 (by decide) (fun c17 => ?_) (fun c17 => ?_)
        · have hx : (y, l) = t_y 3 2001 d := by
            rw [← ht]
            exact (if_neg (fun z => by
              first
              | exact absurd ((nI_ltI (a := l) (b := 365) (by omega) (by omega)).mp c10) (by omega)
              | exact absurd ((xle (a := 2004) (b := y) (by omega) (by omega)).mp c17) (by omega))).symm
          refine a_iconst (v := 1) C dX7_thirties_32 (by decide) ?_
          refine a_istore_n (i := 3) C dX7_thirties_33 rfl (by decide) ?_
          have hb := t_y_ok d (by omega)
          rw [← hx] at hb
          refine a_loc _ ?_ (mon y l hx hb.1 14 1 l hb.2 (by omega) hb.2 rfl)
          exact xsub_cons rfl (xsub_cons rfl (xsub_cons rfl xsub_nil))
        · have h365 : 365 ≤ l := by
            rcases Nat.lt_or_ge l 365 with q | q
            · exact absurd ((nI_ltI (a := l) (b := 365) (by omega) (by omega)).mpr q) c10
            · exact q
          refine a_iincW (i := 2) (v := nI (l - 365)) C dX7_thirties_20 rfl (t_365 h365) (by decide) ?_
          refine a_iinc (i := 1) (v := nI (y + 1)) C dX7_thirties_26 rfl (nI_1 y) (by decide) ?_
          refine a_goto (tgt := 6) C dX7_thirties_29 (by decide) ?_
          have hy : y < 2004 := by
            rcases Nat.lt_or_ge y 2004 with q | q
            · exact q
            · exact absurd ((xle (a := 2004) (b := y) (by omega) (by omega)).mpr q) c17
          refine a_loc _ ?_ (ih (y + 1) (l - 365) (by omega) (by omega) (by omega) (by rw [← ht]; exact (if_pos ⟨h365, hy⟩).symm))
          exact xsub_cons rfl (xsub_cons rfl xsub_nil)
  refine a_sipush (v := 2001) C dX7_thirties_0 (by decide) ?_
  refine a_istore_n (i := 1) C dX7_thirties_3 rfl (by decide) ?_
  refine a_iload_n (i := 0) C dX7_thirties_4 rfl rfl ?_
  refine a_istore_n (i := 2) C dX7_thirties_5 rfl (by decide) ?_
  refine a_loc _ ?_ (yr 3 2001 d (by omega) (by omega) hd rfl)
  exact xsub_cons rfl (xsub_cons rfl xsub_nil)
set_option maxRecDepth 100000 in
set_option maxHeartbeats 4000000 in
theorem m_X7_between {l : Launch} {N0 : Nat} {D : va_G} {dT : Nat → ClassId} (hflags : l.stackTraces = false) {hp : xH} {conv : Int32} {a b : Nat} (ha : a ≤ 1460) (hb : b ≤ 1460)  : xMet l N0 D dT yX7_between cX7_between 3 (some FieldType.int) 2 0 0 [.int conv, .int (nI a), .int (nI b)] (hp) xNo (fun r h => r = some (.int (xbt conv a b)) ∧ h = hp) xNX := by
  refine xMet_of hflags (by decide +kernel) (fun _ _ h => h) (Nat.le_of_ble_eq_true rfl) ?_
  intro E C I hret hthr
  refine a_loc [(0, .int conv), (1, .int (nI a)), (2, .int (nI b))] (xsub_cons rfl (xsub_cons rfl (xsub_cons rfl (xsub_nil)))) ?_
  refine a_iload_n (i := 0) C dX7_between_0 rfl rfl ?_
  refine a_iconst (v := 2) C dX7_between_1 (by decide) ?_
  refine a_icmp_ne (tgt := 17) C dX7_between_2 (by decide) (fun c2 => ?_) (fun c2 => ?_)
  · refine a_iload_n (i := 2) C dX7_between_17 rfl rfl ?_
    refine a_iload_n (i := 1) C dX7_between_18 rfl rfl ?_
    refine a_isub C dX7_between_19 ?_
    exact a_iret C dX7_between_20 (Nat.le_of_ble_eq_true rfl) (Nat.le_of_ble_eq_true rfl) (hret _ _ (by unfold xbt; first | (rw [if_pos c2]; exact ⟨rfl, rfl⟩) | (rw [if_neg c2]; exact ⟨rfl, rfl⟩)))
  · refine a_iload_n (i := 2) C dX7_between_5 rfl rfl ?_
    refine a_callS C dX7_between_6 cs_X7_thirties tb1075 (m_X7_thirties hflags hb) rfl rfl (Nat.le_of_ble_eq_true rfl) ⟨Nat.le_of_ble_eq_true rfl, Nat.le_of_ble_eq_true rfl⟩ ⟨Nat.le_of_ble_eq_true rfl, Nat.le_of_ble_eq_true rfl⟩ (fun _ h => h.elim) xav_no (fun _ _ h => h.elim) (fun r6 hp6 hq6 => ?_)
    obtain ⟨rfl, rfl⟩ := hq6
    refine a_iload_n (i := 1) C dX7_between_9 rfl rfl ?_
    refine a_callS C dX7_between_10 cs_X7_thirties tb1075 (m_X7_thirties hflags ha) rfl rfl (Nat.le_of_ble_eq_true rfl) ⟨Nat.le_of_ble_eq_true rfl, Nat.le_of_ble_eq_true rfl⟩ ⟨Nat.le_of_ble_eq_true rfl, Nat.le_of_ble_eq_true rfl⟩ (fun _ h => h.elim) xav_no (fun _ _ h => h.elim) (fun r10 hp10 hq10 => ?_)
    obtain ⟨rfl, rfl⟩ := hq10
    refine a_isub C dX7_between_13 ?_
    refine a_goto (tgt := 20) C dX7_between_14 (by decide) ?_
    exact a_iret C dX7_between_20 (Nat.le_of_ble_eq_true rfl) (Nat.le_of_ble_eq_true rfl) (hret _ _ (by unfold xbt; first | (rw [if_pos c2]; exact ⟨rfl, rfl⟩) | (rw [if_neg c2]; exact ⟨rfl, rfl⟩)))
set_option maxRecDepth 100000 in
set_option maxHeartbeats 4000000 in
theorem m_X7_countDays {l : Launch} {N0 : Nat} {D : va_G} {dT : Nat → ClassId} (hflags : l.stackTraces = false) {h : xH} {n : Nat → Int32} {f : Nat → Nat → Int32} {g : Nat → Nat → Int64} {conv p q : Int32}  : xMet l N0 D dT yX7_countDays cX7_countDays 5 (some FieldType.int) 3 0 0 [.ref 200, .int conv, .int p, .int q] (xM h n f g) xNo (mP h (oRd (xokR conv ∧ (0 ≤ p ∧ p ≤ 1460) ∧ (p ≤ q ∧ q ≤ 1460)) (xbt conv p.toNatClampNeg q.toNatClampNeg) n f g)) xNX := by
  refine xMet_of hflags (by decide +kernel) (fun _ _ h => h) (Nat.le_of_ble_eq_true rfl) ?_
  intro E C I hret hthr
  refine a_loc [(0, .ref 200), (1, .int conv), (2, .int p), (3, .int q)] (xsub_cons rfl (xsub_cons rfl (xsub_cons rfl (xsub_cons rfl (xsub_nil))))) ?_
  refine a_iload_n (i := 1) C dX7_countDays_0 rfl rfl ?_
  refine a_iconst (v := 0) C dX7_countDays_1 (by decide) ?_
  refine a_iconst (v := 2) C dX7_countDays_2 (by decide) ?_
  refine a_callS C dX7_countDays_3 cs_X7_within tb1029 (m_X7_within hflags) rfl rfl (Nat.le_of_ble_eq_true rfl) ⟨Nat.le_of_ble_eq_true rfl, Nat.le_of_ble_eq_true rfl⟩ ⟨Nat.le_of_ble_eq_true rfl, Nat.le_of_ble_eq_true rfl⟩ (fun _ h => h.elim) xav_no (fun _ _ h => h.elim) (fun r3 hp3 hq3 => ?_)
  obtain ⟨rfl, rfl⟩ := hq3
  refine a_if_eq (tgt := 35) C dX7_countDays_6 (by decide) (fun c6 => ?_) (fun c6 => ?_)
  · have en : ¬ (xokR conv ∧ (0 ≤ p ∧ p ≤ 1460) ∧ (p ≤ q ∧ q ≤ 1460)) := by clear hret hthr I C; grind [bI_0, bI_n0]
    refine a_iconst (v := 0) C dX7_countDays_35 (by decide) ?_
    refine a_istore (i := 4) C dX7_countDays_36 (by decide) ?_
    refine a_aload_n (i := 0) C dX7_countDays_38 rfl rfl ?_
    refine a_iload (i := 4) C dX7_countDays_39 rfl ?_
    refine a_if_eq (tgt := 48) C dX7_countDays_41 (by decide) (fun _ => ?_) (fun z => absurd (by decide) z)
    refine a_iconst (v := 1) C dX7_countDays_48 (by decide) ?_
    refine a_callV C dX7_countDays_49 cv_X7_refused tb1032 (m_X7_refused1 hflags (by decide)) rfl rfl xM_0 rfl (Nat.le_of_ble_eq_true rfl) ⟨Nat.le_of_ble_eq_true rfl, Nat.le_of_ble_eq_true rfl⟩ ⟨Nat.le_of_ble_eq_true rfl, Nat.le_of_ble_eq_true rfl⟩ (fun _ h => h.elim) xav_no (fun _ _ h => h.elim) (fun r49 hp49 hq49 => ?_)
    obtain ⟨rfl, rfl⟩ := hq49
    refine a_if_eq (tgt := 59) C dX7_countDays_52 (by decide) (fun z => absurd z (by decide)) (fun _ => ?_)
    refine a_iconst (v := 0) C dX7_countDays_55 (by decide) ?_
    refine a_goto (tgt := 65) C dX7_countDays_56 (by decide) ?_
    exact a_iret C dX7_countDays_65 (Nat.le_of_ble_eq_true rfl) (Nat.le_of_ble_eq_true rfl) (hret _ _ (by first | exact mP_rf en | exact mP_rt ey (by rw [nI_clamp (by omega), nI_clamp (by omega)])))
  · refine a_iload_n (i := 2) C dX7_countDays_9 rfl rfl ?_
    refine a_iconst (v := 0) C dX7_countDays_10 (by decide) ?_
    refine a_sipush (v := 1460) C dX7_countDays_11 (by decide) ?_
    refine a_callS C dX7_countDays_14 cs_X7_within tb1029 (m_X7_within hflags) rfl rfl (Nat.le_of_ble_eq_true rfl) ⟨Nat.le_of_ble_eq_true rfl, Nat.le_of_ble_eq_true rfl⟩ ⟨Nat.le_of_ble_eq_true rfl, Nat.le_of_ble_eq_true rfl⟩ (fun _ h => h.elim) xav_no (fun _ _ h => h.elim) (fun r14 hp14 hq14 => ?_)
    obtain ⟨rfl, rfl⟩ := hq14
    refine a_if_eq (tgt := 35) C dX7_countDays_17 (by decide) (fun c17 => ?_) (fun c17 => ?_)
    · have en : ¬ (xokR conv ∧ (0 ≤ p ∧ p ≤ 1460) ∧ (p ≤ q ∧ q ≤ 1460)) := by clear hret hthr I C; grind [bI_0, bI_n0]
      refine a_iconst (v := 0) C dX7_countDays_35 (by decide) ?_
      refine a_istore (i := 4) C dX7_countDays_36 (by decide) ?_
      refine a_aload_n (i := 0) C dX7_countDays_38 rfl rfl ?_
      refine a_iload (i := 4) C dX7_countDays_39 rfl ?_
      refine a_if_eq (tgt := 48) C dX7_countDays_41 (by decide) (fun _ => ?_) (fun z => absurd (by decide) z)
      refine a_iconst (v := 1) C dX7_countDays_48 (by decide) ?_
      refine a_callV C dX7_countDays_49 cv_X7_refused tb1032 (m_X7_refused1 hflags (by decide)) rfl rfl xM_0 rfl (Nat.le_of_ble_eq_true rfl) ⟨Nat.le_of_ble_eq_true rfl, Nat.le_of_ble_eq_true rfl⟩ ⟨Nat.le_of_ble_eq_true rfl, Nat.le_of_ble_eq_true rfl⟩ (fun _ h => h.elim) xav_no (fun _ _ h => h.elim) (fun r49 hp49 hq49 => ?_)
      obtain ⟨rfl, rfl⟩ := hq49
      refine a_if_eq (tgt := 59) C dX7_countDays_52 (by decide) (fun z => absurd z (by decide)) (fun _ => ?_)
      refine a_iconst (v := 0) C dX7_countDays_55 (by decide) ?_
      refine a_goto (tgt := 65) C dX7_countDays_56 (by decide) ?_
      exact a_iret C dX7_countDays_65 (Nat.le_of_ble_eq_true rfl) (Nat.le_of_ble_eq_true rfl) (hret _ _ (by first | exact mP_rf en | exact mP_rt ey (by rw [nI_clamp (by omega), nI_clamp (by omega)])))
    · refine a_iload_n (i := 3) C dX7_countDays_20 rfl rfl ?_
      refine a_iload_n (i := 2) C dX7_countDays_21 rfl rfl ?_
      refine a_sipush (v := 1460) C dX7_countDays_22 (by decide) ?_
      refine a_callS C dX7_countDays_25 cs_X7_within tb1029 (m_X7_within hflags) rfl rfl (Nat.le_of_ble_eq_true rfl) ⟨Nat.le_of_ble_eq_true rfl, Nat.le_of_ble_eq_true rfl⟩ ⟨Nat.le_of_ble_eq_true rfl, Nat.le_of_ble_eq_true rfl⟩ (fun _ h => h.elim) xav_no (fun _ _ h => h.elim) (fun r25 hp25 hq25 => ?_)
      obtain ⟨rfl, rfl⟩ := hq25
      refine a_if_eq (tgt := 35) C dX7_countDays_28 (by decide) (fun c28 => ?_) (fun c28 => ?_)
      · have en : ¬ (xokR conv ∧ (0 ≤ p ∧ p ≤ 1460) ∧ (p ≤ q ∧ q ≤ 1460)) := by clear hret hthr I C; grind [bI_0, bI_n0]
        refine a_iconst (v := 0) C dX7_countDays_35 (by decide) ?_
        refine a_istore (i := 4) C dX7_countDays_36 (by decide) ?_
        refine a_aload_n (i := 0) C dX7_countDays_38 rfl rfl ?_
        refine a_iload (i := 4) C dX7_countDays_39 rfl ?_
        refine a_if_eq (tgt := 48) C dX7_countDays_41 (by decide) (fun _ => ?_) (fun z => absurd (by decide) z)
        refine a_iconst (v := 1) C dX7_countDays_48 (by decide) ?_
        refine a_callV C dX7_countDays_49 cv_X7_refused tb1032 (m_X7_refused1 hflags (by decide)) rfl rfl xM_0 rfl (Nat.le_of_ble_eq_true rfl) ⟨Nat.le_of_ble_eq_true rfl, Nat.le_of_ble_eq_true rfl⟩ ⟨Nat.le_of_ble_eq_true rfl, Nat.le_of_ble_eq_true rfl⟩ (fun _ h => h.elim) xav_no (fun _ _ h => h.elim) (fun r49 hp49 hq49 => ?_)
        obtain ⟨rfl, rfl⟩ := hq49
        refine a_if_eq (tgt := 59) C dX7_countDays_52 (by decide) (fun z => absurd z (by decide)) (fun _ => ?_)
        refine a_iconst (v := 0) C dX7_countDays_55 (by decide) ?_
        refine a_goto (tgt := 65) C dX7_countDays_56 (by decide) ?_
        exact a_iret C dX7_countDays_65 (Nat.le_of_ble_eq_true rfl) (Nat.le_of_ble_eq_true rfl) (hret _ _ (by first | exact mP_rf en | exact mP_rt ey (by rw [nI_clamp (by omega), nI_clamp (by omega)])))
      · have ey : (xokR conv ∧ (0 ≤ p ∧ p ≤ 1460) ∧ (p ≤ q ∧ q ≤ 1460)) := by clear hret hthr I C; grind [bI_0, bI_n0]
        refine a_iconst (v := 1) C dX7_countDays_31 (by decide) ?_
        refine a_goto (tgt := 36) C dX7_countDays_32 (by decide) ?_
        refine a_istore (i := 4) C dX7_countDays_36 (by decide) ?_
        refine a_aload_n (i := 0) C dX7_countDays_38 rfl rfl ?_
        refine a_iload (i := 4) C dX7_countDays_39 rfl ?_
        refine a_if_eq (tgt := 48) C dX7_countDays_41 (by decide) (fun z => absurd z (by decide)) (fun _ => ?_)
        refine a_iconst (v := 0) C dX7_countDays_44 (by decide) ?_
        refine a_goto (tgt := 49) C dX7_countDays_45 (by decide) ?_
        refine a_callV C dX7_countDays_49 cv_X7_refused tb1032 (m_X7_refused0 hflags) rfl rfl xM_0 rfl (Nat.le_of_ble_eq_true rfl) ⟨Nat.le_of_ble_eq_true rfl, Nat.le_of_ble_eq_true rfl⟩ ⟨Nat.le_of_ble_eq_true rfl, Nat.le_of_ble_eq_true rfl⟩ (fun _ h => h.elim) xav_no (fun _ _ h => h.elim) (fun r49 hp49 hq49 => ?_)
        obtain ⟨rfl, rfl⟩ := hq49
        refine a_if_eq (tgt := 59) C dX7_countDays_52 (by decide) (fun _ => ?_) (fun z => absurd (by decide) z)
        obtain ⟨a, ha, rfl⟩ := nI_of2 (n := 1460) (by decide) (Int32.not_lt.mpr ey.2.1.1) ey.2.1.2
        obtain ⟨b, hb, rfl⟩ := nI_of2 (n := 1460) (by decide) (Int32.not_lt.mpr (Int32.le_trans ey.2.1.1 ey.2.2.1)) ey.2.2.2
        refine a_iload_n (i := 1) C dX7_countDays_59 rfl rfl ?_
        refine a_iload_n (i := 2) C dX7_countDays_60 rfl rfl ?_
        refine a_iload_n (i := 3) C dX7_countDays_61 rfl rfl ?_
        refine a_callS C dX7_countDays_62 cs_X7_between tb1072 (m_X7_between hflags ha hb) rfl rfl (Nat.le_of_ble_eq_true rfl) ⟨Nat.le_of_ble_eq_true rfl, Nat.le_of_ble_eq_true rfl⟩ ⟨Nat.le_of_ble_eq_true rfl, Nat.le_of_ble_eq_true rfl⟩ (fun _ h => h.elim) xav_no (fun _ _ h => h.elim) (fun r62 hp62 hq62 => ?_)
        obtain ⟨rfl, rfl⟩ := hq62
        exact a_iret C dX7_countDays_65 (Nat.le_of_ble_eq_true rfl) (Nat.le_of_ble_eq_true rfl) (hret _ _ (by first | exact mP_rf en | exact mP_rt ey (by rw [nI_clamp (by omega), nI_clamp (by omega)])))
