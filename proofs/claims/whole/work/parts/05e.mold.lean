theorem fup_ff {f : Nat → Nat → Int32} {j : Nat} {a b : Nat → Int32} : fup (fup f j a) j b = fup f j b := by
  funext k
  unfold fup
  cases Nat.beq k j <;> rfl
theorem gup_gg {f : Nat → Nat → Int64} {j : Nat} {a b : Nat → Int64} : gup (gup f j a) j b = gup f j b := by
  funext k
  unfold gup
  cases Nat.beq k j <;> rfl
theorem lcmp_ge {x y : Int64} : 0 ≤ lg_cmp x y ↔ ¬ x < y := by rw [← lcmp_lt, Int32.not_lt]
theorem lcmp_le {x y : Int64} : lg_cmp x y ≤ 0 ↔ ¬ y < x := by rw [← lcmp_gt, Int32.not_lt]
def xpre (t o : Nat → Int32) (i : Nat) : Nat → Int32 := fun j => if j < i then t j else o j
def xpreL (t o : Nat → Int64) (i : Nat) : Nat → Int64 := fun j => if j < i then t j else o j
theorem xpre_0 {t o : Nat → Int32} : xpre t o 0 = o := by
  funext j
  unfold xpre
  rw [if_neg (Nat.not_lt_zero j)]
theorem xpreL_0 {t o : Nat → Int64} : xpreL t o 0 = o := by
  funext j
  unfold xpreL
  rw [if_neg (Nat.not_lt_zero j)]
theorem xpre_s {t o : Nat → Int32} {i : Nat} : upd (xpre t o i) i (t i) = xpre t o (i + 1) := by
  funext j
  unfold xpre upd
  by_cases h : j = i
  · subst h
    rw [if_pos rfl, if_pos (Nat.lt_succ_self j)]
  · rw [if_neg h]
    show (if j < i then t j else o j) = _
    by_cases h2 : j < i
    · rw [if_pos h2, if_pos (Nat.lt_succ_of_lt h2)]
    · rw [if_neg h2, if_neg (by omega)]
theorem xpreL_s {t o : Nat → Int64} {i : Nat} : vp_updL (xpreL t o i) i (t i) = xpreL t o (i + 1) := by
  funext j
  unfold xpreL vp_updL
  by_cases h : j = i
  · subst h
    rw [if_pos rfl, if_pos (Nat.lt_succ_self j)]
  · rw [if_neg h]
    show (if j < i then t j else o j) = _
    by_cases h2 : j < i
    · rw [if_pos h2, if_pos (Nat.lt_succ_of_lt h2)]
    · rw [if_neg h2, if_neg (by omega)]
theorem xpre_lt {t o : Nat → Int32} {i j : Nat} (h : j < i) : xpre t o i j = t j := if_pos h
/-- the oldest with a clear amount -/
def xold (f : Nat → Nat → Int32) (c : Int32) : Nat → Int32
  | 0 => -1
  | k + 1 => if f 10 k = c ∧ 0 < f 13 k - f 14 k ∧ (xold f c k = -1 ∨ f 12 k < f 12 (xold f c k).toNatClampNeg) then nI k else xold f c k
theorem xold_s {f : Nat → Nat → Int32} {c : Int32} {k : Nat} : xold f c (k + 1) = if f 10 k = c ∧ 0 < f 13 k - f 14 k ∧ (xold f c k = -1 ∨ f 12 k < f 12 (xold f c k).toNatClampNeg) then nI k else xold f c k := rfl
theorem xold_rng (f : Nat → Nat → Int32) (c : Int32) : ∀ i, xold f c i = -1 ∨ ∃ j, j < i ∧ xold f c i = nI j := by
  intro i
  induction i with
  | zero => exact Or.inl rfl
  | succ i ih =>
    rw [xold_s]
    split
    · exact Or.inr ⟨i, Nat.lt_succ_self i, rfl⟩
    · rcases ih with h | ⟨j, h1, h2⟩
      · exact Or.inl h
      · exact Or.inr ⟨j, Nat.lt_succ_of_lt h1, h2⟩
/-- what older invoices get first -/
def xahd (f : Nat → Nat → Int32) (c : Int32) (w : Nat) : Nat → Int64 := fun j => if f 10 j = c ∧ (f 12 j < f 12 w ∨ f 12 j = f 12 w ∧ j < w) then (f 13 j - f 14 j).toInt64 else 0
def xfrom (f : Nat → Nat → Int32) (c : Int32) (w : Nat) (a : Int32) (ni : Nat) : Int32 := if a.toInt64 - xsumL (xahd f c w) ni ≤ 0 then 0 else if a.toInt64 - xsumL (xahd f c w) ni < (f 13 w - f 14 w).toInt64 then (a.toInt64 - xsumL (xahd f c w) ni).toInt32 else (f 13 w - f 14 w).toInt64.toInt32
set_option maxRecDepth 100000 in
set_option maxHeartbeats 4000000 in
theorem m_X7_oldestOf {l : Launch} {N0 : Nat} {D : va_G} {dT : Nat → ClassId} (hflags : l.stackTraces = false) {h : xH} {n : Nat → Int32} {f : Nat → Nat → Int32} {g : Nat → Nat → Int64} {nc ni np nl : Nat} (hI : xI n nc ni np nl) {c : Int32}  : xMet l N0 D dT yX7_oldestOf cX7_oldestOf 4 (some FieldType.int) 1 0 0 [.ref 200, .int c] (xM h n f g) xNo (fun r h' => r = some (.int (xold f c ni)) ∧ h' = xM h n f g) xNX := by
  refine xMet_of hflags (by decide +kernel) (fun _ _ h => h) (Nat.le_of_ble_eq_true rfl) ?_
  intro E C I hret hthr
  refine a_loc [(0, .ref 200), (1, .int c)] (xsub_cons rfl (xsub_cons rfl (xsub_nil))) ?_
  obtain ⟨hc, hi, hpy, hln, hc6, hi24, hp24, hlm⟩ := id hI
  have loop : ∀ (k i : Nat), i ≤ ni → ni < i + k → aW E 0 0 (xM h n f g) 4 [(0, .ref 200), (1, .int c), (2, .int (xold f c i)), (3, .int (nI i))] [] := by
    intro k
    induction k with
    | zero => intro i h1 h2; exact absurd h2 (by omega)
    | succ k ih =>
      intro i h1 h2
      refine a_iload_n (i := 3) C dX7_oldestOf_4 rfl rfl ?_
      refine a_aload_n (i := 0) C dX7_oldestOf_5 rfl rfl ?_
      refine a_get C dX7_oldestOf_6 fl_X7_86 xM_0 (by first | exact congrArg (fun z => some (Value.int z)) hi | rfl) ?_
      refine a_icmp_ge (tgt := 62) C dX7_oldestOf_9 (by decide) (fun c9 => ?_) (fun c9 => ?_)
      · have hie : i = ni := by
          have := (xle (by omega) (by omega)).mp c9
          omega
        rw [hie]
        refine a_iload_n (i := 2) C dX7_oldestOf_62 rfl rfl ?_
        exact a_iret C dX7_oldestOf_63 (Nat.le_of_ble_eq_true rfl) (Nat.le_of_ble_eq_true rfl) (hret _ _ ⟨rfl, rfl⟩)
      · have hlt : i < ni := by
          rcases Nat.lt_or_ge i ni with q | q
          · exact q
          · exact absurd ((xle (by omega) (by omega)).mpr q) c9
        refine a_aload_n (i := 0) C dX7_oldestOf_12 rfl rfl ?_
        refine a_get C dX7_oldestOf_13 fl_X7_22 xM_0 rfl ?_
        refine a_iload_n (i := 3) C dX7_oldestOf_16 rfl rfl ?_
        refine a_ialdI C dX7_oldestOf_17 xM_10 ⟨by omega, by omega⟩ ?_
        refine a_iload_n (i := 1) C dX7_oldestOf_18 rfl rfl ?_
        refine a_icmp_ne (tgt := 54) C dX7_oldestOf_19 (by decide) (fun c19 => ?_) (fun c19 => ?_)
        · refine a_iload_n (i := 2) C dX7_oldestOf_54 rfl rfl ?_
          refine a_top (xold f c (i + 1)) (by rw [xold_s]; first | (rw [if_neg (fun z => c19 z.1)]; done) | (rw [if_neg (fun z => absurd z.2.1 (Int32.not_lt.mpr c27))]; done) | (rw [if_pos ⟨c19, Int32.not_le.mp c27, Or.inl c32⟩]; done) | (rw [if_pos ⟨c19, Int32.not_le.mp c27, Or.inr (by rw [eo]; exact Int32.not_le.mp c47)⟩]; done) | (rw [if_neg (fun z => z.2.2.elim c32 (fun q => absurd q (by rw [eo]; exact Int32.not_lt.mpr c47)))]; done)) ?_
          refine a_istore_n (i := 2) C dX7_oldestOf_55 rfl (by decide) ?_
          refine a_iinc (i := 3) (v := nI (i + 1)) C dX7_oldestOf_56 rfl (nI_1 i) (by decide) ?_
          refine a_goto (tgt := 4) C dX7_oldestOf_59 (by decide) ?_
          refine a_loc _ ?_ (ih (i + 1) (by omega) (by omega))
          exact xsub_cons rfl (xsub_cons rfl (xsub_cons rfl (xsub_cons rfl (xsub_nil))))
        · refine a_aload_n (i := 0) C dX7_oldestOf_22 rfl rfl ?_
          refine a_iload_n (i := 3) C dX7_oldestOf_23 rfl rfl ?_
          refine a_callV C dX7_oldestOf_24 cv_X7_clear tb1068 (m_X7_clear hflags (i := i) (by omega)) rfl rfl xM_0 rfl (Nat.le_of_ble_eq_true rfl) ⟨Nat.le_of_ble_eq_true rfl, Nat.le_of_ble_eq_true rfl⟩ ⟨Nat.le_of_ble_eq_true rfl, Nat.le_of_ble_eq_true rfl⟩ (fun _ h => h.elim) xav_no (fun _ _ h => h.elim) (fun r24 hp24 hq24 => ?_)
          obtain ⟨rfl, rfl⟩ := hq24
          refine a_if_le (tgt := 54) C dX7_oldestOf_27 (by decide) (fun c27 => ?_) (fun c27 => ?_)
          · refine a_iload_n (i := 2) C dX7_oldestOf_54 rfl rfl ?_
            refine a_top (xold f c (i + 1)) (by rw [xold_s]; first | (rw [if_neg (fun z => c19 z.1)]; done) | (rw [if_neg (fun z => absurd z.2.1 (Int32.not_lt.mpr c27))]; done) | (rw [if_pos ⟨c19, Int32.not_le.mp c27, Or.inl c32⟩]; done) | (rw [if_pos ⟨c19, Int32.not_le.mp c27, Or.inr (by rw [eo]; exact Int32.not_le.mp c47)⟩]; done) | (rw [if_neg (fun z => z.2.2.elim c32 (fun q => absurd q (by rw [eo]; exact Int32.not_lt.mpr c47)))]; done)) ?_
            refine a_istore_n (i := 2) C dX7_oldestOf_55 rfl (by decide) ?_
            refine a_iinc (i := 3) (v := nI (i + 1)) C dX7_oldestOf_56 rfl (nI_1 i) (by decide) ?_
            refine a_goto (tgt := 4) C dX7_oldestOf_59 (by decide) ?_
            refine a_loc _ ?_ (ih (i + 1) (by omega) (by omega))
            exact xsub_cons rfl (xsub_cons rfl (xsub_cons rfl (xsub_cons rfl (xsub_nil))))
          · refine a_iload_n (i := 2) C dX7_oldestOf_30 rfl rfl ?_
            refine a_iconst (v := (-1)) C dX7_oldestOf_31 (by decide) ?_
            refine a_icmp_eq (tgt := 50) C dX7_oldestOf_32 (by decide) (fun c32 => ?_) (fun c32 => ?_)
            · refine a_iload_n (i := 3) C dX7_oldestOf_50 rfl rfl ?_
              refine a_goto (tgt := 55) C dX7_oldestOf_51 (by decide) ?_
              refine a_top (xold f c (i + 1)) (by rw [xold_s]; first | (rw [if_neg (fun z => c19 z.1)]; done) | (rw [if_neg (fun z => absurd z.2.1 (Int32.not_lt.mpr c27))]; done) | (rw [if_pos ⟨c19, Int32.not_le.mp c27, Or.inl c32⟩]; done) | (rw [if_pos ⟨c19, Int32.not_le.mp c27, Or.inr (by rw [eo]; exact Int32.not_le.mp c47)⟩]; done) | (rw [if_neg (fun z => z.2.2.elim c32 (fun q => absurd q (by rw [eo]; exact Int32.not_lt.mpr c47)))]; done)) ?_
              refine a_istore_n (i := 2) C dX7_oldestOf_55 rfl (by decide) ?_
              refine a_iinc (i := 3) (v := nI (i + 1)) C dX7_oldestOf_56 rfl (nI_1 i) (by decide) ?_
              refine a_goto (tgt := 4) C dX7_oldestOf_59 (by decide) ?_
              refine a_loc _ ?_ (ih (i + 1) (by omega) (by omega))
              exact xsub_cons rfl (xsub_cons rfl (xsub_cons rfl (xsub_cons rfl (xsub_nil))))
            · obtain ⟨j, hj, ej⟩ := (xold_rng f c i).resolve_left c32
              have eo : f 12 (xold f c i).toNatClampNeg = f 12 j := by rw [ej, nI_clamp (by omega)]
              refine a_aload_n (i := 0) C dX7_oldestOf_35 rfl rfl ?_
              refine a_get C dX7_oldestOf_36 fl_X7_28 xM_0 rfl ?_
              refine a_iload_n (i := 3) C dX7_oldestOf_39 rfl rfl ?_
              refine a_ialdI C dX7_oldestOf_40 xM_12 ⟨by omega, by omega⟩ ?_
              refine a_aload_n (i := 0) C dX7_oldestOf_41 rfl rfl ?_
              refine a_get C dX7_oldestOf_42 fl_X7_28 xM_0 rfl ?_
              refine a_iload_n (i := 2) C dX7_oldestOf_45 rfl rfl ?_
              refine a_top (nI j) ej ?_
              refine a_ialdI C dX7_oldestOf_46 xM_12 ⟨by omega, by omega⟩ ?_
              refine a_icmp_ge (tgt := 54) C dX7_oldestOf_47 (by decide) (fun c47 => ?_) (fun c47 => ?_)
              · refine a_iload_n (i := 2) C dX7_oldestOf_54 rfl rfl ?_
                refine a_top (xold f c (i + 1)) (by rw [xold_s]; first | (rw [if_neg (fun z => c19 z.1)]; done) | (rw [if_neg (fun z => absurd z.2.1 (Int32.not_lt.mpr c27))]; done) | (rw [if_pos ⟨c19, Int32.not_le.mp c27, Or.inl c32⟩]; done) | (rw [if_pos ⟨c19, Int32.not_le.mp c27, Or.inr (by rw [eo]; exact Int32.not_le.mp c47)⟩]; done) | (rw [if_neg (fun z => z.2.2.elim c32 (fun q => absurd q (by rw [eo]; exact Int32.not_lt.mpr c47)))]; done)) ?_
                refine a_istore_n (i := 2) C dX7_oldestOf_55 rfl (by decide) ?_
                refine a_iinc (i := 3) (v := nI (i + 1)) C dX7_oldestOf_56 rfl (nI_1 i) (by decide) ?_
                refine a_goto (tgt := 4) C dX7_oldestOf_59 (by decide) ?_
                refine a_loc _ ?_ (ih (i + 1) (by omega) (by omega))
                exact xsub_cons rfl (xsub_cons rfl (xsub_cons rfl (xsub_cons rfl (xsub_nil))))
              · refine a_iload_n (i := 3) C dX7_oldestOf_50 rfl rfl ?_
                refine a_goto (tgt := 55) C dX7_oldestOf_51 (by decide) ?_
                refine a_top (xold f c (i + 1)) (by rw [xold_s]; first | (rw [if_neg (fun z => c19 z.1)]; done) | (rw [if_neg (fun z => absurd z.2.1 (Int32.not_lt.mpr c27))]; done) | (rw [if_pos ⟨c19, Int32.not_le.mp c27, Or.inl c32⟩]; done) | (rw [if_pos ⟨c19, Int32.not_le.mp c27, Or.inr (by rw [eo]; exact Int32.not_le.mp c47)⟩]; done) | (rw [if_neg (fun z => z.2.2.elim c32 (fun q => absurd q (by rw [eo]; exact Int32.not_lt.mpr c47)))]; done)) ?_
                refine a_istore_n (i := 2) C dX7_oldestOf_55 rfl (by decide) ?_
                refine a_iinc (i := 3) (v := nI (i + 1)) C dX7_oldestOf_56 rfl (nI_1 i) (by decide) ?_
                refine a_goto (tgt := 4) C dX7_oldestOf_59 (by decide) ?_
                refine a_loc _ ?_ (ih (i + 1) (by omega) (by omega))
                exact xsub_cons rfl (xsub_cons rfl (xsub_cons rfl (xsub_cons rfl (xsub_nil))))
  refine a_iconst (v := (-1)) C dX7_oldestOf_0 (by decide) ?_
  refine a_istore_n (i := 2) C dX7_oldestOf_1 rfl (by decide) ?_
  refine a_iconst (v := 0) C dX7_oldestOf_2 (by decide) ?_
  refine a_istore_n (i := 3) C dX7_oldestOf_3 rfl (by decide) ?_
  refine a_loc _ ?_ (loop (ni + 1) 0 (Nat.zero_le _) (by omega))
  exact xsub_cons rfl (xsub_cons rfl (xsub_cons rfl (xsub_cons rfl (xsub_nil))))
set_option maxRecDepth 100000 in
set_option maxHeartbeats 4000000 in
theorem m_X7_oldest {l : Launch} {N0 : Nat} {D : va_G} {dT : Nat → ClassId} (hflags : l.stackTraces = false) {h : xH} {n : Nat → Int32} {f : Nat → Nat → Int32} {g : Nat → Nat → Int64} {nc ni np nl : Nat} (hI : xI n nc ni np nl) {w0 : Int32}  : xMet l N0 D dT yX7_oldest cX7_oldest 2 (some FieldType.int) 3 0 0 [.ref 200, .int w0] (xM h n f g) xNo (mP h (oRd (xin w0 nc) (xold f w0 ni) n f g)) xNX := by
  refine xMet_of hflags (by decide +kernel) (fun _ _ h => h) (Nat.le_of_ble_eq_true rfl) ?_
  intro E C I hret hthr
  refine a_loc [(0, .ref 200), (1, .int w0)] (xsub_cons rfl (xsub_cons rfl (xsub_nil))) ?_
  obtain ⟨hc, hi, hpy, hln, hc6, hi24, hp24, hlm⟩ := id hI
  refine a_aload_n (i := 0) C dX7_oldest_0 rfl rfl ?_
  refine a_iload_n (i := 1) C dX7_oldest_1 rfl rfl ?_
  refine a_callV C dX7_oldest_2 cv_X7_noCustomer tb1149 (m_X7_noCustomer hflags hI) rfl rfl xM_0 rfl (Nat.le_of_ble_eq_true rfl) ⟨Nat.le_of_ble_eq_true rfl, Nat.le_of_ble_eq_true rfl⟩ ⟨Nat.le_of_ble_eq_true rfl, Nat.le_of_ble_eq_true rfl⟩ (fun _ h => h.elim) xav_no (fun _ _ h => h.elim) (fun r2 hp2 hq2 => ?_)
  obtain ⟨rfl, rfl⟩ := hq2
  refine a_if_eq (tgt := 12) C dX7_oldest_5 (by decide) (fun c5 => ?_) (fun c5 => ?_)
  · have e5 := bN0 c5
    refine a_aload_n (i := 0) C dX7_oldest_12 rfl rfl ?_
    refine a_iload_n (i := 1) C dX7_oldest_13 rfl rfl ?_
    refine a_callV C dX7_oldest_14 cv_X7_oldestOf tb1261 (m_X7_oldestOf hflags (xI_0 hI)) rfl rfl xM_0 rfl (Nat.le_of_ble_eq_true rfl) ⟨Nat.le_of_ble_eq_true rfl, Nat.le_of_ble_eq_true rfl⟩ ⟨Nat.le_of_ble_eq_true rfl, Nat.le_of_ble_eq_true rfl⟩ (fun _ h => h.elim) xav_no (fun _ _ h => h.elim) (fun r14 hp14 hq14 => ?_)
    obtain ⟨rfl, rfl⟩ := hq14
    exact a_iret C dX7_oldest_17 (Nat.le_of_ble_eq_true rfl) (Nat.le_of_ble_eq_true rfl) (hret _ _ (by first | (rw [bI_t (bNn c5)]; exact mP_rf (bNn c5)) | (rw [bI_f (p := ¬ xin w0 nc) (fun z => z e5)]; exact mP_rt e5 rfl)))
  · refine a_iconst (v := 0) C dX7_oldest_8 (by decide) ?_
    refine a_goto (tgt := 17) C dX7_oldest_9 (by decide) ?_
    exact a_iret C dX7_oldest_17 (Nat.le_of_ble_eq_true rfl) (Nat.le_of_ble_eq_true rfl) (hret _ _ (by first | (rw [bI_t (bNn c5)]; exact mP_rf (bNn c5)) | (rw [bI_f (p := ¬ xin w0 nc) (fun z => z e5)]; exact mP_rt e5 rfl)))
set_option maxRecDepth 100000 in
set_option maxHeartbeats 4000000 in
theorem m_X7_fromOldest {l : Launch} {N0 : Nat} {D : va_G} {dT : Nat → ClassId} (hflags : l.stackTraces = false) {h : xH} {n : Nat → Int32} {f : Nat → Nat → Int32} {g : Nat → Nat → Int64} {nc ni np nl : Nat} (hI : xI n nc ni np nl) {c a : Int32} {w : Nat} (hw : w < 24)  : xMet l N0 D dT yX7_fromOldest cX7_fromOldest 8 (some FieldType.int) 1 0 0 [.ref 200, .int c, .int (nI w), .int a] (xM h n f g) xNo (fun r h' => r = some (.int (xfrom f c w a ni)) ∧ h' = xM h n f g) xNX := by
  refine xMet_of hflags (by decide +kernel) (fun _ _ h => h) (Nat.le_of_ble_eq_true rfl) ?_
  intro E C I hret hthr
  refine a_loc [(0, .ref 200), (1, .int c), (2, .int (nI w)), (3, .int a)] (xsub_cons rfl (xsub_cons rfl (xsub_cons rfl (xsub_cons rfl (xsub_nil))))) ?_
  obtain ⟨hc, hi, hpy, hln, hc6, hi24, hp24, hlm⟩ := id hI
  have loop : ∀ (k i : Nat), i ≤ ni → ni < i + k → aW E 0 0 (xM h n f g) 6 [(0, .ref 200), (1, .int c), (2, .int (nI w)), (3, .int a), (4, .long (xsumL (xahd f c w) i)), (6, .int (nI i))] [] := by
    intro k
    induction k with
    | zero => intro i h1 h2; exact absurd h2 (by omega)
    | succ k ih =>
      intro i h1 h2
      refine a_iload (i := 6) C dX7_fromOldest_6 rfl ?_
      refine a_aload_n (i := 0) C dX7_fromOldest_8 rfl rfl ?_
      refine a_get C dX7_fromOldest_9 fl_X7_86 xM_0 (by first | exact congrArg (fun z => some (Value.int z)) hi | rfl) ?_
      refine a_icmp_ge (tgt := 98) C dX7_fromOldest_12 (by decide) (fun c12 => ?_) (fun c12 => ?_)
      · have hie : i = ni := by
          have := (xle (by omega) (by omega)).mp c12
          omega
        rw [hie]
        refine a_iload_n (i := 3) C dX7_fromOldest_98 rfl rfl ?_
        refine a_i2l C dX7_fromOldest_99 ?_
        refine a_lload (i := 4) C dX7_fromOldest_100 rfl ?_
        refine a_lsub C dX7_fromOldest_102 ?_
        refine a_lstore (i := 6) C dX7_fromOldest_103 (by decide) ?_
        refine a_lload (i := 6) C dX7_fromOldest_105 rfl ?_
        refine a_lconst (v := 0) C dX7_fromOldest_107 (by decide) ?_
        refine a_lcmp C dX7_fromOldest_108 ?_
        refine a_if_gt (tgt := 116) C dX7_fromOldest_109 (by decide) (fun c109 => ?_) (fun c109 => ?_)
        · refine a_lload (i := 6) C dX7_fromOldest_116 rfl ?_
          refine a_aload_n (i := 0) C dX7_fromOldest_118 rfl rfl ?_
          refine a_iload_n (i := 2) C dX7_fromOldest_119 rfl rfl ?_
          refine a_callV C dX7_fromOldest_120 cv_X7_clear tb1068 (m_X7_clear hflags (i := w) (by omega)) rfl rfl xM_0 rfl (Nat.le_of_ble_eq_true rfl) ⟨Nat.le_of_ble_eq_true rfl, Nat.le_of_ble_eq_true rfl⟩ ⟨Nat.le_of_ble_eq_true rfl, Nat.le_of_ble_eq_true rfl⟩ (fun _ h => h.elim) xav_no (fun _ _ h => h.elim) (fun r120 hp120 hq120 => ?_)
          obtain ⟨rfl, rfl⟩ := hq120
          refine a_i2l C dX7_fromOldest_123 ?_
          refine a_lcmp C dX7_fromOldest_124 ?_
          refine a_if_ge (tgt := 133) C dX7_fromOldest_125 (by decide) (fun c125 => ?_) (fun c125 => ?_)
          · refine a_aload_n (i := 0) C dX7_fromOldest_133 rfl rfl ?_
            refine a_iload_n (i := 2) C dX7_fromOldest_134 rfl rfl ?_
            refine a_callV C dX7_fromOldest_135 cv_X7_clear tb1068 (m_X7_clear hflags (i := w) (by omega)) rfl rfl xM_0 rfl (Nat.le_of_ble_eq_true rfl) ⟨Nat.le_of_ble_eq_true rfl, Nat.le_of_ble_eq_true rfl⟩ ⟨Nat.le_of_ble_eq_true rfl, Nat.le_of_ble_eq_true rfl⟩ (fun _ h => h.elim) xav_no (fun _ _ h => h.elim) (fun r135 hp135 hq135 => ?_)
            obtain ⟨rfl, rfl⟩ := hq135
            refine a_i2l C dX7_fromOldest_138 ?_
            refine a_l2i C dX7_fromOldest_139 ?_
            exact a_iret C dX7_fromOldest_140 (Nat.le_of_ble_eq_true rfl) (Nat.le_of_ble_eq_true rfl) (hret _ _ ⟨congrArg (fun z => some (Value.int z)) (by unfold xfrom; first | (rw [if_pos (Int64.not_lt.mp (fun z => c109 (lcmp_gt.mpr z)))]; done) | (rw [if_neg (Int64.not_le.mpr (lcmp_gt.mp c109)), if_neg (lcmp_ge.mp c125)]; done) | (rw [if_neg (Int64.not_le.mpr (lcmp_gt.mp c109)), if_pos (Classical.not_not.mp (fun z => c125 (lcmp_ge.mpr z)))]; done)), rfl⟩)
          · refine a_lload (i := 6) C dX7_fromOldest_128 rfl ?_
            refine a_goto (tgt := 139) C dX7_fromOldest_130 (by decide) ?_
            refine a_l2i C dX7_fromOldest_139 ?_
            exact a_iret C dX7_fromOldest_140 (Nat.le_of_ble_eq_true rfl) (Nat.le_of_ble_eq_true rfl) (hret _ _ ⟨congrArg (fun z => some (Value.int z)) (by unfold xfrom; first | (rw [if_pos (Int64.not_lt.mp (fun z => c109 (lcmp_gt.mpr z)))]; done) | (rw [if_neg (Int64.not_le.mpr (lcmp_gt.mp c109)), if_neg (lcmp_ge.mp c125)]; done) | (rw [if_neg (Int64.not_le.mpr (lcmp_gt.mp c109)), if_pos (Classical.not_not.mp (fun z => c125 (lcmp_ge.mpr z)))]; done)), rfl⟩)
        · refine a_iconst (v := 0) C dX7_fromOldest_112 (by decide) ?_
          refine a_goto (tgt := 140) C dX7_fromOldest_113 (by decide) ?_
          exact a_iret C dX7_fromOldest_140 (Nat.le_of_ble_eq_true rfl) (Nat.le_of_ble_eq_true rfl) (hret _ _ ⟨congrArg (fun z => some (Value.int z)) (by unfold xfrom; first | (rw [if_pos (Int64.not_lt.mp (fun z => c109 (lcmp_gt.mpr z)))]; done) | (rw [if_neg (Int64.not_le.mpr (lcmp_gt.mp c109)), if_neg (lcmp_ge.mp c125)]; done) | (rw [if_neg (Int64.not_le.mpr (lcmp_gt.mp c109)), if_pos (Classical.not_not.mp (fun z => c125 (lcmp_ge.mpr z)))]; done)), rfl⟩)
      · have hlt : i < ni := by
          rcases Nat.lt_or_ge i ni with q | q
          · exact q
          · exact absurd ((xle (by omega) (by omega)).mpr q) c12
        refine a_aload_n (i := 0) C dX7_fromOldest_15 rfl rfl ?_
        refine a_get C dX7_fromOldest_16 fl_X7_28 xM_0 rfl ?_
        refine a_iload (i := 6) C dX7_fromOldest_19 rfl ?_
        refine a_ialdI C dX7_fromOldest_21 xM_12 ⟨by omega, by omega⟩ ?_
        refine a_aload_n (i := 0) C dX7_fromOldest_22 rfl rfl ?_
        refine a_get C dX7_fromOldest_23 fl_X7_28 xM_0 rfl ?_
        refine a_iload_n (i := 2) C dX7_fromOldest_26 rfl rfl ?_
        refine a_ialdI C dX7_fromOldest_27 xM_12 ⟨by omega, by omega⟩ ?_
        refine a_icmp_lt (tgt := 53) C dX7_fromOldest_28 (by decide) (fun c28 => ?_) (fun c28 => ?_)
        · have eo : (f 12 i < f 12 w ∨ f 12 i = f 12 w ∧ i < w) := by
            first
            | exact Or.inl c28
            | exact Or.inr ⟨c44, by have := (not_congr (xle (a := w) (b := i) (by omega) (by omega))).mp c50; omega⟩
          refine a_iconst (v := 1) C dX7_fromOldest_53 (by decide) ?_
          refine a_goto (tgt := 58) C dX7_fromOldest_54 (by decide) ?_
          refine a_istore (i := 7) C dX7_fromOldest_58 (by decide) ?_
          refine a_lload (i := 4) C dX7_fromOldest_60 rfl ?_
          refine a_aload_n (i := 0) C dX7_fromOldest_62 rfl rfl ?_
          refine a_get C dX7_fromOldest_63 fl_X7_22 xM_0 rfl ?_
          refine a_iload (i := 6) C dX7_fromOldest_66 rfl ?_
          refine a_ialdI C dX7_fromOldest_68 xM_10 ⟨by omega, by omega⟩ ?_
          refine a_iload_n (i := 1) C dX7_fromOldest_69 rfl rfl ?_
          refine a_icmp_ne (tgt := 88) C dX7_fromOldest_70 (by decide) (fun c70 => ?_) (fun c70 => ?_)
          · refine a_lconst (v := 0) C dX7_fromOldest_88 (by decide) ?_
            refine a_ladd C dX7_fromOldest_89 ?_
            refine a_topl (xsumL (xahd f c w) (i + 1)) (by show _ = xsumL (xahd f c w) i + (if f 10 i = c ∧ (f 12 i < f 12 w ∨ f 12 i = f 12 w ∧ i < w) then _ else _); first | (rw [if_pos ⟨c70, eo⟩]; done) | (rw [if_neg (fun z => c70 z.1)]; done) | (rw [if_neg (fun z => eo z.2)]; done)) ?_
            refine a_lstore (i := 4) C dX7_fromOldest_90 (by decide) ?_
            refine a_iinc (i := 6) (v := nI (i + 1)) C dX7_fromOldest_92 rfl (nI_1 i) (by decide) ?_
            refine a_goto (tgt := 6) C dX7_fromOldest_95 (by decide) ?_
            refine a_loc _ ?_ (ih (i + 1) (by omega) (by omega))
            exact xsub_cons rfl (xsub_cons rfl (xsub_cons rfl (xsub_cons rfl (xsub_cons rfl (xsub_cons rfl (xsub_nil))))))
          · refine a_iload (i := 7) C dX7_fromOldest_73 rfl ?_
            refine a_if_eq (tgt := 88) C dX7_fromOldest_75 (by decide) (fun z => absurd z (by decide)) (fun _ => ?_)
            refine a_aload_n (i := 0) C dX7_fromOldest_78 rfl rfl ?_
            refine a_iload (i := 6) C dX7_fromOldest_79 rfl ?_
            refine a_callV C dX7_fromOldest_81 cv_X7_clear tb1068 (m_X7_clear hflags (i := i) (by omega)) rfl rfl xM_0 rfl (Nat.le_of_ble_eq_true rfl) ⟨Nat.le_of_ble_eq_true rfl, Nat.le_of_ble_eq_true rfl⟩ ⟨Nat.le_of_ble_eq_true rfl, Nat.le_of_ble_eq_true rfl⟩ (fun _ h => h.elim) xav_no (fun _ _ h => h.elim) (fun r81 hp81 hq81 => ?_)
            obtain ⟨rfl, rfl⟩ := hq81
            refine a_i2l C dX7_fromOldest_84 ?_
            refine a_goto (tgt := 89) C dX7_fromOldest_85 (by decide) ?_
            refine a_ladd C dX7_fromOldest_89 ?_
            refine a_topl (xsumL (xahd f c w) (i + 1)) (by show _ = xsumL (xahd f c w) i + (if f 10 i = c ∧ (f 12 i < f 12 w ∨ f 12 i = f 12 w ∧ i < w) then _ else _); first | (rw [if_pos ⟨c70, eo⟩]; done) | (rw [if_neg (fun z => c70 z.1)]; done) | (rw [if_neg (fun z => eo z.2)]; done)) ?_
            refine a_lstore (i := 4) C dX7_fromOldest_90 (by decide) ?_
            refine a_iinc (i := 6) (v := nI (i + 1)) C dX7_fromOldest_92 rfl (nI_1 i) (by decide) ?_
            refine a_goto (tgt := 6) C dX7_fromOldest_95 (by decide) ?_
            refine a_loc _ ?_ (ih (i + 1) (by omega) (by omega))
            exact xsub_cons rfl (xsub_cons rfl (xsub_cons rfl (xsub_cons rfl (xsub_cons rfl (xsub_cons rfl (xsub_nil))))))
        · refine a_aload_n (i := 0) C dX7_fromOldest_31 rfl rfl ?_
          refine a_get C dX7_fromOldest_32 fl_X7_28 xM_0 rfl ?_
          refine a_iload (i := 6) C dX7_fromOldest_35 rfl ?_
          refine a_ialdI C dX7_fromOldest_37 xM_12 ⟨by omega, by omega⟩ ?_
          refine a_aload_n (i := 0) C dX7_fromOldest_38 rfl rfl ?_
          refine a_get C dX7_fromOldest_39 fl_X7_28 xM_0 rfl ?_
          refine a_iload_n (i := 2) C dX7_fromOldest_42 rfl rfl ?_
          refine a_ialdI C dX7_fromOldest_43 xM_12 ⟨by omega, by omega⟩ ?_
          refine a_icmp_ne (tgt := 57) C dX7_fromOldest_44 (by decide) (fun c44 => ?_) (fun c44 => ?_)
          · have eo : ¬ (f 12 i < f 12 w ∨ f 12 i = f 12 w ∧ i < w) := by
              first
              | exact fun z => z.elim c28 (fun q => c44 q.1)
              | exact fun z => z.elim c28 (fun q => absurd ((xle (a := w) (b := i) (by omega) (by omega)).mp c50) (by omega))
            refine a_iconst (v := 0) C dX7_fromOldest_57 (by decide) ?_
            refine a_istore (i := 7) C dX7_fromOldest_58 (by decide) ?_
            refine a_lload (i := 4) C dX7_fromOldest_60 rfl ?_
            refine a_aload_n (i := 0) C dX7_fromOldest_62 rfl rfl ?_
            refine a_get C dX7_fromOldest_63 fl_X7_22 xM_0 rfl ?_
            refine a_iload (i := 6) C dX7_fromOldest_66 rfl ?_
            refine a_ialdI C dX7_fromOldest_68 xM_10 ⟨by omega, by omega⟩ ?_
            refine a_iload_n (i := 1) C dX7_fromOldest_69 rfl rfl ?_
            refine a_icmp_ne (tgt := 88) C dX7_fromOldest_70 (by decide) (fun c70 => ?_) (fun c70 => ?_)
            · refine a_lconst (v := 0) C dX7_fromOldest_88 (by decide) ?_
              refine a_ladd C dX7_fromOldest_89 ?_
              refine a_topl (xsumL (xahd f c w) (i + 1)) (by show _ = xsumL (xahd f c w) i + (if f 10 i = c ∧ (f 12 i < f 12 w ∨ f 12 i = f 12 w ∧ i < w) then _ else _); first | (rw [if_pos ⟨c70, eo⟩]; done) | (rw [if_neg (fun z => c70 z.1)]; done) | (rw [if_neg (fun z => eo z.2)]; done)) ?_
              refine a_lstore (i := 4) C dX7_fromOldest_90 (by decide) ?_
              refine a_iinc (i := 6) (v := nI (i + 1)) C dX7_fromOldest_92 rfl (nI_1 i) (by decide) ?_
              refine a_goto (tgt := 6) C dX7_fromOldest_95 (by decide) ?_
              refine a_loc _ ?_ (ih (i + 1) (by omega) (by omega))
              exact xsub_cons rfl (xsub_cons rfl (xsub_cons rfl (xsub_cons rfl (xsub_cons rfl (xsub_cons rfl (xsub_nil))))))
            · refine a_iload (i := 7) C dX7_fromOldest_73 rfl ?_
              refine a_if_eq (tgt := 88) C dX7_fromOldest_75 (by decide) (fun _ => ?_) (fun z => absurd (by decide) z)
              refine a_lconst (v := 0) C dX7_fromOldest_88 (by decide) ?_
              refine a_ladd C dX7_fromOldest_89 ?_
              refine a_topl (xsumL (xahd f c w) (i + 1)) (by show _ = xsumL (xahd f c w) i + (if f 10 i = c ∧ (f 12 i < f 12 w ∨ f 12 i = f 12 w ∧ i < w) then _ else _); first | (rw [if_pos ⟨c70, eo⟩]; done) | (rw [if_neg (fun z => c70 z.1)]; done) | (rw [if_neg (fun z => eo z.2)]; done)) ?_
              refine a_lstore (i := 4) C dX7_fromOldest_90 (by decide) ?_
              refine a_iinc (i := 6) (v := nI (i + 1)) C dX7_fromOldest_92 rfl (nI_1 i) (by decide) ?_
              refine a_goto (tgt := 6) C dX7_fromOldest_95 (by decide) ?_
              refine a_loc _ ?_ (ih (i + 1) (by omega) (by omega))
              exact xsub_cons rfl (xsub_cons rfl (xsub_cons rfl (xsub_cons rfl (xsub_cons rfl (xsub_cons rfl (xsub_nil))))))
          · refine a_iload (i := 6) C dX7_fromOldest_47 rfl ?_
            refine a_iload_n (i := 2) C dX7_fromOldest_49 rfl rfl ?_
            refine a_icmp_ge (tgt := 57) C dX7_fromOldest_50 (by decide) (fun c50 => ?_) (fun c50 => ?_)
            · have eo : ¬ (f 12 i < f 12 w ∨ f 12 i = f 12 w ∧ i < w) := by
                first
                | exact fun z => z.elim c28 (fun q => c44 q.1)
                | exact fun z => z.elim c28 (fun q => absurd ((xle (a := w) (b := i) (by omega) (by omega)).mp c50) (by omega))
              refine a_iconst (v := 0) C dX7_fromOldest_57 (by decide) ?_
              refine a_istore (i := 7) C dX7_fromOldest_58 (by decide) ?_
              refine a_lload (i := 4) C dX7_fromOldest_60 rfl ?_
              refine a_aload_n (i := 0) C dX7_fromOldest_62 rfl rfl ?_
              refine a_get C dX7_fromOldest_63 fl_X7_22 xM_0 rfl ?_
              refine a_iload (i := 6) C dX7_fromOldest_66 rfl ?_
              refine a_ialdI C dX7_fromOldest_68 xM_10 ⟨by omega, by omega⟩ ?_
              refine a_iload_n (i := 1) C dX7_fromOldest_69 rfl rfl ?_
              refine a_icmp_ne (tgt := 88) C dX7_fromOldest_70 (by decide) (fun c70 => ?_) (fun c70 => ?_)
              · refine a_lconst (v := 0) C dX7_fromOldest_88 (by decide) ?_
                refine a_ladd C dX7_fromOldest_89 ?_
                refine a_topl (xsumL (xahd f c w) (i + 1)) (by show _ = xsumL (xahd f c w) i + (if f 10 i = c ∧ (f 12 i < f 12 w ∨ f 12 i = f 12 w ∧ i < w) then _ else _); first | (rw [if_pos ⟨c70, eo⟩]; done) | (rw [if_neg (fun z => c70 z.1)]; done) | (rw [if_neg (fun z => eo z.2)]; done)) ?_
                refine a_lstore (i := 4) C dX7_fromOldest_90 (by decide) ?_
                refine a_iinc (i := 6) (v := nI (i + 1)) C dX7_fromOldest_92 rfl (nI_1 i) (by decide) ?_
                refine a_goto (tgt := 6) C dX7_fromOldest_95 (by decide) ?_
                refine a_loc _ ?_ (ih (i + 1) (by omega) (by omega))
                exact xsub_cons rfl (xsub_cons rfl (xsub_cons rfl (xsub_cons rfl (xsub_cons rfl (xsub_cons rfl (xsub_nil))))))
              · refine a_iload (i := 7) C dX7_fromOldest_73 rfl ?_
                refine a_if_eq (tgt := 88) C dX7_fromOldest_75 (by decide) (fun _ => ?_) (fun z => absurd (by decide) z)
                refine a_lconst (v := 0) C dX7_fromOldest_88 (by decide) ?_
                refine a_ladd C dX7_fromOldest_89 ?_
                refine a_topl (xsumL (xahd f c w) (i + 1)) (by show _ = xsumL (xahd f c w) i + (if f 10 i = c ∧ (f 12 i < f 12 w ∨ f 12 i = f 12 w ∧ i < w) then _ else _); first | (rw [if_pos ⟨c70, eo⟩]; done) | (rw [if_neg (fun z => c70 z.1)]; done) | (rw [if_neg (fun z => eo z.2)]; done)) ?_
                refine a_lstore (i := 4) C dX7_fromOldest_90 (by decide) ?_
                refine a_iinc (i := 6) (v := nI (i + 1)) C dX7_fromOldest_92 rfl (nI_1 i) (by decide) ?_
                refine a_goto (tgt := 6) C dX7_fromOldest_95 (by decide) ?_
                refine a_loc _ ?_ (ih (i + 1) (by omega) (by omega))
                exact xsub_cons rfl (xsub_cons rfl (xsub_cons rfl (xsub_cons rfl (xsub_cons rfl (xsub_cons rfl (xsub_nil))))))
            · have eo : (f 12 i < f 12 w ∨ f 12 i = f 12 w ∧ i < w) := by
                first
                | exact Or.inl c28
                | exact Or.inr ⟨c44, by have := (not_congr (xle (a := w) (b := i) (by omega) (by omega))).mp c50; omega⟩
              refine a_iconst (v := 1) C dX7_fromOldest_53 (by decide) ?_
              refine a_goto (tgt := 58) C dX7_fromOldest_54 (by decide) ?_
              refine a_istore (i := 7) C dX7_fromOldest_58 (by decide) ?_
              refine a_lload (i := 4) C dX7_fromOldest_60 rfl ?_
              refine a_aload_n (i := 0) C dX7_fromOldest_62 rfl rfl ?_
              refine a_get C dX7_fromOldest_63 fl_X7_22 xM_0 rfl ?_
              refine a_iload (i := 6) C dX7_fromOldest_66 rfl ?_
              refine a_ialdI C dX7_fromOldest_68 xM_10 ⟨by omega, by omega⟩ ?_
              refine a_iload_n (i := 1) C dX7_fromOldest_69 rfl rfl ?_
              refine a_icmp_ne (tgt := 88) C dX7_fromOldest_70 (by decide) (fun c70 => ?_) (fun c70 => ?_)
              · refine a_lconst (v := 0) C dX7_fromOldest_88 (by decide) ?_
                refine a_ladd C dX7_fromOldest_89 ?_
                refine a_topl (xsumL (xahd f c w) (i + 1)) (by show _ = xsumL (xahd f c w) i + (if f 10 i = c ∧ (f 12 i < f 12 w ∨ f 12 i = f 12 w ∧ i < w) then _ else _); first | (rw [if_pos ⟨c70, eo⟩]; done) | (rw [if_neg (fun z => c70 z.1)]; done) | (rw [if_neg (fun z => eo z.2)]; done)) ?_
                refine a_lstore (i := 4) C dX7_fromOldest_90 (by decide) ?_
                refine a_iinc (i := 6) (v := nI (i + 1)) C dX7_fromOldest_92 rfl (nI_1 i) (by decide) ?_
                refine a_goto (tgt := 6) C dX7_fromOldest_95 (by decide) ?_
                refine a_loc _ ?_ (ih (i + 1) (by omega) (by omega))
                exact xsub_cons rfl (xsub_cons rfl (xsub_cons rfl (xsub_cons rfl (xsub_cons rfl (xsub_cons rfl (xsub_nil))))))
              · refine a_iload (i := 7) C dX7_fromOldest_73 rfl ?_
                refine a_if_eq (tgt := 88) C dX7_fromOldest_75 (by decide) (fun z => absurd z (by decide)) (fun _ => ?_)
                refine a_aload_n (i := 0) C dX7_fromOldest_78 rfl rfl ?_
                refine a_iload (i := 6) C dX7_fromOldest_79 rfl ?_
                refine a_callV C dX7_fromOldest_81 cv_X7_clear tb1068 (m_X7_clear hflags (i := i) (by omega)) rfl rfl xM_0 rfl (Nat.le_of_ble_eq_true rfl) ⟨Nat.le_of_ble_eq_true rfl, Nat.le_of_ble_eq_true rfl⟩ ⟨Nat.le_of_ble_eq_true rfl, Nat.le_of_ble_eq_true rfl⟩ (fun _ h => h.elim) xav_no (fun _ _ h => h.elim) (fun r81 hp81 hq81 => ?_)
                obtain ⟨rfl, rfl⟩ := hq81
                refine a_i2l C dX7_fromOldest_84 ?_
                refine a_goto (tgt := 89) C dX7_fromOldest_85 (by decide) ?_
                refine a_ladd C dX7_fromOldest_89 ?_
                refine a_topl (xsumL (xahd f c w) (i + 1)) (by show _ = xsumL (xahd f c w) i + (if f 10 i = c ∧ (f 12 i < f 12 w ∨ f 12 i = f 12 w ∧ i < w) then _ else _); first | (rw [if_pos ⟨c70, eo⟩]; done) | (rw [if_neg (fun z => c70 z.1)]; done) | (rw [if_neg (fun z => eo z.2)]; done)) ?_
                refine a_lstore (i := 4) C dX7_fromOldest_90 (by decide) ?_
                refine a_iinc (i := 6) (v := nI (i + 1)) C dX7_fromOldest_92 rfl (nI_1 i) (by decide) ?_
                refine a_goto (tgt := 6) C dX7_fromOldest_95 (by decide) ?_
                refine a_loc _ ?_ (ih (i + 1) (by omega) (by omega))
                exact xsub_cons rfl (xsub_cons rfl (xsub_cons rfl (xsub_cons rfl (xsub_cons rfl (xsub_cons rfl (xsub_nil))))))
  refine a_lconst (v := 0) C dX7_fromOldest_0 (by decide) ?_
  refine a_lstore (i := 4) C dX7_fromOldest_1 (by decide) ?_
  refine a_iconst (v := 0) C dX7_fromOldest_3 (by decide) ?_
  refine a_istore (i := 6) C dX7_fromOldest_4 (by decide) ?_
  refine a_loc _ ?_ (loop (ni + 1) 0 (Nat.zero_le _) (by omega))
  exact xsub_cons rfl (xsub_cons rfl (xsub_cons rfl (xsub_cons rfl (xsub_cons rfl (xsub_cons rfl (xsub_nil))))))
