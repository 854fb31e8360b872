def xsum (t : Nat → Int32) : Nat → Int32
  | 0 => 0
  | k + 1 => xsum t k + t k
def xsumL (t : Nat → Int64) : Nat → Int64
  | 0 => 0
  | k + 1 => xsumL t k + t k
def xsubt (s : Int32) (t : Nat → Int32) : Nat → Int32
  | 0 => s
  | k + 1 => xsubt s t k - t k
theorem lcmp_gt {x y : Int64} : 0 < lg_cmp x y ↔ y < x := by
  unfold lg_cmp
  by_cases h1 : y < x
  · simp [h1]
  · by_cases h2 : x = y
    · simp [h2]
    · simp [h1, h2]
theorem lcmp_eq {x y : Int64} : lg_cmp x y = 0 ↔ x = y := by
  unfold lg_cmp
  by_cases h1 : y < x
  · have : ¬ x = y := fun z => by subst z; exact absurd h1 (Int64.lt_irrefl)
    simp [h1, this]
  · by_cases h2 : x = y
    · simp [h2]
    · simp [h1, h2]
theorem lcmp_lt {x y : Int64} : lg_cmp x y < 0 ↔ x < y := by
  unfold lg_cmp
  by_cases h1 : y < x
  · have : ¬ x < y := Int64.not_lt.mpr (Int64.le_of_lt h1)
    simp [h1, this]
  · by_cases h2 : x = y
    · simp [h2]
    · have h3 : x < y := by
        rcases Int64.lt_or_eq_of_le (Int64.not_lt.mp h1) with q | q
        · exact q
        · exact absurd q h2
      simp [h1, h2, h3]
def xclr (f : Nat → Nat → Int32) (c : Int32) : Nat → Int64 := fun j => if f 10 j = c then (f 13 j - f 14 j).toInt64 else 0
set_option maxRecDepth 100000 in
set_option maxHeartbeats 4000000 in
theorem m_X7_clearOf {l : Launch} {N0 : Nat} {D : va_G} {dT : Nat → ClassId} (hflags : l.stackTraces = false) {h : xH} {n : Nat → Int32} {f : Nat → Nat → Int32} {g : Nat → Nat → Int64} {nc ni np nl : Nat} (hI : xI n nc ni np nl) {c : Int32}  : xMet l N0 D dT yX7_clearOf cX7_clearOf 5 (some FieldType.long) 1 0 0 [.ref 200, .int c] (xM h n f g) xNo (fun r h' => r = some (.long (xsumL (xclr f c) ni)) ∧ h' = xM h n f g) xNX := by
  refine xMet_of hflags (by decide +kernel) (fun _ _ h => h) (Nat.le_of_ble_eq_true rfl) ?_
  intro E C I hret hthr
  refine a_loc [(0, .ref 200), (1, .int c)] (xsub_cons rfl (xsub_cons rfl (xsub_nil))) ?_
  obtain ⟨hc, hi, hpy, hln, hc6, hi24, hp24, hlm⟩ := id hI
  have loop : ∀ (k i : Nat), i ≤ ni → ni < i + k → aW E 0 0 (xM h n f g) 5 [(0, .ref 200), (1, .int c), (2, .long (xsumL (xclr f c) i)), (4, .int (nI i))] [] := by
    intro k
    induction k with
    | zero => intro i h1 h2; exact absurd h2 (by omega)
    | succ k ih =>
      intro i h1 h2
      refine a_iload (i := 4) C dX7_clearOf_5 rfl ?_
      refine a_aload_n (i := 0) C dX7_clearOf_7 rfl rfl ?_
      refine a_get C dX7_clearOf_8 fl_X7_86 xM_0 (by first | exact congrArg (fun z => some (Value.int z)) hi | rfl) ?_
      refine a_icmp_ge (tgt := 45) C dX7_clearOf_11 (by decide) (fun c11 => ?_) (fun c11 => ?_)
      · have hie : i = ni := by
          have := (xle (by omega) (by omega)).mp c11
          omega
        rw [hie]
        refine a_lload_n (i := 2) C dX7_clearOf_45 rfl rfl ?_
        exact a_lret C dX7_clearOf_46 (Nat.le_of_ble_eq_true rfl) (Nat.le_of_ble_eq_true rfl) (hret _ _ ⟨rfl, rfl⟩)
      · have hlt : i < ni := by
          rcases Nat.lt_or_ge i ni with q | q
          · exact q
          · exact absurd ((xle (by omega) (by omega)).mpr q) c11
        refine a_lload_n (i := 2) C dX7_clearOf_14 rfl rfl ?_
        refine a_aload_n (i := 0) C dX7_clearOf_15 rfl rfl ?_
        refine a_get C dX7_clearOf_16 fl_X7_22 xM_0 rfl ?_
        refine a_iload (i := 4) C dX7_clearOf_19 rfl ?_
        refine a_ialdI C dX7_clearOf_21 xM_10 ⟨by omega, by omega⟩ ?_
        refine a_iload_n (i := 1) C dX7_clearOf_22 rfl rfl ?_
        refine a_icmp_ne (tgt := 36) C dX7_clearOf_23 (by decide) (fun c23 => ?_) (fun c23 => ?_)
        · refine a_lconst (v := 0) C dX7_clearOf_36 (by decide) ?_
          refine a_ladd C dX7_clearOf_37 ?_
          refine a_topl (xsumL (xclr f c) (i + 1)) (by show _ = xsumL (xclr f c) i + (if f 10 i = c then _ else _); first | (rw [if_pos c23]) | (rw [if_neg c23])) ?_
          refine a_lstore_n (i := 2) C dX7_clearOf_38 rfl (by decide) ?_
          refine a_iinc (i := 4) (v := nI (i + 1)) C dX7_clearOf_39 rfl (nI_1 i) (by decide) ?_
          refine a_goto (tgt := 5) C dX7_clearOf_42 (by decide) ?_
          refine a_loc _ ?_ (ih (i + 1) (by omega) (by omega))
          exact xsub_cons rfl (xsub_cons rfl (xsub_cons rfl (xsub_cons rfl (xsub_nil))))
        · refine a_aload_n (i := 0) C dX7_clearOf_26 rfl rfl ?_
          refine a_iload (i := 4) C dX7_clearOf_27 rfl ?_
          refine a_callV C dX7_clearOf_29 cv_X7_clear tb1068 (m_X7_clear hflags (i := i) (by omega)) rfl rfl xM_0 rfl (Nat.le_of_ble_eq_true rfl) ⟨Nat.le_of_ble_eq_true rfl, Nat.le_of_ble_eq_true rfl⟩ ⟨Nat.le_of_ble_eq_true rfl, Nat.le_of_ble_eq_true rfl⟩ (fun _ h => h.elim) xav_no (fun _ _ h => h.elim) (fun r29 hp29 hq29 => ?_)
          obtain ⟨rfl, rfl⟩ := hq29
          refine a_i2l C dX7_clearOf_32 ?_
          refine a_goto (tgt := 37) C dX7_clearOf_33 (by decide) ?_
          refine a_ladd C dX7_clearOf_37 ?_
          refine a_topl (xsumL (xclr f c) (i + 1)) (by show _ = xsumL (xclr f c) i + (if f 10 i = c then _ else _); first | (rw [if_pos c23]) | (rw [if_neg c23])) ?_
          refine a_lstore_n (i := 2) C dX7_clearOf_38 rfl (by decide) ?_
          refine a_iinc (i := 4) (v := nI (i + 1)) C dX7_clearOf_39 rfl (nI_1 i) (by decide) ?_
          refine a_goto (tgt := 5) C dX7_clearOf_42 (by decide) ?_
          refine a_loc _ ?_ (ih (i + 1) (by omega) (by omega))
          exact xsub_cons rfl (xsub_cons rfl (xsub_cons rfl (xsub_cons rfl (xsub_nil))))
  refine a_lconst (v := 0) C dX7_clearOf_0 (by decide) ?_
  refine a_lstore_n (i := 2) C dX7_clearOf_1 rfl (by decide) ?_
  refine a_iconst (v := 0) C dX7_clearOf_2 (by decide) ?_
  refine a_istore (i := 4) C dX7_clearOf_3 (by decide) ?_
  refine a_loc _ ?_ (loop (ni + 1) 0 (Nat.zero_le _) (by omega))
  exact xsub_cons rfl (xsub_cons rfl (xsub_cons rfl (xsub_cons rfl (xsub_nil))))
def xlin (f : Nat → Nat → Int32) (i : Int32) : Nat → Int32 := fun j => if f 23 j = i then f 24 j else 0
set_option maxRecDepth 100000 in
set_option maxHeartbeats 4000000 in
theorem m_X7_openByLedger {l : Launch} {N0 : Nat} {D : va_G} {dT : Nat → ClassId} (hflags : l.stackTraces = false) {h : xH} {n : Nat → Int32} {f : Nat → Nat → Int32} {g : Nat → Nat → Int64} {nc ni np nl : Nat} (hI : xI n nc ni np nl) {w0 : Int32}  : xMet l N0 D dT yX7_openByLedger cX7_openByLedger 4 (some FieldType.int) 3 0 0 [.ref 200, .int w0] (xM h n f g) xNo (mP h (oRd (xin w0 ni) (xsum (xlin f w0) nl) n f g)) xNX := by
  refine xMet_of hflags (by decide +kernel) (fun _ _ h => h) (Nat.le_of_ble_eq_true rfl) ?_
  intro E C I hret hthr
  refine a_loc [(0, .ref 200), (1, .int w0)] (xsub_cons rfl (xsub_cons rfl (xsub_nil))) ?_
  obtain ⟨hc, hi, hpy, hln, hc6, hi24, hp24, hlm⟩ := id hI
  refine a_aload_n (i := 0) C dX7_openByLedger_0 rfl rfl ?_
  refine a_iload_n (i := 1) C dX7_openByLedger_1 rfl rfl ?_
  refine a_callV C dX7_openByLedger_2 cv_X7_noInvoice tb1193 (m_X7_noInvoice hflags hI) rfl rfl xM_0 rfl (Nat.le_of_ble_eq_true rfl) ⟨Nat.le_of_ble_eq_true rfl, Nat.le_of_ble_eq_true rfl⟩ ⟨Nat.le_of_ble_eq_true rfl, Nat.le_of_ble_eq_true rfl⟩ (fun _ h => h.elim) xav_no (fun _ _ h => h.elim) (fun r2 hp2 hq2 => ?_)
  obtain ⟨rfl, rfl⟩ := hq2
  refine a_if_eq (tgt := 10) C dX7_openByLedger_5 (by decide) (fun c5 => ?_) (fun c5 => ?_)
  · have e5 := bN0 c5
    obtain ⟨w, hiw, rfl⟩ := xin_nI e5 (by omega)
    rw [bI_f (p := ¬ xin (nI w) ni) (fun z => z e5)]
    have loop : ∀ (k i : Nat), i ≤ nl → nl < i + k → aW E 0 0 (xM h (nup n 0 0) f g) 14 [(0, .ref 200), (1, .int (nI w)), (2, .int (xsum (xlin f (nI w)) i)), (3, .int (nI i))] [] := by
      intro k
      induction k with
      | zero => intro i h1 h2; exact absurd h2 (by omega)
      | succ k ih =>
        intro i h1 h2
        refine a_iload_n (i := 3) C dX7_openByLedger_14 rfl rfl ?_
        refine a_aload_n (i := 0) C dX7_openByLedger_15 rfl rfl ?_
        refine a_get C dX7_openByLedger_16 fl_X7_134 xM_0 (by first | exact congrArg (fun z => some (Value.int z)) hln | rfl) ?_
        refine a_icmp_ge (tgt := 51) C dX7_openByLedger_19 (by decide) (fun c19 => ?_) (fun c19 => ?_)
        · have hie : i = nl := by
            have := (xle (by omega) (by omega)).mp c19
            omega
          rw [hie]
          refine a_iload_n (i := 2) C dX7_openByLedger_51 rfl rfl ?_
          exact a_iret C dX7_openByLedger_52 (Nat.le_of_ble_eq_true rfl) (Nat.le_of_ble_eq_true rfl) (hret _ _ (by first | (rw [bI_t (bNn c5)]; exact mP_rf (bNn c5)) | exact mP_rt e5 rfl))
        · have hlt : i < nl := by
            rcases Nat.lt_or_ge i nl with q | q
            · exact q
            · exact absurd ((xle (by omega) (by omega)).mpr q) c19
          refine a_iload_n (i := 2) C dX7_openByLedger_22 rfl rfl ?_
          refine a_aload_n (i := 0) C dX7_openByLedger_23 rfl rfl ?_
          refine a_get C dX7_openByLedger_24 fl_X7_63 xM_0 rfl ?_
          refine a_iload_n (i := 3) C dX7_openByLedger_27 rfl rfl ?_
          refine a_ialdI C dX7_openByLedger_28 xM_23 ⟨by omega, by omega⟩ ?_
          refine a_iload_n (i := 1) C dX7_openByLedger_29 rfl rfl ?_
          refine a_icmp_ne (tgt := 42) C dX7_openByLedger_30 (by decide) (fun c30 => ?_) (fun c30 => ?_)
          · refine a_iconst (v := 0) C dX7_openByLedger_42 (by decide) ?_
            refine a_iadd C dX7_openByLedger_43 ?_
            refine a_top (xsum (xlin f (nI w)) (i + 1)) (by show _ = xsum (xlin f (nI w)) i + (if f 23 i = nI w then _ else _); first | (rw [if_pos c30]; done) | (rw [if_neg c30]; done)) ?_
            refine a_istore_n (i := 2) C dX7_openByLedger_44 rfl (by decide) ?_
            refine a_iinc (i := 3) (v := nI (i + 1)) C dX7_openByLedger_45 rfl (nI_1 i) (by decide) ?_
            refine a_goto (tgt := 14) C dX7_openByLedger_48 (by decide) ?_
            refine a_loc _ ?_ (ih (i + 1) (by omega) (by omega))
            exact xsub_cons rfl (xsub_cons rfl (xsub_cons rfl (xsub_cons rfl (xsub_nil))))
          · refine a_aload_n (i := 0) C dX7_openByLedger_33 rfl rfl ?_
            refine a_get C dX7_openByLedger_34 fl_X7_66 xM_0 rfl ?_
            refine a_iload_n (i := 3) C dX7_openByLedger_37 rfl rfl ?_
            refine a_ialdI C dX7_openByLedger_38 xM_24 ⟨by omega, by omega⟩ ?_
            refine a_goto (tgt := 43) C dX7_openByLedger_39 (by decide) ?_
            refine a_iadd C dX7_openByLedger_43 ?_
            refine a_top (xsum (xlin f (nI w)) (i + 1)) (by show _ = xsum (xlin f (nI w)) i + (if f 23 i = nI w then _ else _); first | (rw [if_pos c30]; done) | (rw [if_neg c30]; done)) ?_
            refine a_istore_n (i := 2) C dX7_openByLedger_44 rfl (by decide) ?_
            refine a_iinc (i := 3) (v := nI (i + 1)) C dX7_openByLedger_45 rfl (nI_1 i) (by decide) ?_
            refine a_goto (tgt := 14) C dX7_openByLedger_48 (by decide) ?_
            refine a_loc _ ?_ (ih (i + 1) (by omega) (by omega))
            exact xsub_cons rfl (xsub_cons rfl (xsub_cons rfl (xsub_cons rfl (xsub_nil))))
    refine a_iconst (v := 0) C dX7_openByLedger_10 (by decide) ?_
    refine a_istore_n (i := 2) C dX7_openByLedger_11 rfl (by decide) ?_
    refine a_iconst (v := 0) C dX7_openByLedger_12 (by decide) ?_
    refine a_istore_n (i := 3) C dX7_openByLedger_13 rfl (by decide) ?_
    refine a_loc _ ?_ (loop (nl + 1) 0 (Nat.zero_le _) (by omega))
    exact xsub_cons rfl (xsub_cons rfl (xsub_cons rfl (xsub_cons rfl (xsub_nil))))
  · refine a_iconst (v := 0) C dX7_openByLedger_8 (by decide) ?_
    exact a_iret C dX7_openByLedger_9 (Nat.le_of_ble_eq_true rfl) (Nat.le_of_ble_eq_true rfl) (hret _ _ (by first | (rw [bI_t (bNn c5)]; exact mP_rf (bNn c5)) | exact mP_rt e5 rfl))
def xopn (f : Nat → Nat → Int32) (c : Int32) : Nat → Int32 := fun j => if f 10 j = c then f 13 j else 0
def xrst (f : Nat → Nat → Int32) (c : Int32) : Nat → Int32 := fun j => if f 19 j = c then f 20 j else 0
def xbal (f : Nat → Nat → Int32) (c : Int32) (ni np : Nat) : Int32 := xsubt (xsum (xopn f c) ni) (xrst f c) np
set_option maxRecDepth 100000 in
set_option maxHeartbeats 4000000 in
theorem m_X7_balance {l : Launch} {N0 : Nat} {D : va_G} {dT : Nat → ClassId} (hflags : l.stackTraces = false) {h : xH} {n : Nat → Int32} {f : Nat → Nat → Int32} {g : Nat → Nat → Int64} {nc ni np nl : Nat} (hI : xI n nc ni np nl) {w0 : Int32}  : xMet l N0 D dT yX7_balance cX7_balance 4 (some FieldType.int) 3 0 0 [.ref 200, .int w0] (xM h n f g) xNo (mP h (oRd (xin w0 nc) (xbal f w0 ni np) n f g)) xNX := by
  refine xMet_of hflags (by decide +kernel) (fun _ _ h => h) (Nat.le_of_ble_eq_true rfl) ?_
  intro E C I hret hthr
  refine a_loc [(0, .ref 200), (1, .int w0)] (xsub_cons rfl (xsub_cons rfl (xsub_nil))) ?_
  obtain ⟨hc, hi, hpy, hln, hc6, hi24, hp24, hlm⟩ := id hI
  refine a_aload_n (i := 0) C dX7_balance_0 rfl rfl ?_
  refine a_iload_n (i := 1) C dX7_balance_1 rfl rfl ?_
  refine a_callV C dX7_balance_2 cv_X7_noCustomer tb1149 (m_X7_noCustomer hflags hI) rfl rfl xM_0 rfl (Nat.le_of_ble_eq_true rfl) ⟨Nat.le_of_ble_eq_true rfl, Nat.le_of_ble_eq_true rfl⟩ ⟨Nat.le_of_ble_eq_true rfl, Nat.le_of_ble_eq_true rfl⟩ (fun _ h => h.elim) xav_no (fun _ _ h => h.elim) (fun r2 hp2 hq2 => ?_)
  obtain ⟨rfl, rfl⟩ := hq2
  refine a_if_eq (tgt := 10) C dX7_balance_5 (by decide) (fun c5 => ?_) (fun c5 => ?_)
  · have e5 := bN0 c5
    obtain ⟨w, hiw, rfl⟩ := xin_nI e5 (by omega)
    rw [bI_f (p := ¬ xin (nI w) nc) (fun z => z e5)]
    have loop2 : ∀ (k i : Nat), i ≤ np → np < i + k → aW E 0 0 (xM h (nup n 0 0) f g) 53 [(0, .ref 200), (1, .int (nI w)), (2, .int (xsubt (xsum (xopn f (nI w)) ni) (xrst f (nI w)) i)), (3, .int (nI i))] [] := by
      intro k
      induction k with
      | zero => intro i h1 h2; exact absurd h2 (by omega)
      | succ k ih =>
        intro i h1 h2
        refine a_iload_n (i := 3) C dX7_balance_53 rfl rfl ?_
        refine a_aload_n (i := 0) C dX7_balance_54 rfl rfl ?_
        refine a_get C dX7_balance_55 fl_X7_89 xM_0 (by first | exact congrArg (fun z => some (Value.int z)) hpy | rfl) ?_
        refine a_icmp_ge (tgt := 90) C dX7_balance_58 (by decide) (fun c58 => ?_) (fun c58 => ?_)
        · have hie : i = np := by
            have := (xle (by omega) (by omega)).mp c58
            omega
          rw [hie]
          refine a_iload_n (i := 2) C dX7_balance_90 rfl rfl ?_
          exact a_iret C dX7_balance_91 (Nat.le_of_ble_eq_true rfl) (Nat.le_of_ble_eq_true rfl) (hret _ _ (by first | (rw [bI_t (bNn c5)]; exact mP_rf (bNn c5)) | exact mP_rt e5 rfl))
        · have hlt : i < np := by
            rcases Nat.lt_or_ge i np with q | q
            · exact q
            · exact absurd ((xle (by omega) (by omega)).mpr q) c58
          refine a_iload_n (i := 2) C dX7_balance_61 rfl rfl ?_
          refine a_aload_n (i := 0) C dX7_balance_62 rfl rfl ?_
          refine a_get C dX7_balance_63 fl_X7_51 xM_0 rfl ?_
          refine a_iload_n (i := 3) C dX7_balance_66 rfl rfl ?_
          refine a_ialdI C dX7_balance_67 xM_19 ⟨by omega, by omega⟩ ?_
          refine a_iload_n (i := 1) C dX7_balance_68 rfl rfl ?_
          refine a_icmp_ne (tgt := 81) C dX7_balance_69 (by decide) (fun c69 => ?_) (fun c69 => ?_)
          · refine a_iconst (v := 0) C dX7_balance_81 (by decide) ?_
            refine a_isub C dX7_balance_82 ?_
            refine a_top (xsubt (xsum (xopn f (nI w)) ni) (xrst f (nI w)) (i + 1)) (by show _ = xsubt (xsum (xopn f (nI w)) ni) (xrst f (nI w)) i - (if f 19 i = nI w then _ else _); first | (rw [if_pos c69]; done) | (rw [if_neg c69]; done)) ?_
            refine a_istore_n (i := 2) C dX7_balance_83 rfl (by decide) ?_
            refine a_iinc (i := 3) (v := nI (i + 1)) C dX7_balance_84 rfl (nI_1 i) (by decide) ?_
            refine a_goto (tgt := 53) C dX7_balance_87 (by decide) ?_
            refine a_loc _ ?_ (ih (i + 1) (by omega) (by omega))
            exact xsub_cons rfl (xsub_cons rfl (xsub_cons rfl (xsub_cons rfl (xsub_nil))))
          · refine a_aload_n (i := 0) C dX7_balance_72 rfl rfl ?_
            refine a_get C dX7_balance_73 fl_X7_54 xM_0 rfl ?_
            refine a_iload_n (i := 3) C dX7_balance_76 rfl rfl ?_
            refine a_ialdI C dX7_balance_77 xM_20 ⟨by omega, by omega⟩ ?_
            refine a_goto (tgt := 82) C dX7_balance_78 (by decide) ?_
            refine a_isub C dX7_balance_82 ?_
            refine a_top (xsubt (xsum (xopn f (nI w)) ni) (xrst f (nI w)) (i + 1)) (by show _ = xsubt (xsum (xopn f (nI w)) ni) (xrst f (nI w)) i - (if f 19 i = nI w then _ else _); first | (rw [if_pos c69]; done) | (rw [if_neg c69]; done)) ?_
            refine a_istore_n (i := 2) C dX7_balance_83 rfl (by decide) ?_
            refine a_iinc (i := 3) (v := nI (i + 1)) C dX7_balance_84 rfl (nI_1 i) (by decide) ?_
            refine a_goto (tgt := 53) C dX7_balance_87 (by decide) ?_
            refine a_loc _ ?_ (ih (i + 1) (by omega) (by omega))
            exact xsub_cons rfl (xsub_cons rfl (xsub_cons rfl (xsub_cons rfl (xsub_nil))))
    have loop : ∀ (k i : Nat), i ≤ ni → ni < i + k → aW E 0 0 (xM h (nup n 0 0) f g) 14 [(0, .ref 200), (1, .int (nI w)), (2, .int (xsum (xopn f (nI w)) i)), (3, .int (nI i))] [] := by
      intro k
      induction k with
      | zero => intro i h1 h2; exact absurd h2 (by omega)
      | succ k ih =>
        intro i h1 h2
        refine a_iload_n (i := 3) C dX7_balance_14 rfl rfl ?_
        refine a_aload_n (i := 0) C dX7_balance_15 rfl rfl ?_
        refine a_get C dX7_balance_16 fl_X7_86 xM_0 (by first | exact congrArg (fun z => some (Value.int z)) hi | rfl) ?_
        refine a_icmp_ge (tgt := 51) C dX7_balance_19 (by decide) (fun c19 => ?_) (fun c19 => ?_)
        · have hie : i = ni := by
            have := (xle (by omega) (by omega)).mp c19
            omega
          rw [hie]
          refine a_iconst (v := 0) C dX7_balance_51 (by decide) ?_
          refine a_istore_n (i := 3) C dX7_balance_52 rfl (by decide) ?_
          refine a_loc _ ?_ (loop2 (np + 1) 0 (Nat.zero_le _) (by omega))
          exact xsub_cons rfl (xsub_cons rfl (xsub_cons rfl (xsub_cons rfl (xsub_nil))))
        · have hlt : i < ni := by
            rcases Nat.lt_or_ge i ni with q | q
            · exact q
            · exact absurd ((xle (by omega) (by omega)).mpr q) c19
          refine a_iload_n (i := 2) C dX7_balance_22 rfl rfl ?_
          refine a_aload_n (i := 0) C dX7_balance_23 rfl rfl ?_
          refine a_get C dX7_balance_24 fl_X7_22 xM_0 rfl ?_
          refine a_iload_n (i := 3) C dX7_balance_27 rfl rfl ?_
          refine a_ialdI C dX7_balance_28 xM_10 ⟨by omega, by omega⟩ ?_
          refine a_iload_n (i := 1) C dX7_balance_29 rfl rfl ?_
          refine a_icmp_ne (tgt := 42) C dX7_balance_30 (by decide) (fun c30 => ?_) (fun c30 => ?_)
          · refine a_iconst (v := 0) C dX7_balance_42 (by decide) ?_
            refine a_iadd C dX7_balance_43 ?_
            refine a_top (xsum (xopn f (nI w)) (i + 1)) (by show _ = xsum (xopn f (nI w)) i + (if f 10 i = nI w then _ else _); first | (rw [if_pos c30]; done) | (rw [if_neg c30]; done)) ?_
            refine a_istore_n (i := 2) C dX7_balance_44 rfl (by decide) ?_
            refine a_iinc (i := 3) (v := nI (i + 1)) C dX7_balance_45 rfl (nI_1 i) (by decide) ?_
            refine a_goto (tgt := 14) C dX7_balance_48 (by decide) ?_
            refine a_loc _ ?_ (ih (i + 1) (by omega) (by omega))
            exact xsub_cons rfl (xsub_cons rfl (xsub_cons rfl (xsub_cons rfl (xsub_nil))))
          · refine a_aload_n (i := 0) C dX7_balance_33 rfl rfl ?_
            refine a_get C dX7_balance_34 fl_X7_31 xM_0 rfl ?_
            refine a_iload_n (i := 3) C dX7_balance_37 rfl rfl ?_
            refine a_ialdI C dX7_balance_38 xM_13 ⟨by omega, by omega⟩ ?_
            refine a_goto (tgt := 43) C dX7_balance_39 (by decide) ?_
            refine a_iadd C dX7_balance_43 ?_
            refine a_top (xsum (xopn f (nI w)) (i + 1)) (by show _ = xsum (xopn f (nI w)) i + (if f 10 i = nI w then _ else _); first | (rw [if_pos c30]; done) | (rw [if_neg c30]; done)) ?_
            refine a_istore_n (i := 2) C dX7_balance_44 rfl (by decide) ?_
            refine a_iinc (i := 3) (v := nI (i + 1)) C dX7_balance_45 rfl (nI_1 i) (by decide) ?_
            refine a_goto (tgt := 14) C dX7_balance_48 (by decide) ?_
            refine a_loc _ ?_ (ih (i + 1) (by omega) (by omega))
            exact xsub_cons rfl (xsub_cons rfl (xsub_cons rfl (xsub_cons rfl (xsub_nil))))
    refine a_iconst (v := 0) C dX7_balance_10 (by decide) ?_
    refine a_istore_n (i := 2) C dX7_balance_11 rfl (by decide) ?_
    refine a_iconst (v := 0) C dX7_balance_12 (by decide) ?_
    refine a_istore_n (i := 3) C dX7_balance_13 rfl (by decide) ?_
    refine a_loc _ ?_ (loop (ni + 1) 0 (Nat.zero_le _) (by omega))
    exact xsub_cons rfl (xsub_cons rfl (xsub_cons rfl (xsub_cons rfl (xsub_nil))))
  · refine a_iconst (v := 0) C dX7_balance_8 (by decide) ?_
    exact a_iret C dX7_balance_9 (Nat.le_of_ble_eq_true rfl) (Nat.le_of_ble_eq_true rfl) (hret _ _ (by first | (rw [bI_t (bNn c5)]; exact mP_rf (bNn c5)) | exact mP_rt e5 rfl))
def xage (n : Nat → Int32) (f : Nat → Nat → Int32) (c b : Int32) : Nat → Int32 := fun j => if f 10 j = c ∧ xbk (n 1 - f 12 j) = b then f 13 j else 0
set_option maxRecDepth 100000 in
set_option maxHeartbeats 4000000 in
theorem m_X7_ageing {l : Launch} {N0 : Nat} {D : va_G} {dT : Nat → ClassId} (hflags : l.stackTraces = false) {h : xH} {n : Nat → Int32} {f : Nat → Nat → Int32} {g : Nat → Nat → Int64} {nc ni np nl : Nat} (hI : xI n nc ni np nl) {w0 b : Int32}  : xMet l N0 D dT yX7_ageing cX7_ageing 5 (some FieldType.int) 3 0 0 [.ref 200, .int w0, .int b] (xM h n f g) xNo (mP h (oRd (xin w0 nc ∧ (0 ≤ b ∧ b ≤ 4)) (xsum (xage n f w0 b) ni) n f g)) xNX := by
  refine xMet_of hflags (by decide +kernel) (fun _ _ h => h) (Nat.le_of_ble_eq_true rfl) ?_
  intro E C I hret hthr
  refine a_loc [(0, .ref 200), (1, .int w0), (2, .int b)] (xsub_cons rfl (xsub_cons rfl (xsub_cons rfl (xsub_nil)))) ?_
  obtain ⟨hc, hi, hpy, hln, hc6, hi24, hp24, hlm⟩ := id hI
  refine a_aload_n (i := 0) C dX7_ageing_0 rfl rfl ?_
  refine a_aload_n (i := 0) C dX7_ageing_1 rfl rfl ?_
  refine a_iload_n (i := 1) C dX7_ageing_2 rfl rfl ?_
  refine a_callV C dX7_ageing_3 cv_X7_isCustomer tb1040 (m_X7_isCustomer hflags hI) rfl rfl xM_0 rfl (Nat.le_of_ble_eq_true rfl) ⟨Nat.le_of_ble_eq_true rfl, Nat.le_of_ble_eq_true rfl⟩ ⟨Nat.le_of_ble_eq_true rfl, Nat.le_of_ble_eq_true rfl⟩ (fun _ h => h.elim) xav_no (fun _ _ h => h.elim) (fun r3 hp3 hq3 => ?_)
  obtain ⟨rfl, rfl⟩ := hq3
  refine a_if_eq (tgt := 22) C dX7_ageing_6 (by decide) (fun c6 => ?_) (fun c6 => ?_)
  · have e6 : ¬ (xin w0 nc ∧ (0 ≤ b ∧ b ≤ 4)) := by clear hret hthr I C; grind [bI_0, bI_n0]
    refine a_iconst (v := 1) C dX7_ageing_22 (by decide) ?_
    refine a_callV C dX7_ageing_23 cv_X7_refused tb1032 (m_X7_refused1 hflags (by decide)) rfl rfl xM_0 rfl (Nat.le_of_ble_eq_true rfl) ⟨Nat.le_of_ble_eq_true rfl, Nat.le_of_ble_eq_true rfl⟩ ⟨Nat.le_of_ble_eq_true rfl, Nat.le_of_ble_eq_true rfl⟩ (fun _ h => h.elim) xav_no (fun _ _ h => h.elim) (fun r23 hp23 hq23 => ?_)
    obtain ⟨rfl, rfl⟩ := hq23
    refine a_if_eq (tgt := 31) C dX7_ageing_26 (by decide) (fun z => absurd z (by decide)) (fun _ => ?_)
    refine a_iconst (v := 0) C dX7_ageing_29 (by decide) ?_
    exact a_iret C dX7_ageing_30 (Nat.le_of_ble_eq_true rfl) (Nat.le_of_ble_eq_true rfl) (hret _ _ (by first | exact mP_rf e6 | exact mP_rt e6 rfl))
  · refine a_iload_n (i := 2) C dX7_ageing_9 rfl rfl ?_
    refine a_iconst (v := 0) C dX7_ageing_10 (by decide) ?_
    refine a_iconst (v := 4) C dX7_ageing_11 (by decide) ?_
    refine a_callS C dX7_ageing_12 cs_X7_within tb1029 (m_X7_within hflags) rfl rfl (Nat.le_of_ble_eq_true rfl) ⟨Nat.le_of_ble_eq_true rfl, Nat.le_of_ble_eq_true rfl⟩ ⟨Nat.le_of_ble_eq_true rfl, Nat.le_of_ble_eq_true rfl⟩ (fun _ h => h.elim) xav_no (fun _ _ h => h.elim) (fun r12 hp12 hq12 => ?_)
    obtain ⟨rfl, rfl⟩ := hq12
    refine a_if_eq (tgt := 22) C dX7_ageing_15 (by decide) (fun c15 => ?_) (fun c15 => ?_)
    · have e6 : ¬ (xin w0 nc ∧ (0 ≤ b ∧ b ≤ 4)) := by clear hret hthr I C; grind [bI_0, bI_n0]
      refine a_iconst (v := 1) C dX7_ageing_22 (by decide) ?_
      refine a_callV C dX7_ageing_23 cv_X7_refused tb1032 (m_X7_refused1 hflags (by decide)) rfl rfl xM_0 rfl (Nat.le_of_ble_eq_true rfl) ⟨Nat.le_of_ble_eq_true rfl, Nat.le_of_ble_eq_true rfl⟩ ⟨Nat.le_of_ble_eq_true rfl, Nat.le_of_ble_eq_true rfl⟩ (fun _ h => h.elim) xav_no (fun _ _ h => h.elim) (fun r23 hp23 hq23 => ?_)
      obtain ⟨rfl, rfl⟩ := hq23
      refine a_if_eq (tgt := 31) C dX7_ageing_26 (by decide) (fun z => absurd z (by decide)) (fun _ => ?_)
      refine a_iconst (v := 0) C dX7_ageing_29 (by decide) ?_
      exact a_iret C dX7_ageing_30 (Nat.le_of_ble_eq_true rfl) (Nat.le_of_ble_eq_true rfl) (hret _ _ (by first | exact mP_rf e6 | exact mP_rt e6 rfl))
    · have e6 : xin w0 nc ∧ (0 ≤ b ∧ b ≤ 4) := ⟨bn c6, bn c15⟩
      obtain ⟨w, hiw, rfl⟩ := xin_nI e6.1 (by omega)
      have loop : ∀ (k i : Nat), i ≤ ni → ni < i + k → aW E 0 0 (xM h (nup n 0 0) f g) 36 [(0, .ref 200), (1, .int (nI w)), (2, .int b), (3, .int (xsum (xage n f (nI w) b) i)), (4, .int (nI i))] [] := by
        intro k
        induction k with
        | zero => intro i h1 h2; exact absurd h2 (by omega)
        | succ k ih =>
          intro i h1 h2
          refine a_iload (i := 4) C dX7_ageing_36 rfl ?_
          refine a_aload_n (i := 0) C dX7_ageing_38 rfl rfl ?_
          refine a_get C dX7_ageing_39 fl_X7_86 xM_0 (by first | exact congrArg (fun z => some (Value.int z)) hi | rfl) ?_
          refine a_icmp_ge (tgt := 86) C dX7_ageing_42 (by decide) (fun c42 => ?_) (fun c42 => ?_)
          · have hie : i = ni := by
              have := (xle (by omega) (by omega)).mp c42
              omega
            rw [hie]
            refine a_iload_n (i := 3) C dX7_ageing_86 rfl rfl ?_
            exact a_iret C dX7_ageing_87 (Nat.le_of_ble_eq_true rfl) (Nat.le_of_ble_eq_true rfl) (hret _ _ (by first | exact mP_rf e6 | exact mP_rt e6 rfl))
          · have hlt : i < ni := by
              rcases Nat.lt_or_ge i ni with q | q
              · exact q
              · exact absurd ((xle (by omega) (by omega)).mpr q) c42
            refine a_iload_n (i := 3) C dX7_ageing_45 rfl rfl ?_
            refine a_aload_n (i := 0) C dX7_ageing_46 rfl rfl ?_
            refine a_get C dX7_ageing_47 fl_X7_22 xM_0 rfl ?_
            refine a_iload (i := 4) C dX7_ageing_50 rfl ?_
            refine a_ialdI C dX7_ageing_52 xM_10 ⟨by omega, by omega⟩ ?_
            refine a_iload_n (i := 1) C dX7_ageing_53 rfl rfl ?_
            refine a_icmp_ne (tgt := 77) C dX7_ageing_54 (by decide) (fun c54 => ?_) (fun c54 => ?_)
            · refine a_iconst (v := 0) C dX7_ageing_77 (by decide) ?_
              refine a_iadd C dX7_ageing_78 ?_
              refine a_top (xsum (xage n f (nI w) b) (i + 1)) (by show _ = xsum (xage n f (nI w) b) i + (if f 10 i = nI w ∧ xbk (n 1 - f 12 i) = b then _ else _); first | (rw [if_pos ⟨c54, c64⟩]; done) | (rw [if_neg (fun z => c54 z.1)]; done) | (rw [if_neg (fun z => c64 z.2)]; done)) ?_
              refine a_istore_n (i := 3) C dX7_ageing_79 rfl (by decide) ?_
              refine a_iinc (i := 4) (v := nI (i + 1)) C dX7_ageing_80 rfl (nI_1 i) (by decide) ?_
              refine a_goto (tgt := 36) C dX7_ageing_83 (by decide) ?_
              refine a_loc _ ?_ (ih (i + 1) (by omega) (by omega))
              exact xsub_cons rfl (xsub_cons rfl (xsub_cons rfl (xsub_cons rfl (xsub_cons rfl (xsub_nil)))))
            · refine a_aload_n (i := 0) C dX7_ageing_57 rfl rfl ?_
              refine a_iload (i := 4) C dX7_ageing_58 rfl ?_
              refine a_callV C dX7_ageing_60 cv_X7_bucket tb1249 (m_X7_bucket hflags (i := i) (by omega)) rfl rfl xM_0 rfl (Nat.le_of_ble_eq_true rfl) ⟨Nat.le_of_ble_eq_true rfl, Nat.le_of_ble_eq_true rfl⟩ ⟨Nat.le_of_ble_eq_true rfl, Nat.le_of_ble_eq_true rfl⟩ (fun _ h => h.elim) xav_no (fun _ _ h => h.elim) (fun r60 hp60 hq60 => ?_)
              obtain ⟨rfl, rfl⟩ := hq60
              refine a_iload_n (i := 2) C dX7_ageing_63 rfl rfl ?_
              refine a_icmp_ne (tgt := 77) C dX7_ageing_64 (by decide) (fun c64 => ?_) (fun c64 => ?_)
              · refine a_iconst (v := 0) C dX7_ageing_77 (by decide) ?_
                refine a_iadd C dX7_ageing_78 ?_
                refine a_top (xsum (xage n f (nI w) b) (i + 1)) (by show _ = xsum (xage n f (nI w) b) i + (if f 10 i = nI w ∧ xbk (n 1 - f 12 i) = b then _ else _); first | (rw [if_pos ⟨c54, c64⟩]; done) | (rw [if_neg (fun z => c54 z.1)]; done) | (rw [if_neg (fun z => c64 z.2)]; done)) ?_
                refine a_istore_n (i := 3) C dX7_ageing_79 rfl (by decide) ?_
                refine a_iinc (i := 4) (v := nI (i + 1)) C dX7_ageing_80 rfl (nI_1 i) (by decide) ?_
                refine a_goto (tgt := 36) C dX7_ageing_83 (by decide) ?_
                refine a_loc _ ?_ (ih (i + 1) (by omega) (by omega))
                exact xsub_cons rfl (xsub_cons rfl (xsub_cons rfl (xsub_cons rfl (xsub_cons rfl (xsub_nil)))))
              · refine a_aload_n (i := 0) C dX7_ageing_67 rfl rfl ?_
                refine a_get C dX7_ageing_68 fl_X7_31 xM_0 rfl ?_
                refine a_iload (i := 4) C dX7_ageing_71 rfl ?_
                refine a_ialdI C dX7_ageing_73 xM_13 ⟨by omega, by omega⟩ ?_
                refine a_goto (tgt := 78) C dX7_ageing_74 (by decide) ?_
                refine a_iadd C dX7_ageing_78 ?_
                refine a_top (xsum (xage n f (nI w) b) (i + 1)) (by show _ = xsum (xage n f (nI w) b) i + (if f 10 i = nI w ∧ xbk (n 1 - f 12 i) = b then _ else _); first | (rw [if_pos ⟨c54, c64⟩]; done) | (rw [if_neg (fun z => c54 z.1)]; done) | (rw [if_neg (fun z => c64 z.2)]; done)) ?_
                refine a_istore_n (i := 3) C dX7_ageing_79 rfl (by decide) ?_
                refine a_iinc (i := 4) (v := nI (i + 1)) C dX7_ageing_80 rfl (nI_1 i) (by decide) ?_
                refine a_goto (tgt := 36) C dX7_ageing_83 (by decide) ?_
                refine a_loc _ ?_ (ih (i + 1) (by omega) (by omega))
                exact xsub_cons rfl (xsub_cons rfl (xsub_cons rfl (xsub_cons rfl (xsub_cons rfl (xsub_nil)))))
      refine a_iconst (v := 0) C dX7_ageing_18 (by decide) ?_
      refine a_goto (tgt := 23) C dX7_ageing_19 (by decide) ?_
      refine a_callV C dX7_ageing_23 cv_X7_refused tb1032 (m_X7_refused0 hflags) rfl rfl xM_0 rfl (Nat.le_of_ble_eq_true rfl) ⟨Nat.le_of_ble_eq_true rfl, Nat.le_of_ble_eq_true rfl⟩ ⟨Nat.le_of_ble_eq_true rfl, Nat.le_of_ble_eq_true rfl⟩ (fun _ h => h.elim) xav_no (fun _ _ h => h.elim) (fun r23 hp23 hq23 => ?_)
      obtain ⟨rfl, rfl⟩ := hq23
      refine a_if_eq (tgt := 31) C dX7_ageing_26 (by decide) (fun _ => ?_) (fun z => absurd (by decide) z)
      refine a_iconst (v := 0) C dX7_ageing_31 (by decide) ?_
      refine a_istore_n (i := 3) C dX7_ageing_32 rfl (by decide) ?_
      refine a_iconst (v := 0) C dX7_ageing_33 (by decide) ?_
      refine a_istore (i := 4) C dX7_ageing_34 (by decide) ?_
      refine a_loc _ ?_ (loop (ni + 1) 0 (Nat.zero_le _) (by omega))
      exact xsub_cons rfl (xsub_cons rfl (xsub_cons rfl (xsub_cons rfl (xsub_cons rfl (xsub_nil)))))
def xlev (f : Nat → Nat → Int32) (l : Int32) : Nat → Int32 := fun j => if f 17 j = l then 1 else 0
set_option maxRecDepth 100000 in
set_option maxHeartbeats 4000000 in
theorem m_X7_invoicesAt {l : Launch} {N0 : Nat} {D : va_G} {dT : Nat → ClassId} (hflags : l.stackTraces = false) {h : xH} {n : Nat → Int32} {f : Nat → Nat → Int32} {g : Nat → Nat → Int64} {nc ni np nl : Nat} (hI : xI n nc ni np nl) {w : Int32}  : xMet l N0 D dT yX7_invoicesAt cX7_invoicesAt 4 (some FieldType.int) 1 0 0 [.ref 200, .int w] (xM h n f g) xNo (mP h (oRd (0 ≤ w ∧ w ≤ 4) (xsum (xlev f w) ni) n f g)) xNX := by
  refine xMet_of hflags (by decide +kernel) (fun _ _ h => h) (Nat.le_of_ble_eq_true rfl) ?_
  intro E C I hret hthr
  refine a_loc [(0, .ref 200), (1, .int w)] (xsub_cons rfl (xsub_cons rfl (xsub_nil))) ?_
  obtain ⟨hc, hi, hpy, hln, hc6, hi24, hp24, hlm⟩ := id hI
  refine a_aload_n (i := 0) C dX7_invoicesAt_0 rfl rfl ?_
  refine a_iload_n (i := 1) C dX7_invoicesAt_1 rfl rfl ?_
  refine a_iconst (v := 0) C dX7_invoicesAt_2 (by decide) ?_
  refine a_iconst (v := 4) C dX7_invoicesAt_3 (by decide) ?_
  refine a_callS C dX7_invoicesAt_4 cs_X7_within tb1029 (m_X7_within hflags) rfl rfl (Nat.le_of_ble_eq_true rfl) ⟨Nat.le_of_ble_eq_true rfl, Nat.le_of_ble_eq_true rfl⟩ ⟨Nat.le_of_ble_eq_true rfl, Nat.le_of_ble_eq_true rfl⟩ (fun _ h => h.elim) xav_no (fun _ _ h => h.elim) (fun r4 hp4 hq4 => ?_)
  obtain ⟨rfl, rfl⟩ := hq4
  refine a_if_eq (tgt := 14) C dX7_invoicesAt_7 (by decide) (fun c7 => ?_) (fun c7 => ?_)
  · have e6 := b0 c7
    refine a_iconst (v := 1) C dX7_invoicesAt_14 (by decide) ?_
    refine a_callV C dX7_invoicesAt_15 cv_X7_refused tb1032 (m_X7_refused1 hflags (by decide)) rfl rfl xM_0 rfl (Nat.le_of_ble_eq_true rfl) ⟨Nat.le_of_ble_eq_true rfl, Nat.le_of_ble_eq_true rfl⟩ ⟨Nat.le_of_ble_eq_true rfl, Nat.le_of_ble_eq_true rfl⟩ (fun _ h => h.elim) xav_no (fun _ _ h => h.elim) (fun r15 hp15 hq15 => ?_)
    obtain ⟨rfl, rfl⟩ := hq15
    refine a_if_eq (tgt := 23) C dX7_invoicesAt_18 (by decide) (fun z => absurd z (by decide)) (fun _ => ?_)
    refine a_iconst (v := 0) C dX7_invoicesAt_21 (by decide) ?_
    exact a_iret C dX7_invoicesAt_22 (Nat.le_of_ble_eq_true rfl) (Nat.le_of_ble_eq_true rfl) (hret _ _ (by first | exact mP_rf e6 | exact mP_rt e6 rfl))
  · have e6 := bn c7
    have loop : ∀ (k i : Nat), i ≤ ni → ni < i + k → aW E 0 0 (xM h (nup n 0 0) f g) 27 [(0, .ref 200), (1, .int w), (2, .int (xsum (xlev f w) i)), (3, .int (nI i))] [] := by
      intro k
      induction k with
      | zero => intro i h1 h2; exact absurd h2 (by omega)
      | succ k ih =>
        intro i h1 h2
        refine a_iload_n (i := 3) C dX7_invoicesAt_27 rfl rfl ?_
        refine a_aload_n (i := 0) C dX7_invoicesAt_28 rfl rfl ?_
        refine a_get C dX7_invoicesAt_29 fl_X7_86 xM_0 (by first | exact congrArg (fun z => some (Value.int z)) hi | rfl) ?_
        refine a_icmp_ge (tgt := 59) C dX7_invoicesAt_32 (by decide) (fun c32 => ?_) (fun c32 => ?_)
        · have hie : i = ni := by
            have := (xle (by omega) (by omega)).mp c32
            omega
          rw [hie]
          refine a_iload_n (i := 2) C dX7_invoicesAt_59 rfl rfl ?_
          exact a_iret C dX7_invoicesAt_60 (Nat.le_of_ble_eq_true rfl) (Nat.le_of_ble_eq_true rfl) (hret _ _ (by first | exact mP_rf e6 | exact mP_rt e6 rfl))
        · have hlt : i < ni := by
            rcases Nat.lt_or_ge i ni with q | q
            · exact q
            · exact absurd ((xle (by omega) (by omega)).mpr q) c32
          refine a_iload_n (i := 2) C dX7_invoicesAt_35 rfl rfl ?_
          refine a_aload_n (i := 0) C dX7_invoicesAt_36 rfl rfl ?_
          refine a_get C dX7_invoicesAt_37 fl_X7_45 xM_0 rfl ?_
          refine a_iload_n (i := 3) C dX7_invoicesAt_40 rfl rfl ?_
          refine a_ialdI C dX7_invoicesAt_41 xM_17 ⟨by omega, by omega⟩ ?_
          refine a_iload_n (i := 1) C dX7_invoicesAt_42 rfl rfl ?_
          refine a_icmp_ne (tgt := 50) C dX7_invoicesAt_43 (by decide) (fun c43 => ?_) (fun c43 => ?_)
          · refine a_iconst (v := 0) C dX7_invoicesAt_50 (by decide) ?_
            refine a_iadd C dX7_invoicesAt_51 ?_
            refine a_top (xsum (xlev f w) (i + 1)) (by show _ = xsum (xlev f w) i + (if f 17 i = w then _ else _); first | (rw [if_pos c43]; done) | (rw [if_neg c43]; done)) ?_
            refine a_istore_n (i := 2) C dX7_invoicesAt_52 rfl (by decide) ?_
            refine a_iinc (i := 3) (v := nI (i + 1)) C dX7_invoicesAt_53 rfl (nI_1 i) (by decide) ?_
            refine a_goto (tgt := 27) C dX7_invoicesAt_56 (by decide) ?_
            refine a_loc _ ?_ (ih (i + 1) (by omega) (by omega))
            exact xsub_cons rfl (xsub_cons rfl (xsub_cons rfl (xsub_cons rfl (xsub_nil))))
          · refine a_iconst (v := 1) C dX7_invoicesAt_46 (by decide) ?_
            refine a_goto (tgt := 51) C dX7_invoicesAt_47 (by decide) ?_
            refine a_iadd C dX7_invoicesAt_51 ?_
            refine a_top (xsum (xlev f w) (i + 1)) (by show _ = xsum (xlev f w) i + (if f 17 i = w then _ else _); first | (rw [if_pos c43]; done) | (rw [if_neg c43]; done)) ?_
            refine a_istore_n (i := 2) C dX7_invoicesAt_52 rfl (by decide) ?_
            refine a_iinc (i := 3) (v := nI (i + 1)) C dX7_invoicesAt_53 rfl (nI_1 i) (by decide) ?_
            refine a_goto (tgt := 27) C dX7_invoicesAt_56 (by decide) ?_
            refine a_loc _ ?_ (ih (i + 1) (by omega) (by omega))
            exact xsub_cons rfl (xsub_cons rfl (xsub_cons rfl (xsub_cons rfl (xsub_nil))))
    refine a_iconst (v := 0) C dX7_invoicesAt_10 (by decide) ?_
    refine a_goto (tgt := 15) C dX7_invoicesAt_11 (by decide) ?_
    refine a_callV C dX7_invoicesAt_15 cv_X7_refused tb1032 (m_X7_refused0 hflags) rfl rfl xM_0 rfl (Nat.le_of_ble_eq_true rfl) ⟨Nat.le_of_ble_eq_true rfl, Nat.le_of_ble_eq_true rfl⟩ ⟨Nat.le_of_ble_eq_true rfl, Nat.le_of_ble_eq_true rfl⟩ (fun _ h => h.elim) xav_no (fun _ _ h => h.elim) (fun r15 hp15 hq15 => ?_)
    obtain ⟨rfl, rfl⟩ := hq15
    refine a_if_eq (tgt := 23) C dX7_invoicesAt_18 (by decide) (fun _ => ?_) (fun z => absurd (by decide) z)
    refine a_iconst (v := 0) C dX7_invoicesAt_23 (by decide) ?_
    refine a_istore_n (i := 2) C dX7_invoicesAt_24 rfl (by decide) ?_
    refine a_iconst (v := 0) C dX7_invoicesAt_25 (by decide) ?_
    refine a_istore_n (i := 3) C dX7_invoicesAt_26 rfl (by decide) ?_
    refine a_loc _ ?_ (loop (ni + 1) 0 (Nat.zero_le _) (by omega))
    exact xsub_cons rfl (xsub_cons rfl (xsub_cons rfl (xsub_cons rfl (xsub_nil))))
