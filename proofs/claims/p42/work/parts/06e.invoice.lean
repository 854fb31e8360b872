theorem xun_pos (m : Int32) : (0 : Int64) < xun m := by
  unfold xun
  split <;> decide
theorem xmx {a b c : Int32} : (if a < (if b < c then c else b) then (if b < c then c else b) else a) = (if (if a < b then b else a) < c then c else (if a < b then b else a)) := by
  simp only [Int32.lt_iff_toInt_lt]
  by_cases h1 : b.toInt < c.toInt <;> by_cases h2 : a.toInt < b.toInt <;> by_cases h3 : a.toInt < c.toInt <;> simp only [h1, h2, h3, if_true, if_false] <;> first | rfl | (exfalso; omega)
theorem xud_self {w : Nat → Int32} {i : Nat} : upd w i (w i) = w := by
  funext j
  by_cases h : j = i
  · subst h; exact xupd_i
  · exact xud h
set_option maxRecDepth 100000 in
set_option maxHeartbeats 4000000 in
theorem m_X0_sumOfOneCent {l : Launch} {N0 : Nat} {D : va_G} {dT : Nat → ClassId} (hflags : l.stackTraces = false) {hp : xH} {a : Nat} {m r1 r2 r3 : Int32} (h1 : hp a = some (.inr (1, [.int m, .int r1, .int r2, .int r3])))  : xMet l N0 D dT yX0_sumOfOneCent cX0_sumOfOneCent 1 (some FieldType.long) 1 0 0 [.ref a] (hp) xNo (fun r h => r = some (.long (xun m)) ∧ h = hp) xNX := by
  refine xMet_of hflags (by decide +kernel) (fun _ _ h => h) (Nat.le_of_ble_eq_true rfl) ?_
  intro E C I hret hthr
  refine a_loc [(0, .ref a)] (xsub_cons rfl (xsub_nil)) ?_
  refine a_ldc2 C dX0_sumOfOneCent_0 tb701 ?_
  refine a_aload_n (i := 0) C dX0_sumOfOneCent_3 rfl rfl ?_
  refine a_get C dX0_sumOfOneCent_4 fl_X0_15 h1 rfl ?_
  refine a_callS C dX0_sumOfOneCent_7 cs_X1_daysOfYear tb702 (m_X1_daysOfYear hflags) rfl rfl (Nat.le_of_ble_eq_true rfl) ⟨Nat.le_of_ble_eq_true rfl, Nat.le_of_ble_eq_true rfl⟩ ⟨Nat.le_of_ble_eq_true rfl, Nat.le_of_ble_eq_true rfl⟩ (fun _ h => h.elim) xav_no (fun _ _ h => h.elim) (fun r7 hp7 hq7 => ?_)
  obtain ⟨rfl, rfl⟩ := hq7
  refine a_i2l C dX0_sumOfOneCent_10 ?_
  refine a_lmul C dX0_sumOfOneCent_11 ?_
  exact a_lret C dX0_sumOfOneCent_12 (Nat.le_of_ble_eq_true rfl) (Nat.le_of_ble_eq_true rfl) (hret _ _ ⟨rfl, rfl⟩)
set_option maxRecDepth 100000 in
set_option maxHeartbeats 4000000 in
theorem m_X2_openAmount {l : Launch} {N0 : Nat} {D : va_G} {dT : Nat → ClassId} (hflags : l.stackTraces = false) {h : xH} {nc ni np nl : Nat} {n : Nat → Int32} {f : Nat → Nat → Int32} {g : Nat → Nat → Int64} {jc : Nat → Nat → Int32} {jr : Nat → Int64} (hB : nc ≤ 6 ∧ ni ≤ 24 ∧ np ≤ 24 ∧ nl ≤ 16000) {i : Nat} (hi : i < ni)   : xMet l N0 D dT yX2_openAmount cX2_openAmount 1 (some FieldType.int) 0 0 0 [.ref (32 + i)] (xC h nc ni np nl (n 1) f g jc jr) xNo (fun r h' => r = some (.int (f 13 i)) ∧ h' = xC h nc ni np nl (n 1) f g jc jr) xNX := by
  refine xMet_of hflags (by decide +kernel) (fun _ _ h => h) (Nat.le_of_ble_eq_true rfl) ?_
  intro E C I hret hthr
  refine a_loc [(0, .ref (32 + i))] (xsub_cons rfl (xsub_nil)) ?_
  obtain ⟨hc6, hi24, hp24, hl16⟩ := id hB
  refine a_aload_n (i := 0) C dX2_openAmount_0 rfl rfl ?_
  refine a_get C dX2_openAmount_1 fl_X2_15 (xC_in (by omega) (by omega)) rfl ?_
  refine a_aload_n (i := 0) C dX2_openAmount_4 rfl rfl ?_
  refine a_get C dX2_openAmount_5 fl_X2_26 (xC_in (by omega) (by omega)) rfl ?_
  refine a_isub C dX2_openAmount_8 ?_
  refine a_aload_n (i := 0) C dX2_openAmount_9 rfl rfl ?_
  refine a_get C dX2_openAmount_10 fl_X2_29 (xC_in (by omega) (by omega)) rfl ?_
  refine a_isub C dX2_openAmount_13 ?_
  refine a_top (f 13 i) xr_4 ?_
  exact a_iret C dX2_openAmount_14 (Nat.le_of_ble_eq_true rfl) (Nat.le_of_ble_eq_true rfl) (hret _ _ ⟨rfl, rfl⟩)
set_option maxRecDepth 100000 in
set_option maxHeartbeats 4000000 in
theorem m_X2_clearAmount {l : Launch} {N0 : Nat} {D : va_G} {dT : Nat → ClassId} (hflags : l.stackTraces = false) {h : xH} {nc ni np nl : Nat} {n : Nat → Int32} {f : Nat → Nat → Int32} {g : Nat → Nat → Int64} {jc : Nat → Nat → Int32} {jr : Nat → Int64} (hB : nc ≤ 6 ∧ ni ≤ 24 ∧ np ≤ 24 ∧ nl ≤ 16000) {i : Nat} (hi : i < ni)   : xMet l N0 D dT yX2_clearAmount cX2_clearAmount 1 (some FieldType.int) 1 0 0 [.ref (32 + i)] (xC h nc ni np nl (n 1) f g jc jr) xNo (fun r h' => r = some (.int (f 13 i - f 14 i)) ∧ h' = xC h nc ni np nl (n 1) f g jc jr) xNX := by
  refine xMet_of hflags (by decide +kernel) (fun _ _ h => h) (Nat.le_of_ble_eq_true rfl) ?_
  intro E C I hret hthr
  refine a_loc [(0, .ref (32 + i))] (xsub_cons rfl (xsub_nil)) ?_
  obtain ⟨hc6, hi24, hp24, hl16⟩ := id hB
  refine a_aload_n (i := 0) C dX2_clearAmount_0 rfl rfl ?_
  refine a_callV C dX2_clearAmount_1 cv_X2_openAmount tb430 (m_X2_openAmount hflags hB hi) rfl rfl (xC_in (by omega) (by omega)) rfl (Nat.le_of_ble_eq_true rfl) ⟨Nat.le_of_ble_eq_true rfl, Nat.le_of_ble_eq_true rfl⟩ ⟨Nat.le_of_ble_eq_true rfl, Nat.le_of_ble_eq_true rfl⟩ (fun _ h => h.elim) xav_no (fun _ _ h => h.elim) (fun r1 hp1 hq1 => ?_)
  obtain ⟨rfl, rfl⟩ := hq1
  refine a_aload_n (i := 0) C dX2_clearAmount_4 rfl rfl ?_
  refine a_get C dX2_clearAmount_5 fl_X2_36 (xC_in (by omega) (by omega)) rfl ?_
  refine a_isub C dX2_clearAmount_8 ?_
  exact a_iret C dX2_clearAmount_9 (Nat.le_of_ble_eq_true rfl) (Nat.le_of_ble_eq_true rfl) (hret _ _ ⟨rfl, rfl⟩)
set_option maxRecDepth 100000 in
set_option maxHeartbeats 4000000 in
theorem m_X2_canBeReminded {l : Launch} {N0 : Nat} {D : va_G} {dT : Nat → ClassId} (hflags : l.stackTraces = false) {h : xH} {nc ni np nl : Nat} {n : Nat → Int32} {f : Nat → Nat → Int32} {g : Nat → Nat → Int64} {jc : Nat → Nat → Int32} {jr : Nat → Int64} (hB : nc ≤ 6 ∧ ni ≤ 24 ∧ np ≤ 24 ∧ nl ≤ 16000) {i : Nat} (hi : i < ni)   : xMet l N0 D dT yX2_canBeReminded cX2_canBeReminded 1 (some FieldType.boolean) 1 0 0 [.ref (32 + i)] (xC h nc ni np nl (n 1) f g jc jr) xNo (fun r h' => r = some (.int (bI (f 17 i < 4 ∧ 0 < f 13 i ∧ f 14 i = 0))) ∧ h' = xC h nc ni np nl (n 1) f g jc jr) xNX := by
  refine xMet_of hflags (by decide +kernel) (fun _ _ h => h) (Nat.le_of_ble_eq_true rfl) ?_
  intro E C I hret hthr
  refine a_loc [(0, .ref (32 + i))] (xsub_cons rfl (xsub_nil)) ?_
  obtain ⟨hc6, hi24, hp24, hl16⟩ := id hB
  refine a_aload_n (i := 0) C dX2_canBeReminded_0 rfl rfl ?_
  refine a_get C dX2_canBeReminded_1 fl_X2_51 (xC_in (by omega) (by omega)) rfl ?_
  refine a_iconst (v := 4) C dX2_canBeReminded_4 (by decide) ?_
  refine a_icmp_ge (tgt := 26) C dX2_canBeReminded_5 (by decide) (fun c5 => ?_) (fun c5 => ?_)
  · refine a_iconst (v := 0) C dX2_canBeReminded_26 (by decide) ?_
    exact a_zret C dX2_canBeReminded_27 (by first | rfl | exact bI_nar) (Nat.le_of_ble_eq_true rfl) (Nat.le_of_ble_eq_true rfl) (hret _ _ ⟨congrArg (fun z => some (Value.int z)) (by clear hret hthr I C; first | exact (bI_t (by grind)).symm | exact (bI_f (by grind)).symm), rfl⟩)
  · refine a_aload_n (i := 0) C dX2_canBeReminded_8 rfl rfl ?_
    refine a_callV C dX2_canBeReminded_9 cv_X2_openAmount tb430 (m_X2_openAmount hflags hB hi) rfl rfl (xC_in (by omega) (by omega)) rfl (Nat.le_of_ble_eq_true rfl) ⟨Nat.le_of_ble_eq_true rfl, Nat.le_of_ble_eq_true rfl⟩ ⟨Nat.le_of_ble_eq_true rfl, Nat.le_of_ble_eq_true rfl⟩ (fun _ h => h.elim) xav_no (fun _ _ h => h.elim) (fun r9 hp9 hq9 => ?_)
    obtain ⟨rfl, rfl⟩ := hq9
    refine a_if_le (tgt := 26) C dX2_canBeReminded_12 (by decide) (fun c12 => ?_) (fun c12 => ?_)
    · refine a_iconst (v := 0) C dX2_canBeReminded_26 (by decide) ?_
      exact a_zret C dX2_canBeReminded_27 (by first | rfl | exact bI_nar) (Nat.le_of_ble_eq_true rfl) (Nat.le_of_ble_eq_true rfl) (hret _ _ ⟨congrArg (fun z => some (Value.int z)) (by clear hret hthr I C; first | exact (bI_t (by grind)).symm | exact (bI_f (by grind)).symm), rfl⟩)
    · refine a_aload_n (i := 0) C dX2_canBeReminded_15 rfl rfl ?_
      refine a_get C dX2_canBeReminded_16 fl_X2_36 (xC_in (by omega) (by omega)) rfl ?_
      refine a_if_ne (tgt := 26) C dX2_canBeReminded_19 (by decide) (fun c19 => ?_) (fun c19 => ?_)
      · refine a_iconst (v := 0) C dX2_canBeReminded_26 (by decide) ?_
        exact a_zret C dX2_canBeReminded_27 (by first | rfl | exact bI_nar) (Nat.le_of_ble_eq_true rfl) (Nat.le_of_ble_eq_true rfl) (hret _ _ ⟨congrArg (fun z => some (Value.int z)) (by clear hret hthr I C; first | exact (bI_t (by grind)).symm | exact (bI_f (by grind)).symm), rfl⟩)
      · refine a_iconst (v := 1) C dX2_canBeReminded_22 (by decide) ?_
        refine a_goto (tgt := 27) C dX2_canBeReminded_23 (by decide) ?_
        exact a_zret C dX2_canBeReminded_27 (by first | rfl | exact bI_nar) (Nat.le_of_ble_eq_true rfl) (Nat.le_of_ble_eq_true rfl) (hret _ _ ⟨congrArg (fun z => some (Value.int z)) (by clear hret hthr I C; first | exact (bI_t (by grind)).symm | exact (bI_f (by grind)).symm), rfl⟩)
set_option maxRecDepth 100000 in
set_option maxHeartbeats 4000000 in
theorem m_X2_waitOfLevel {l : Launch} {N0 : Nat} {D : va_G} {dT : Nat → ClassId} (hflags : l.stackTraces = false) {h : xH} {nc ni np nl : Nat} {n : Nat → Int32} {f : Nat → Nat → Int32} {g : Nat → Nat → Int64} {jc : Nat → Nat → Int32} {jr : Nat → Int64} (hB : nc ≤ 6 ∧ ni ≤ 24 ∧ np ≤ 24 ∧ nl ≤ 16000) {i : Nat} (hi : i < ni)   : xMet l N0 D dT yX2_waitOfLevel cX2_waitOfLevel 1 (some FieldType.int) 0 0 0 [.ref (32 + i)] (xC h nc ni np nl (n 1) f g jc jr) xNo (fun r h' => r = some (.int (if f 17 i = 0 then 7 else if f 17 i < 3 then 14 else 21)) ∧ h' = xC h nc ni np nl (n 1) f g jc jr) xNX := by
  refine xMet_of hflags (by decide +kernel) (fun _ _ h => h) (Nat.le_of_ble_eq_true rfl) ?_
  intro E C I hret hthr
  refine a_loc [(0, .ref (32 + i))] (xsub_cons rfl (xsub_nil)) ?_
  obtain ⟨hc6, hi24, hp24, hl16⟩ := id hB
  refine a_aload_n (i := 0) C dX2_waitOfLevel_0 rfl rfl ?_
  refine a_get C dX2_waitOfLevel_1 fl_X2_51 (xC_in (by omega) (by omega)) rfl ?_
  refine a_if_ne (tgt := 10) C dX2_waitOfLevel_4 (by decide) (fun c4 => ?_) (fun c4 => ?_)
  · refine a_aload_n (i := 0) C dX2_waitOfLevel_10 rfl rfl ?_
    refine a_get C dX2_waitOfLevel_11 fl_X2_51 (xC_in (by omega) (by omega)) rfl ?_
    refine a_iconst (v := 3) C dX2_waitOfLevel_14 (by decide) ?_
    refine a_icmp_ge (tgt := 23) C dX2_waitOfLevel_15 (by decide) (fun c15 => ?_) (fun c15 => ?_)
    · refine a_bipush (v := 21) C dX2_waitOfLevel_23 (by decide) ?_
      exact a_iret C dX2_waitOfLevel_25 (Nat.le_of_ble_eq_true rfl) (Nat.le_of_ble_eq_true rfl) (hret _ _ (by clear hret hthr I C; constructor <;> simp_all))
    · refine a_bipush (v := 14) C dX2_waitOfLevel_18 (by decide) ?_
      refine a_goto (tgt := 25) C dX2_waitOfLevel_20 (by decide) ?_
      exact a_iret C dX2_waitOfLevel_25 (Nat.le_of_ble_eq_true rfl) (Nat.le_of_ble_eq_true rfl) (hret _ _ (by clear hret hthr I C; constructor <;> simp_all))
  · refine a_bipush (v := 7) C dX2_waitOfLevel_7 (by decide) ?_
    exact a_iret C dX2_waitOfLevel_9 (Nat.le_of_ble_eq_true rfl) (Nat.le_of_ble_eq_true rfl) (hret _ _ (by clear hret hthr I C; constructor <;> simp_all))
set_option maxRecDepth 100000 in
set_option maxHeartbeats 4000000 in
theorem m_X2_bucketOn {l : Launch} {N0 : Nat} {D : va_G} {dT : Nat → ClassId} (hflags : l.stackTraces = false) {h : xH} {nc ni np nl : Nat} {n : Nat → Int32} {f : Nat → Nat → Int32} {g : Nat → Nat → Int64} {jc : Nat → Nat → Int32} {jr : Nat → Int64} (hB : nc ≤ 6 ∧ ni ≤ 24 ∧ np ≤ 24 ∧ nl ≤ 16000) {i : Nat} (hi : i < ni) {t0 : Int32}  : xMet l N0 D dT yX2_bucketOn cX2_bucketOn 3 (some FieldType.int) 0 0 0 [.ref (32 + i), .int t0] (xC h nc ni np nl (n 1) f g jc jr) xNo (fun r h' => r = some (.int (xbk (t0 - f 12 i))) ∧ h' = xC h nc ni np nl (n 1) f g jc jr) xNX := by
  refine xMet_of hflags (by decide +kernel) (fun _ _ h => h) (Nat.le_of_ble_eq_true rfl) ?_
  intro E C I hret hthr
  refine a_loc [(0, .ref (32 + i)), (1, .int t0)] (xsub_cons rfl (xsub_cons rfl (xsub_nil))) ?_
  obtain ⟨hc6, hi24, hp24, hl16⟩ := id hB
  refine a_iload_n (i := 1) C dX2_bucketOn_0 rfl rfl ?_
  refine a_aload_n (i := 0) C dX2_bucketOn_1 rfl rfl ?_
  refine a_get C dX2_bucketOn_2 fl_X2_19 (xC_in (by omega) (by omega)) rfl ?_
  refine a_isub C dX2_bucketOn_5 ?_
  refine a_istore_n (i := 2) C dX2_bucketOn_6 rfl (by decide) ?_
  refine a_iload_n (i := 2) C dX2_bucketOn_7 rfl rfl ?_
  refine a_if_gt (tgt := 13) C dX2_bucketOn_8 (by decide) (fun c8 => ?_) (fun c8 => ?_)
  · refine a_iload_n (i := 2) C dX2_bucketOn_13 rfl rfl ?_
    refine a_bipush (v := 30) C dX2_bucketOn_14 (by decide) ?_
    refine a_icmp_gt (tgt := 21) C dX2_bucketOn_16 (by decide) (fun c16 => ?_) (fun c16 => ?_)
    · refine a_iload_n (i := 2) C dX2_bucketOn_21 rfl rfl ?_
      refine a_bipush (v := 60) C dX2_bucketOn_22 (by decide) ?_
      refine a_icmp_gt (tgt := 29) C dX2_bucketOn_24 (by decide) (fun c24 => ?_) (fun c24 => ?_)
      · refine a_iload_n (i := 2) C dX2_bucketOn_29 rfl rfl ?_
        refine a_bipush (v := 90) C dX2_bucketOn_30 (by decide) ?_
        refine a_icmp_gt (tgt := 39) C dX2_bucketOn_32 (by decide) (fun c32 => ?_) (fun c32 => ?_)
        · refine a_iconst (v := 4) C dX2_bucketOn_39 (by decide) ?_
          exact a_iret C dX2_bucketOn_40 (Nat.le_of_ble_eq_true rfl) (Nat.le_of_ble_eq_true rfl) (hret _ _ (by refine ⟨?_, rfl⟩; clear hret hthr I C; unfold xbk; grind))
        · refine a_iconst (v := 3) C dX2_bucketOn_35 (by decide) ?_
          refine a_goto (tgt := 40) C dX2_bucketOn_36 (by decide) ?_
          exact a_iret C dX2_bucketOn_40 (Nat.le_of_ble_eq_true rfl) (Nat.le_of_ble_eq_true rfl) (hret _ _ (by refine ⟨?_, rfl⟩; clear hret hthr I C; unfold xbk; grind))
      · refine a_iconst (v := 2) C dX2_bucketOn_27 (by decide) ?_
        exact a_iret C dX2_bucketOn_28 (Nat.le_of_ble_eq_true rfl) (Nat.le_of_ble_eq_true rfl) (hret _ _ (by refine ⟨?_, rfl⟩; clear hret hthr I C; unfold xbk; grind))
    · refine a_iconst (v := 1) C dX2_bucketOn_19 (by decide) ?_
      exact a_iret C dX2_bucketOn_20 (Nat.le_of_ble_eq_true rfl) (Nat.le_of_ble_eq_true rfl) (hret _ _ (by refine ⟨?_, rfl⟩; clear hret hthr I C; unfold xbk; grind))
  · refine a_iconst (v := 0) C dX2_bucketOn_11 (by decide) ?_
    exact a_iret C dX2_bucketOn_12 (Nat.le_of_ble_eq_true rfl) (Nat.le_of_ble_eq_true rfl) (hret _ _ (by refine ⟨?_, rfl⟩; clear hret hthr I C; unfold xbk; grind))
def xfg (f : Nat → Nat → Int32) (i : Nat) : Nat → Nat → Int32 := if f 13 i = 0 then fup (fup f 17 (upd (f 17) i 0)) 18 (upd (f 18) i 0) else f
set_option maxRecDepth 100000 in
set_option maxHeartbeats 4000000 in
theorem m_X2_forgetRemindersIfPaid {l : Launch} {N0 : Nat} {D : va_G} {dT : Nat → ClassId} (hflags : l.stackTraces = false) {h : xH} {nc ni np nl : Nat} {n : Nat → Int32} {f : Nat → Nat → Int32} {g : Nat → Nat → Int64} {jc : Nat → Nat → Int32} {jr : Nat → Int64} (hB : nc ≤ 6 ∧ ni ≤ 24 ∧ np ≤ 24 ∧ nl ≤ 16000) {i : Nat} (hi : i < ni)   : xMet l N0 D dT yX2_forgetRemindersIfPaid cX2_forgetRemindersIfPaid 1 none 1 0 0 [.ref (32 + i)] (xC h nc ni np nl (n 1) f g jc jr) xNo (fun r h' => r = none ∧ h' = xC h nc ni np nl (n 1) (xfg f i) g jc jr) xNX := by
  refine xMet_of hflags (by decide +kernel) (fun _ _ h => h) (Nat.le_of_ble_eq_true rfl) ?_
  intro E C I hret hthr
  refine a_loc [(0, .ref (32 + i))] (xsub_cons rfl (xsub_nil)) ?_
  obtain ⟨hc6, hi24, hp24, hl16⟩ := id hB
  refine a_aload_n (i := 0) C dX2_forgetRemindersIfPaid_0 rfl rfl ?_
  refine a_callV C dX2_forgetRemindersIfPaid_1 cv_X2_openAmount tb430 (m_X2_openAmount hflags hB hi) rfl rfl (xC_in (by omega) (by omega)) rfl (Nat.le_of_ble_eq_true rfl) ⟨Nat.le_of_ble_eq_true rfl, Nat.le_of_ble_eq_true rfl⟩ ⟨Nat.le_of_ble_eq_true rfl, Nat.le_of_ble_eq_true rfl⟩ (fun _ h => h.elim) xav_no (fun _ _ h => h.elim) (fun r1 hp1 hq1 => ?_)
  obtain ⟨rfl, rfl⟩ := hq1
  refine a_if_ne (tgt := 17) C dX2_forgetRemindersIfPaid_4 (by decide) (fun c4 => ?_) (fun c4 => ?_)
  · exact a_vret C dX2_forgetRemindersIfPaid_17 (Nat.le_of_ble_eq_true rfl) (Nat.le_of_ble_eq_true rfl) (hret _ _ (by unfold xfg; first | (rw [if_pos c4]; exact ⟨rfl, rfl⟩) | (rw [if_neg c4]; exact ⟨rfl, rfl⟩)))
  · refine a_aload_n (i := 0) C dX2_forgetRemindersIfPaid_7 rfl rfl ?_
    refine a_iconst (v := 0) C dX2_forgetRemindersIfPaid_8 (by decide) ?_
    refine a_put C dX2_forgetRemindersIfPaid_9 fl_X2_51 (xC_in (by omega) (by omega)) (Nat.le_of_ble_eq_true rfl) rfl rfl ?_
    refine a_hp (xCi_17 (by omega) (by omega)) ?_
    refine a_aload_n (i := 0) C dX2_forgetRemindersIfPaid_12 rfl rfl ?_
    refine a_iconst (v := 0) C dX2_forgetRemindersIfPaid_13 (by decide) ?_
    refine a_put C dX2_forgetRemindersIfPaid_14 fl_X2_45 (xC_in (by omega) (by omega)) (Nat.le_of_ble_eq_true rfl) rfl rfl ?_
    refine a_hp (xCi_18 (by omega) (by omega)) ?_
    exact a_vret C dX2_forgetRemindersIfPaid_17 (Nat.le_of_ble_eq_true rfl) (Nat.le_of_ble_eq_true rfl) (hret _ _ (by unfold xfg; first | (rw [if_pos c4]; exact ⟨rfl, rfl⟩) | (rw [if_neg c4]; exact ⟨rfl, rfl⟩)))
set_option maxRecDepth 100000 in
set_option maxHeartbeats 4000000 in
theorem m_X2_unpay {l : Launch} {N0 : Nat} {D : va_G} {dT : Nat → ClassId} (hflags : l.stackTraces = false) {h : xH} {nc ni np nl : Nat} {n : Nat → Int32} {f : Nat → Nat → Int32} {g : Nat → Nat → Int64} {jc : Nat → Nat → Int32} {jr : Nat → Int64} (hB : nc ≤ 6 ∧ ni ≤ 24 ∧ np ≤ 24 ∧ nl ≤ 16000) {i : Nat} (hi : i < ni) {a : Int32}  : xMet l N0 D dT yX2_unpay cX2_unpay 2 none 0 0 0 [.ref (32 + i), .int a] (xC h nc ni np nl (n 1) f g jc jr) xNo (fun r h' => r = none ∧ h' = xC h nc ni np nl (n 1) (fup f 13 (upd (f 13) i (f 13 i + a))) g jc jr) xNX := by
  refine xMet_of hflags (by decide +kernel) (fun _ _ h => h) (Nat.le_of_ble_eq_true rfl) ?_
  intro E C I hret hthr
  refine a_loc [(0, .ref (32 + i)), (1, .int a)] (xsub_cons rfl (xsub_cons rfl (xsub_nil))) ?_
  obtain ⟨hc6, hi24, hp24, hl16⟩ := id hB
  refine a_aload_n (i := 0) C dX2_unpay_0 rfl rfl ?_
  refine a_dup C dX2_unpay_1 rfl ?_
  refine a_get C dX2_unpay_2 fl_X2_29 (xC_in (by omega) (by omega)) rfl ?_
  refine a_iload_n (i := 1) C dX2_unpay_5 rfl rfl ?_
  refine a_isub C dX2_unpay_6 ?_
  refine a_put C dX2_unpay_7 fl_X2_29 (xC_in (by omega) (by omega)) (Nat.le_of_ble_eq_true rfl) rfl rfl ?_
  refine a_hp (xCi_13m (by omega) (by omega)) ?_
  exact a_vret C dX2_unpay_10 (Nat.le_of_ble_eq_true rfl) (Nat.le_of_ble_eq_true rfl) (hret _ _ ⟨rfl, rfl⟩)
def xpy (f : Nat → Nat → Int32) (i : Nat) (a : Int32) : Nat → Nat → Int32 := fup (fup (fup (fup f 13 (upd (f 13) i (f 13 i - a))) 14 (upd (f 14) i (if f 13 i - a < f 14 i then f 13 i - a else f 14 i))) 18 (upd (f 18) i 0)) 17 (upd (f 17) i (if f 13 i - a = 0 then 0 else f 17 i))
theorem xpy_eq {f : Nat → Nat → Int32} {i : Nat} {a : Int32} : xfg (fup (fup (fup f 13 (upd (f 13) i (f 13 i - a))) 14 (upd (f 14) i (if f 13 i - a < f 14 i then f 13 i - a else f 14 i))) 18 (upd (f 18) i 0)) i = xpy f i a := by
  unfold xfg xpy
  show (if upd (f 13) i (f 13 i - a) i = 0 then _ else _) = _
  rw [xupd_i]
  by_cases h : f 13 i - a = 0
  · rw [if_pos h, if_pos h]
    show fup (fup (fup _ 18 (upd (f 18) i 0)) 17 (upd (f 17) i 0)) 18 (upd (upd (f 18) i 0) i 0) = _
    rw [fup_fc, fup_ff, xupd_u]
  · rw [if_neg h, if_neg h, xud_self]
    funext k
    by_cases hk : k = 17
    · subst hk; rfl
    · rw [fup_n hk]
set_option maxRecDepth 100000 in
set_option maxHeartbeats 4000000 in
theorem m_X2_pay {l : Launch} {N0 : Nat} {D : va_G} {dT : Nat → ClassId} (hflags : l.stackTraces = false) {h : xH} {nc ni np nl : Nat} {n : Nat → Int32} {f : Nat → Nat → Int32} {g : Nat → Nat → Int64} {jc : Nat → Nat → Int32} {jr : Nat → Int64} (hB : nc ≤ 6 ∧ ni ≤ 24 ∧ np ≤ 24 ∧ nl ≤ 16000) {i : Nat} (hi : i < ni) {a : Int32}  : xMet l N0 D dT yX2_pay cX2_pay 2 none 2 0 0 [.ref (32 + i), .int a] (xC h nc ni np nl (n 1) f g jc jr) xNo (fun r h' => r = none ∧ h' = xC h nc ni np nl (n 1) (xpy f i a) g jc jr) xNX := by
  refine xMet_of hflags (by decide +kernel) (fun _ _ h => h) (Nat.le_of_ble_eq_true rfl) ?_
  intro E C I hret hthr
  refine a_loc [(0, .ref (32 + i)), (1, .int a)] (xsub_cons rfl (xsub_cons rfl (xsub_nil))) ?_
  obtain ⟨hc6, hi24, hp24, hl16⟩ := id hB
  refine a_aload_n (i := 0) C dX2_pay_0 rfl rfl ?_
  refine a_dup C dX2_pay_1 rfl ?_
  refine a_get C dX2_pay_2 fl_X2_29 (xC_in (by omega) (by omega)) rfl ?_
  refine a_iload_n (i := 1) C dX2_pay_5 rfl rfl ?_
  refine a_iadd C dX2_pay_6 ?_
  refine a_put C dX2_pay_7 fl_X2_29 (xC_in (by omega) (by omega)) (Nat.le_of_ble_eq_true rfl) rfl rfl ?_
  refine a_hp (xCi_13p (by omega) (by omega)) ?_
  refine a_aload_n (i := 0) C dX2_pay_10 rfl rfl ?_
  refine a_aload_n (i := 0) C dX2_pay_11 rfl rfl ?_
  refine a_get C dX2_pay_12 fl_X2_36 (xC_in (by omega) (by omega)) rfl ?_
  refine a_aload_n (i := 0) C dX2_pay_15 rfl rfl ?_
  refine a_callV C dX2_pay_16 cv_X2_openAmount tb430 (m_X2_openAmount hflags hB hi) rfl rfl (xC_in (by omega) (by omega)) rfl (Nat.le_of_ble_eq_true rfl) ⟨Nat.le_of_ble_eq_true rfl, Nat.le_of_ble_eq_true rfl⟩ ⟨Nat.le_of_ble_eq_true rfl, Nat.le_of_ble_eq_true rfl⟩ (fun _ h => h.elim) xav_no (fun _ _ h => h.elim) (fun r16 hp16 hq16 => ?_)
  obtain ⟨rfl, rfl⟩ := hq16
  refine a_top (f 13 i - a) xupd_i ?_
  refine a_min C dX2_pay_19 tb560 tb332 tb37 tb333 (Nat.le_of_ble_eq_true rfl) (Nat.le_of_ble_eq_true rfl) (Nat.le_of_ble_eq_true rfl) (Nat.le_of_ble_eq_true rfl) (Nat.le_of_ble_eq_true rfl) ?_
  refine a_put C dX2_pay_22 fl_X2_36 (xC_in (by omega) (by omega)) (Nat.le_of_ble_eq_true rfl) rfl rfl ?_
  refine a_hp (xCi_14 (by omega) (by omega)) ?_
  refine a_aload_n (i := 0) C dX2_pay_25 rfl rfl ?_
  refine a_iconst (v := 0) C dX2_pay_26 (by decide) ?_
  refine a_put C dX2_pay_27 fl_X2_45 (xC_in (by omega) (by omega)) (Nat.le_of_ble_eq_true rfl) rfl rfl ?_
  refine a_hp (xCi_18 (by omega) (by omega)) ?_
  refine a_aload_n (i := 0) C dX2_pay_30 rfl rfl ?_
  refine a_callV C dX2_pay_31 cv_X2_forgetRemindersIfPaid tb561 (m_X2_forgetRemindersIfPaid hflags hB hi) rfl rfl (xC_in (by omega) (by omega)) rfl (Nat.le_of_ble_eq_true rfl) ⟨Nat.le_of_ble_eq_true rfl, Nat.le_of_ble_eq_true rfl⟩ ⟨Nat.le_of_ble_eq_true rfl, Nat.le_of_ble_eq_true rfl⟩ (fun _ h => h.elim) xav_no (fun _ _ h => h.elim) (fun r31 hp31 hq31 => ?_)
  obtain ⟨rfl, rfl⟩ := hq31
  exact a_vret C dX2_pay_34 (Nat.le_of_ble_eq_true rfl) (Nat.le_of_ble_eq_true rfl) (hret _ _ ⟨rfl, by rw [← xpy_eq]; rfl⟩)
set_option maxRecDepth 100000 in
set_option maxHeartbeats 4000000 in
theorem m_X2_settleWith {l : Launch} {N0 : Nat} {D : va_G} {dT : Nat → ClassId} (hflags : l.stackTraces = false) {h : xH} {nc ni np nl : Nat} {n : Nat → Int32} {f : Nat → Nat → Int32} {g : Nat → Nat → Int64} {jc : Nat → Nat → Int32} {jr : Nat → Int64} (hB : nc ≤ 6 ∧ ni ≤ 24 ∧ np ≤ 24 ∧ nl ≤ 16000) {i : Nat} (hi : i < ni) {a : Int32}  : xMet l N0 D dT yX2_settleWith cX2_settleWith 2 none 2 0 0 [.ref (32 + i), .int a] (xC h nc ni np nl (n 1) f g jc jr) xNo (fun r h' => r = none ∧ h' = xC h nc ni np nl (n 1) (xfg (fup (fup f 13 (upd (f 13) i (f 13 i - a))) 14 (upd (f 14) i 0)) i) g (fup jc 0 (upd (jc 0) i (jc 0 i + a))) jr) xNX := by
  refine xMet_of hflags (by decide +kernel) (fun _ _ h => h) (Nat.le_of_ble_eq_true rfl) ?_
  intro E C I hret hthr
  refine a_loc [(0, .ref (32 + i)), (1, .int a)] (xsub_cons rfl (xsub_cons rfl (xsub_nil))) ?_
  obtain ⟨hc6, hi24, hp24, hl16⟩ := id hB
  refine a_aload_n (i := 0) C dX2_settleWith_0 rfl rfl ?_
  refine a_dup C dX2_settleWith_1 rfl ?_
  refine a_get C dX2_settleWith_2 fl_X2_26 (xC_in (by omega) (by omega)) rfl ?_
  refine a_iload_n (i := 1) C dX2_settleWith_5 rfl rfl ?_
  refine a_iadd C dX2_settleWith_6 ?_
  refine a_put C dX2_settleWith_7 fl_X2_26 (xC_in (by omega) (by omega)) (Nat.le_of_ble_eq_true rfl) rfl rfl ?_
  refine a_hp (xCi_c (by omega) (by omega)) ?_
  refine a_aload_n (i := 0) C dX2_settleWith_10 rfl rfl ?_
  refine a_iconst (v := 0) C dX2_settleWith_11 (by decide) ?_
  refine a_put C dX2_settleWith_12 fl_X2_36 (xC_in (by omega) (by omega)) (Nat.le_of_ble_eq_true rfl) rfl rfl ?_
  refine a_hp (xCi_14 (by omega) (by omega)) ?_
  refine a_aload_n (i := 0) C dX2_settleWith_15 rfl rfl ?_
  refine a_callV C dX2_settleWith_16 cv_X2_forgetRemindersIfPaid tb561 (m_X2_forgetRemindersIfPaid hflags hB hi) rfl rfl (xC_in (by omega) (by omega)) rfl (Nat.le_of_ble_eq_true rfl) ⟨Nat.le_of_ble_eq_true rfl, Nat.le_of_ble_eq_true rfl⟩ ⟨Nat.le_of_ble_eq_true rfl, Nat.le_of_ble_eq_true rfl⟩ (fun _ h => h.elim) xav_no (fun _ _ h => h.elim) (fun r16 hp16 hq16 => ?_)
  obtain ⟨rfl, rfl⟩ := hq16
  exact a_vret C dX2_settleWith_19 (Nat.le_of_ble_eq_true rfl) (Nat.le_of_ble_eq_true rfl) (hret _ _ ⟨rfl, rfl⟩)
set_option maxRecDepth 100000 in
set_option maxHeartbeats 4000000 in
theorem m_X2_accrueOn {l : Launch} {N0 : Nat} {D : va_G} {dT : Nat → ClassId} (hflags : l.stackTraces = false) {h : xH} {nc ni np nl : Nat} {n : Nat → Int32} {f : Nat → Nat → Int32} {g : Nat → Nat → Int64} {jc : Nat → Nat → Int32} {jr : Nat → Int64} (hB : nc ≤ 6 ∧ ni ≤ 24 ∧ np ≤ 24 ∧ nl ≤ 16000) {i : Nat} (hi : i < ni) {t0 : Nat} (hw : xow f i < nc) (ht : n 1 = nI t0) (ht2 : t0 < 1460)  : xMet l N0 D dT yX2_accrueOn cX2_accrueOn 3 none 3 0 0 [.ref (32 + i), .int (nI t0)] (xC h nc ni np nl (n 1) f g jc jr) xNo (fun r h' => r = none ∧ h' = xC h nc ni np nl (n 1) f (mDg n t0 i f g) jc jr) xNX := by
  refine xMet_of hflags (by decide +kernel) (fun _ _ h => h) (Nat.le_of_ble_eq_true rfl) ?_
  intro E C I hret hthr
  refine a_loc [(0, .ref (32 + i)), (1, .int (nI t0))] (xsub_cons rfl (xsub_cons rfl (xsub_nil))) ?_
  obtain ⟨hc6, hi24, hp24, hl16⟩ := id hB
  refine a_aload_n (i := 0) C dX2_accrueOn_0 rfl rfl ?_
  refine a_get C dX2_accrueOn_1 fl_X2_22 (xC_in (by omega) (by omega)) rfl ?_
  refine a_if_ne (tgt := 56) C dX2_accrueOn_4 (by decide) (fun c4 => ?_) (fun c4 => ?_)
  · exact a_vret C dX2_accrueOn_56 (Nat.le_of_ble_eq_true rfl) (Nat.le_of_ble_eq_true rfl) (hret _ _ ⟨rfl, by unfold mDg; rw [ht]; first | (rw [if_pos ⟨Int32.not_lt.mp c12, c4⟩]; rfl) | (rw [if_neg (fun z => c4 z.2)]; done) | (rw [if_neg (fun z => absurd z.1 (Int32.not_le.mpr c12))]; done)⟩)
  · refine a_aload_n (i := 0) C dX2_accrueOn_7 rfl rfl ?_
    refine a_get C dX2_accrueOn_8 fl_X2_19 (xC_in (by omega) (by omega)) rfl ?_
    refine a_iload_n (i := 1) C dX2_accrueOn_11 rfl rfl ?_
    refine a_icmp_gt (tgt := 56) C dX2_accrueOn_12 (by decide) (fun c12 => ?_) (fun c12 => ?_)
    · exact a_vret C dX2_accrueOn_56 (Nat.le_of_ble_eq_true rfl) (Nat.le_of_ble_eq_true rfl) (hret _ _ ⟨rfl, by unfold mDg; rw [ht]; first | (rw [if_pos ⟨Int32.not_lt.mp c12, c4⟩]; rfl) | (rw [if_neg (fun z => c4 z.2)]; done) | (rw [if_neg (fun z => absurd z.1 (Int32.not_le.mpr c12))]; done)⟩)
    · refine a_aload_n (i := 0) C dX2_accrueOn_15 rfl rfl ?_
      refine a_get C dX2_accrueOn_16 fl_X2_9 (xC_in (by omega) (by omega)) rfl ?_
      refine a_get C dX2_accrueOn_19 fl_X2_54 (xC_cu hw (by omega)) rfl ?_
      refine a_iload_n (i := 1) C dX2_accrueOn_22 rfl rfl ?_
      refine a_iload_n (i := 1) C dX2_accrueOn_23 rfl rfl ?_
      refine a_iconst (v := 1) C dX2_accrueOn_24 (by decide) ?_
      refine a_iadd C dX2_accrueOn_25 ?_
      refine a_top (nI (t0 + 1)) (nI_1 t0) ?_
      refine a_callS C dX2_accrueOn_26 cs_X1_daysBetween tb414 (m_X1_daysBetween hflags (by omega) (by omega)) rfl rfl (Nat.le_of_ble_eq_true rfl) ⟨Nat.le_of_ble_eq_true rfl, Nat.le_of_ble_eq_true rfl⟩ ⟨Nat.le_of_ble_eq_true rfl, Nat.le_of_ble_eq_true rfl⟩ (fun _ h => h.elim) xav_no (fun _ _ h => h.elim) (fun r26 hp26 hq26 => ?_)
      obtain ⟨rfl, rfl⟩ := hq26
      refine a_istore_n (i := 2) C dX2_accrueOn_29 rfl (by decide) ?_
      refine a_aload_n (i := 0) C dX2_accrueOn_30 rfl rfl ?_
      refine a_dup C dX2_accrueOn_31 rfl ?_
      refine a_get C dX2_accrueOn_32 fl_X2_65 (xC_in (by omega) (by omega)) rfl ?_
      refine a_aload_n (i := 0) C dX2_accrueOn_35 rfl rfl ?_
      refine a_callV C dX2_accrueOn_36 cv_X2_clearAmount tb426 (m_X2_clearAmount hflags hB hi) rfl rfl (xC_in (by omega) (by omega)) rfl (Nat.le_of_ble_eq_true rfl) ⟨Nat.le_of_ble_eq_true rfl, Nat.le_of_ble_eq_true rfl⟩ ⟨Nat.le_of_ble_eq_true rfl, Nat.le_of_ble_eq_true rfl⟩ (fun _ h => h.elim) xav_no (fun _ _ h => h.elim) (fun r36 hp36 hq36 => ?_)
      obtain ⟨rfl, rfl⟩ := hq36
      refine a_i2l C dX2_accrueOn_39 ?_
      refine a_aload_n (i := 0) C dX2_accrueOn_40 rfl rfl ?_
      refine a_get C dX2_accrueOn_41 fl_X2_9 (xC_in (by omega) (by omega)) rfl ?_
      refine a_get C dX2_accrueOn_44 fl_X2_72 (xC_cu hw (by omega)) rfl ?_
      refine a_i2l C dX2_accrueOn_47 ?_
      refine a_lmul C dX2_accrueOn_48 ?_
      refine a_iload_n (i := 2) C dX2_accrueOn_49 rfl rfl ?_
      refine a_i2l C dX2_accrueOn_50 ?_
      refine a_lmul C dX2_accrueOn_51 ?_
      refine a_ladd C dX2_accrueOn_52 ?_
      refine a_put C dX2_accrueOn_53 fl_X2_65 (xC_in (by omega) (by omega)) (Nat.le_of_ble_eq_true rfl) rfl rfl ?_
      refine a_hp (xCi_15 (by omega) (by omega)) ?_
      exact a_vret C dX2_accrueOn_56 (Nat.le_of_ble_eq_true rfl) (Nat.le_of_ble_eq_true rfl) (hret _ _ ⟨rfl, by unfold mDg; rw [ht]; first | (rw [if_pos ⟨Int32.not_lt.mp c12, c4⟩]; rfl) | (rw [if_neg (fun z => c4 z.2)]; done) | (rw [if_neg (fun z => absurd z.1 (Int32.not_le.mpr c12))]; done)⟩)
set_option maxRecDepth 100000 in
set_option maxHeartbeats 4000000 in
theorem m_X2_accruedCents {l : Launch} {N0 : Nat} {D : va_G} {dT : Nat → ClassId} (hflags : l.stackTraces = false) {h : xH} {nc ni np nl : Nat} {n : Nat → Int32} {f : Nat → Nat → Int32} {g : Nat → Nat → Int64} {jc : Nat → Nat → Int32} {jr : Nat → Int64} (hB : nc ≤ 6 ∧ ni ≤ 24 ∧ np ≤ 24 ∧ nl ≤ 16000) {i : Nat} (hi : i < ni) (hw : xow f i < nc)  : xMet l N0 D dT yX2_accruedCents cX2_accruedCents 3 (some FieldType.int) 2 0 0 [.ref (32 + i)] (xC h nc ni np nl (n 1) f g jc jr) xNo (fun r h' => r = some (.int (xac f g i)) ∧ h' = xC h nc ni np nl (n 1) f g jc jr) xNX := by
  refine xMet_of hflags (by decide +kernel) (fun _ _ h => h) (Nat.le_of_ble_eq_true rfl) ?_
  intro E C I hret hthr
  refine a_loc [(0, .ref (32 + i))] (xsub_cons rfl (xsub_nil)) ?_
  obtain ⟨hc6, hi24, hp24, hl16⟩ := id hB
  refine a_aload_n (i := 0) C dX2_accruedCents_0 rfl rfl ?_
  refine a_get C dX2_accruedCents_1 fl_X2_9 (xC_in (by omega) (by omega)) rfl ?_
  refine a_callV C dX2_accruedCents_4 cv_X0_sumOfOneCent tb697 (m_X0_sumOfOneCent hflags (xC_cu hw (by omega))) rfl rfl (xC_cu hw (by omega)) rfl (Nat.le_of_ble_eq_true rfl) ⟨Nat.le_of_ble_eq_true rfl, Nat.le_of_ble_eq_true rfl⟩ ⟨Nat.le_of_ble_eq_true rfl, Nat.le_of_ble_eq_true rfl⟩ (fun _ h => h.elim) xav_no (fun _ _ h => h.elim) (fun r4 hp4 hq4 => ?_)
  obtain ⟨rfl, rfl⟩ := hq4
  refine a_lstore_n (i := 1) C dX2_accruedCents_7 rfl (by decide) ?_
  refine a_lload_n (i := 1) C dX2_accruedCents_8 rfl rfl ?_
  refine a_lconst (v := 0) C dX2_accruedCents_9 (by decide) ?_
  refine a_lcmp C dX2_accruedCents_10 ?_
  refine a_if_le (tgt := 24) C dX2_accruedCents_11 (by decide) (fun c11 => ?_) (fun c11 => ?_)
  · exact absurd (xun_pos (f 7 (xow f i))) (lcmp_le.mp c11)
  · refine a_aload_n (i := 0) C dX2_accruedCents_14 rfl rfl ?_
    refine a_get C dX2_accruedCents_15 fl_X2_65 (xC_in (by omega) (by omega)) rfl ?_
    refine a_lload_n (i := 1) C dX2_accruedCents_18 rfl rfl ?_
    refine a_ldiv C dX2_accruedCents_19 (xun_ne _) ?_
    refine a_l2i C dX2_accruedCents_20 ?_
    refine a_goto (tgt := 25) C dX2_accruedCents_21 (by decide) ?_
    exact a_iret C dX2_accruedCents_25 (Nat.le_of_ble_eq_true rfl) (Nat.le_of_ble_eq_true rfl) (hret _ _ ⟨rfl, rfl⟩)
set_option maxRecDepth 100000 in
set_option maxHeartbeats 4000000 in
theorem m_X2_dropAccruedCents {l : Launch} {N0 : Nat} {D : va_G} {dT : Nat → ClassId} (hflags : l.stackTraces = false) {h : xH} {nc ni np nl : Nat} {n : Nat → Int32} {f : Nat → Nat → Int32} {g : Nat → Nat → Int64} {jc : Nat → Nat → Int32} {jr : Nat → Int64} (hB : nc ≤ 6 ∧ ni ≤ 24 ∧ np ≤ 24 ∧ nl ≤ 16000) {i : Nat} (hi : i < ni) (hw : xow f i < nc)  : xMet l N0 D dT yX2_dropAccruedCents cX2_dropAccruedCents 1 none 3 0 0 [.ref (32 + i)] (xC h nc ni np nl (n 1) f g jc jr) xNo (fun r h' => r = none ∧ h' = xC h nc ni np nl (n 1) f (gup g 15 (vp_updL (g 15) i (g 15 i - (xac f g i).toInt64 * xun (f 7 (xow f i))))) jc jr) xNX := by
  refine xMet_of hflags (by decide +kernel) (fun _ _ h => h) (Nat.le_of_ble_eq_true rfl) ?_
  intro E C I hret hthr
  refine a_loc [(0, .ref (32 + i))] (xsub_cons rfl (xsub_nil)) ?_
  obtain ⟨hc6, hi24, hp24, hl16⟩ := id hB
  refine a_aload_n (i := 0) C dX2_dropAccruedCents_0 rfl rfl ?_
  refine a_dup C dX2_dropAccruedCents_1 rfl ?_
  refine a_get C dX2_dropAccruedCents_2 fl_X2_65 (xC_in (by omega) (by omega)) rfl ?_
  refine a_aload_n (i := 0) C dX2_dropAccruedCents_5 rfl rfl ?_
  refine a_callV C dX2_dropAccruedCents_6 cv_X2_accruedCents tb709 (m_X2_accruedCents hflags hB hi hw) rfl rfl (xC_in (by omega) (by omega)) rfl (Nat.le_of_ble_eq_true rfl) ⟨Nat.le_of_ble_eq_true rfl, Nat.le_of_ble_eq_true rfl⟩ ⟨Nat.le_of_ble_eq_true rfl, Nat.le_of_ble_eq_true rfl⟩ (fun _ h => h.elim) xav_no (fun _ _ h => h.elim) (fun r6 hp6 hq6 => ?_)
  obtain ⟨rfl, rfl⟩ := hq6
  refine a_i2l C dX2_dropAccruedCents_9 ?_
  refine a_aload_n (i := 0) C dX2_dropAccruedCents_10 rfl rfl ?_
  refine a_get C dX2_dropAccruedCents_11 fl_X2_9 (xC_in (by omega) (by omega)) rfl ?_
  refine a_callV C dX2_dropAccruedCents_14 cv_X0_sumOfOneCent tb697 (m_X0_sumOfOneCent hflags (xC_cu hw (by omega))) rfl rfl (xC_cu hw (by omega)) rfl (Nat.le_of_ble_eq_true rfl) ⟨Nat.le_of_ble_eq_true rfl, Nat.le_of_ble_eq_true rfl⟩ ⟨Nat.le_of_ble_eq_true rfl, Nat.le_of_ble_eq_true rfl⟩ (fun _ h => h.elim) xav_no (fun _ _ h => h.elim) (fun r14 hp14 hq14 => ?_)
  obtain ⟨rfl, rfl⟩ := hq14
  refine a_lmul C dX2_dropAccruedCents_17 ?_
  refine a_lsub C dX2_dropAccruedCents_18 ?_
  refine a_put C dX2_dropAccruedCents_19 fl_X2_65 (xC_in (by omega) (by omega)) (Nat.le_of_ble_eq_true rfl) rfl rfl ?_
  refine a_hp (xCi_15 (by omega) (by omega)) ?_
  exact a_vret C dX2_dropAccruedCents_22 (Nat.le_of_ble_eq_true rfl) (Nat.le_of_ble_eq_true rfl) (hret _ _ ⟨rfl, rfl⟩)
theorem xpat_w {m : Int32} (h : m < 4) : (if m = 0 then (7 : Int32) else if m < 3 then 14 else 21) = xpat m := by
  unfold xpat
  by_cases h0 : m = 0
  · rw [if_pos h0, if_pos h0]
  · rw [if_neg h0, if_neg h0]
    by_cases h3 : m < 3
    · rw [if_pos h3, if_neg (fun z => by subst z; exact absurd h3 (by decide))]
    · have : m = 3 := by
        apply Int32.toInt_inj.mp
        have h5 := Int32.lt_iff_toInt_lt.mp h
        have h6 := (not_congr Int32.lt_iff_toInt_lt).mp h3
        have h7 : (4 : Int32).toInt = 4 := rfl
        have h8 : (3 : Int32).toInt = 3 := rfl
        omega
      rw [if_neg h3, if_pos this]
set_option maxRecDepth 100000 in
set_option maxHeartbeats 4000000 in
theorem m_X2_waitOn {l : Launch} {N0 : Nat} {D : va_G} {dT : Nat → ClassId} (hflags : l.stackTraces = false) {h : xH} {nc ni np nl : Nat} {n : Nat → Int32} {f : Nat → Nat → Int32} {g : Nat → Nat → Int64} {jc : Nat → Nat → Int32} {jr : Nat → Int64} (hB : nc ≤ 6 ∧ ni ≤ 24 ∧ np ≤ 24 ∧ nl ≤ 16000) {i : Nat} (hi : i < ni) (hw : xow f i < nc) (hwt : f 17 i < 4 → f 18 i + 1 ≤ xpat (f 17 i))  : xMet l N0 D dT yX2_waitOn cX2_waitOn 2 none 2 0 0 [.ref (32 + i), .int (n 1)] (xC h nc ni np nl (n 1) f g jc jr) xNo (fun r h' => r = none ∧ h' = xC h nc ni np nl (n 1) (mDf n i f) g jc jr) xNX := by
  refine xMet_of hflags (by decide +kernel) (fun _ _ h => h) (Nat.le_of_ble_eq_true rfl) ?_
  intro E C I hret hthr
  refine a_loc [(0, .ref (32 + i)), (1, .int (n 1))] (xsub_cons rfl (xsub_cons rfl (xsub_nil))) ?_
  obtain ⟨hc6, hi24, hp24, hl16⟩ := id hB
  refine a_aload_n (i := 0) C dX2_waitOn_0 rfl rfl ?_
  refine a_callV C dX2_waitOn_1 cv_X2_canBeReminded tb438 (m_X2_canBeReminded hflags hB hi) rfl rfl (xC_in (by omega) (by omega)) rfl (Nat.le_of_ble_eq_true rfl) ⟨Nat.le_of_ble_eq_true rfl, Nat.le_of_ble_eq_true rfl⟩ ⟨Nat.le_of_ble_eq_true rfl, Nat.le_of_ble_eq_true rfl⟩ (fun _ h => h.elim) xav_no (fun _ _ h => h.elim) (fun r1 hp1 hq1 => ?_)
  obtain ⟨rfl, rfl⟩ := hq1
  refine a_if_eq (tgt := 62) C dX2_waitOn_4 (by decide) (fun c4 => ?_) (fun c4 => ?_)
  · exact a_vret C dX2_waitOn_62 (Nat.le_of_ble_eq_true rfl) (Nat.le_of_ble_eq_true rfl) (hret _ _ ⟨rfl, by unfold mDf; first | (rw [if_neg (fun z => b0 c4 z.2.1)]; done) | (rw [if_neg (fun z => absurd z.1 (Int32.not_le.mpr c12))]; done) | (rw [if_neg (fun z => absurd z.2.2 (Int32.not_le.mpr c23))]; done) | (rw [if_pos ⟨Int32.not_lt.mp c12, bn c4, Int32.not_lt.mp c23⟩, if_neg (show ¬ f 18 i + 1 = xpat (f 17 i) from fun z => by rw [z] at c44; exact absurd c44 Int32.lt_irrefl)]; done) | (rw [if_pos ⟨Int32.not_lt.mp c12, bn c4, Int32.not_lt.mp c23⟩, if_pos (Int32.le_antisymm (hwt (bn c4).1) (Int32.not_lt.mp c44))]; exact congrArg (fun z => xC h nc ni np nl (n 1) z g jc jr) mD_fin)⟩)
  · refine a_aload_n (i := 0) C dX2_waitOn_7 rfl rfl ?_
    refine a_get C dX2_waitOn_8 fl_X2_19 (xC_in (by omega) (by omega)) rfl ?_
    refine a_iload_n (i := 1) C dX2_waitOn_11 rfl rfl ?_
    refine a_icmp_gt (tgt := 62) C dX2_waitOn_12 (by decide) (fun c12 => ?_) (fun c12 => ?_)
    · exact a_vret C dX2_waitOn_62 (Nat.le_of_ble_eq_true rfl) (Nat.le_of_ble_eq_true rfl) (hret _ _ ⟨rfl, by unfold mDf; first | (rw [if_neg (fun z => b0 c4 z.2.1)]; done) | (rw [if_neg (fun z => absurd z.1 (Int32.not_le.mpr c12))]; done) | (rw [if_neg (fun z => absurd z.2.2 (Int32.not_le.mpr c23))]; done) | (rw [if_pos ⟨Int32.not_lt.mp c12, bn c4, Int32.not_lt.mp c23⟩, if_neg (show ¬ f 18 i + 1 = xpat (f 17 i) from fun z => by rw [z] at c44; exact absurd c44 Int32.lt_irrefl)]; done) | (rw [if_pos ⟨Int32.not_lt.mp c12, bn c4, Int32.not_lt.mp c23⟩, if_pos (Int32.le_antisymm (hwt (bn c4).1) (Int32.not_lt.mp c44))]; exact congrArg (fun z => xC h nc ni np nl (n 1) z g jc jr) mD_fin)⟩)
    · refine a_aload_n (i := 0) C dX2_waitOn_15 rfl rfl ?_
      refine a_get C dX2_waitOn_16 fl_X2_9 (xC_in (by omega) (by omega)) rfl ?_
      refine a_get C dX2_waitOn_19 fl_X2_86 (xC_cu hw (by omega)) rfl ?_
      refine a_iload_n (i := 1) C dX2_waitOn_22 rfl rfl ?_
      refine a_icmp_gt (tgt := 62) C dX2_waitOn_23 (by decide) (fun c23 => ?_) (fun c23 => ?_)
      · exact a_vret C dX2_waitOn_62 (Nat.le_of_ble_eq_true rfl) (Nat.le_of_ble_eq_true rfl) (hret _ _ ⟨rfl, by unfold mDf; first | (rw [if_neg (fun z => b0 c4 z.2.1)]; done) | (rw [if_neg (fun z => absurd z.1 (Int32.not_le.mpr c12))]; done) | (rw [if_neg (fun z => absurd z.2.2 (Int32.not_le.mpr c23))]; done) | (rw [if_pos ⟨Int32.not_lt.mp c12, bn c4, Int32.not_lt.mp c23⟩, if_neg (show ¬ f 18 i + 1 = xpat (f 17 i) from fun z => by rw [z] at c44; exact absurd c44 Int32.lt_irrefl)]; done) | (rw [if_pos ⟨Int32.not_lt.mp c12, bn c4, Int32.not_lt.mp c23⟩, if_pos (Int32.le_antisymm (hwt (bn c4).1) (Int32.not_lt.mp c44))]; exact congrArg (fun z => xC h nc ni np nl (n 1) z g jc jr) mD_fin)⟩)
      · refine a_aload_n (i := 0) C dX2_waitOn_26 rfl rfl ?_
        refine a_dup C dX2_waitOn_27 rfl ?_
        refine a_get C dX2_waitOn_28 fl_X2_45 (xC_in (by omega) (by omega)) rfl ?_
        refine a_iconst (v := 1) C dX2_waitOn_31 (by decide) ?_
        refine a_iadd C dX2_waitOn_32 ?_
        refine a_put C dX2_waitOn_33 fl_X2_45 (xC_in (by omega) (by omega)) (Nat.le_of_ble_eq_true rfl) rfl rfl ?_
        refine a_hp (xCi_18 (by omega) (by omega)) ?_
        refine a_aload_n (i := 0) C dX2_waitOn_36 rfl rfl ?_
        refine a_get C dX2_waitOn_37 fl_X2_45 (xC_in (by omega) (by omega)) (congrArg (fun z => some (Value.int z)) xupd_i) ?_
        refine a_aload_n (i := 0) C dX2_waitOn_40 rfl rfl ?_
        refine a_callV C dX2_waitOn_41 cv_X2_waitOfLevel tb443 (m_X2_waitOfLevel hflags hB hi) rfl rfl (xC_in (by omega) (by omega)) rfl (Nat.le_of_ble_eq_true rfl) ⟨Nat.le_of_ble_eq_true rfl, Nat.le_of_ble_eq_true rfl⟩ ⟨Nat.le_of_ble_eq_true rfl, Nat.le_of_ble_eq_true rfl⟩ (fun _ h => h.elim) xav_no (fun _ _ h => h.elim) (fun r41 hp41 hq41 => ?_)
        obtain ⟨rfl, rfl⟩ := hq41
        refine a_top (xpat (f 17 i)) (xpat_w (bn c4).1) ?_
        refine a_icmp_lt (tgt := 62) C dX2_waitOn_44 (by decide) (fun c44 => ?_) (fun c44 => ?_)
        · exact a_vret C dX2_waitOn_62 (Nat.le_of_ble_eq_true rfl) (Nat.le_of_ble_eq_true rfl) (hret _ _ ⟨rfl, by unfold mDf; first | (rw [if_neg (fun z => b0 c4 z.2.1)]; done) | (rw [if_neg (fun z => absurd z.1 (Int32.not_le.mpr c12))]; done) | (rw [if_neg (fun z => absurd z.2.2 (Int32.not_le.mpr c23))]; done) | (rw [if_pos ⟨Int32.not_lt.mp c12, bn c4, Int32.not_lt.mp c23⟩, if_neg (show ¬ f 18 i + 1 = xpat (f 17 i) from fun z => by rw [z] at c44; exact absurd c44 Int32.lt_irrefl)]; done) | (rw [if_pos ⟨Int32.not_lt.mp c12, bn c4, Int32.not_lt.mp c23⟩, if_pos (Int32.le_antisymm (hwt (bn c4).1) (Int32.not_lt.mp c44))]; exact congrArg (fun z => xC h nc ni np nl (n 1) z g jc jr) mD_fin)⟩)
        · refine a_aload_n (i := 0) C dX2_waitOn_47 rfl rfl ?_
          refine a_dup C dX2_waitOn_48 rfl ?_
          refine a_get C dX2_waitOn_49 fl_X2_51 (xC_in (by omega) (by omega)) rfl ?_
          refine a_iconst (v := 1) C dX2_waitOn_52 (by decide) ?_
          refine a_iadd C dX2_waitOn_53 ?_
          refine a_put C dX2_waitOn_54 fl_X2_51 (xC_in (by omega) (by omega)) (Nat.le_of_ble_eq_true rfl) rfl rfl ?_
          refine a_hp (xCi_17 (by omega) (by omega)) ?_
          refine a_aload_n (i := 0) C dX2_waitOn_57 rfl rfl ?_
          refine a_iconst (v := 0) C dX2_waitOn_58 (by decide) ?_
          refine a_put C dX2_waitOn_59 fl_X2_45 (xC_in (by omega) (by omega)) (Nat.le_of_ble_eq_true rfl) rfl rfl ?_
          refine a_hp (xCi_18 (by omega) (by omega)) ?_
          exact a_vret C dX2_waitOn_62 (Nat.le_of_ble_eq_true rfl) (Nat.le_of_ble_eq_true rfl) (hret _ _ ⟨rfl, by unfold mDf; first | (rw [if_neg (fun z => b0 c4 z.2.1)]; done) | (rw [if_neg (fun z => absurd z.1 (Int32.not_le.mpr c12))]; done) | (rw [if_neg (fun z => absurd z.2.2 (Int32.not_le.mpr c23))]; done) | (rw [if_pos ⟨Int32.not_lt.mp c12, bn c4, Int32.not_lt.mp c23⟩, if_neg (show ¬ f 18 i + 1 = xpat (f 17 i) from fun z => by rw [z] at c44; exact absurd c44 Int32.lt_irrefl)]; done) | (rw [if_pos ⟨Int32.not_lt.mp c12, bn c4, Int32.not_lt.mp c23⟩, if_pos (Int32.le_antisymm (hwt (bn c4).1) (Int32.not_lt.mp c44))]; exact congrArg (fun z => xC h nc ni np nl (n 1) z g jc jr) mD_fin)⟩)
set_option maxRecDepth 100000 in
set_option maxHeartbeats 4000000 in
theorem m_X2_daysToNextLevel {l : Launch} {N0 : Nat} {D : va_G} {dT : Nat → ClassId} (hflags : l.stackTraces = false) {h : xH} {nc ni np nl : Nat} {n : Nat → Int32} {f : Nat → Nat → Int32} {g : Nat → Nat → Int64} {jc : Nat → Nat → Int32} {jr : Nat → Int64} (hB : nc ≤ 6 ∧ ni ≤ 24 ∧ np ≤ 24 ∧ nl ≤ 16000) {i : Nat} (hi : i < ni) (hw : xow f i < nc)  : xMet l N0 D dT yX2_daysToNextLevel cX2_daysToNextLevel 3 (some FieldType.int) 2 0 0 [.ref (32 + i), .int (n 1)] (xC h nc ni np nl (n 1) f g jc jr) xNo (fun r h' => r = some (.int (xdr n f i)) ∧ h' = xC h nc ni np nl (n 1) f g jc jr) xNX := by
  refine xMet_of hflags (by decide +kernel) (fun _ _ h => h) (Nat.le_of_ble_eq_true rfl) ?_
  intro E C I hret hthr
  refine a_loc [(0, .ref (32 + i)), (1, .int (n 1))] (xsub_cons rfl (xsub_cons rfl (xsub_nil))) ?_
  obtain ⟨hc6, hi24, hp24, hl16⟩ := id hB
  refine a_aload_n (i := 0) C dX2_daysToNextLevel_0 rfl rfl ?_
  refine a_callV C dX2_daysToNextLevel_1 cv_X2_canBeReminded tb438 (m_X2_canBeReminded hflags hB hi) rfl rfl (xC_in (by omega) (by omega)) rfl (Nat.le_of_ble_eq_true rfl) ⟨Nat.le_of_ble_eq_true rfl, Nat.le_of_ble_eq_true rfl⟩ ⟨Nat.le_of_ble_eq_true rfl, Nat.le_of_ble_eq_true rfl⟩ (fun _ h => h.elim) xav_no (fun _ _ h => h.elim) (fun r1 hp1 hq1 => ?_)
  obtain ⟨rfl, rfl⟩ := hq1
  refine a_if_ne (tgt := 9) C dX2_daysToNextLevel_4 (by decide) (fun c4 => ?_) (fun c4 => ?_)
  · refine a_iload_n (i := 1) C dX2_daysToNextLevel_9 rfl rfl ?_
    refine a_aload_n (i := 0) C dX2_daysToNextLevel_10 rfl rfl ?_
    refine a_get C dX2_daysToNextLevel_11 fl_X2_19 (xC_in (by omega) (by omega)) rfl ?_
    refine a_aload_n (i := 0) C dX2_daysToNextLevel_14 rfl rfl ?_
    refine a_get C dX2_daysToNextLevel_15 fl_X2_9 (xC_in (by omega) (by omega)) rfl ?_
    refine a_get C dX2_daysToNextLevel_18 fl_X2_86 (xC_cu hw (by omega)) rfl ?_
    refine a_max C dX2_daysToNextLevel_21 tb763 tb302 tb37 tb303 (Nat.le_of_ble_eq_true rfl) (Nat.le_of_ble_eq_true rfl) (Nat.le_of_ble_eq_true rfl) (Nat.le_of_ble_eq_true rfl) (Nat.le_of_ble_eq_true rfl) ?_
    refine a_max C dX2_daysToNextLevel_24 tb763 tb302 tb37 tb303 (Nat.le_of_ble_eq_true rfl) (Nat.le_of_ble_eq_true rfl) (Nat.le_of_ble_eq_true rfl) (Nat.le_of_ble_eq_true rfl) (Nat.le_of_ble_eq_true rfl) ?_
    refine a_top _ xmx ?_
    refine a_istore_n (i := 2) C dX2_daysToNextLevel_27 rfl (by decide) ?_
    refine a_iload_n (i := 2) C dX2_daysToNextLevel_28 rfl rfl ?_
    refine a_iload_n (i := 1) C dX2_daysToNextLevel_29 rfl rfl ?_
    refine a_isub C dX2_daysToNextLevel_30 ?_
    refine a_aload_n (i := 0) C dX2_daysToNextLevel_31 rfl rfl ?_
    refine a_callV C dX2_daysToNextLevel_32 cv_X2_waitOfLevel tb443 (m_X2_waitOfLevel hflags hB hi) rfl rfl (xC_in (by omega) (by omega)) rfl (Nat.le_of_ble_eq_true rfl) ⟨Nat.le_of_ble_eq_true rfl, Nat.le_of_ble_eq_true rfl⟩ ⟨Nat.le_of_ble_eq_true rfl, Nat.le_of_ble_eq_true rfl⟩ (fun _ h => h.elim) xav_no (fun _ _ h => h.elim) (fun r32 hp32 hq32 => ?_)
    obtain ⟨rfl, rfl⟩ := hq32
    refine a_top (xpat (f 17 i)) (xpat_w (bn c4).1) ?_
    refine a_iadd C dX2_daysToNextLevel_35 ?_
    refine a_aload_n (i := 0) C dX2_daysToNextLevel_36 rfl rfl ?_
    refine a_get C dX2_daysToNextLevel_37 fl_X2_45 (xC_in (by omega) (by omega)) rfl ?_
    refine a_isub C dX2_daysToNextLevel_40 ?_
    exact a_iret C dX2_daysToNextLevel_41 (Nat.le_of_ble_eq_true rfl) (Nat.le_of_ble_eq_true rfl) (hret _ _ ⟨congrArg (fun z => some (Value.int z)) (by unfold xdr; first | (rw [if_pos (c := ¬ (f 17 i < 4 ∧ 0 < f 13 i ∧ f 14 i = 0)) (b0 c4)]; done) | (rw [if_neg (c := ¬ (f 17 i < 4 ∧ 0 < f 13 i ∧ f 14 i = 0)) (fun z => z (bn c4))]; done)), rfl⟩)
  · refine a_iconst (v := (-1)) C dX2_daysToNextLevel_7 (by decide) ?_
    exact a_iret C dX2_daysToNextLevel_8 (Nat.le_of_ble_eq_true rfl) (Nat.le_of_ble_eq_true rfl) (hret _ _ ⟨congrArg (fun z => some (Value.int z)) (by unfold xdr; first | (rw [if_pos (c := ¬ (f 17 i < 4 ∧ 0 < f 13 i ∧ f 14 i = 0)) (b0 c4)]; done) | (rw [if_neg (c := ¬ (f 17 i < 4 ∧ 0 < f 13 i ∧ f 14 i = 0)) (fun z => z (bn c4))]; done)), rfl⟩)
