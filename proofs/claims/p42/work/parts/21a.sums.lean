/-! the law's small sums over the book -/
theorem xC_L {h : xH} {nc ni np nl : Nat} {t : Int32} {f : Nat → Nat → Int32} {g : Nat → Nat → Int64} {jc : Nat → Nat → Int32} {jr : Nat → Int64} {j : Nat} {e : va_E} (H : h j = some e) (hj : 128 ≤ j ∧ j ≤ 299) : xC h nc ni np nl t f g jc jr j = some e := by
  rw [xC_ox (by omega) (by omega)]
  exact H
/-- what the law's clear sums -/
def yclr (f : Nat → Nat → Int32) (O : Nat → Int32) (c : Int32) : Nat → Int64 := fun j => if O j = c then (f 13 j).toInt64 - (f 14 j).toInt64 else 0
def yacc (f : Nat → Nat → Int32) (g : Nat → Nat → Int64) (O : Nat → Int32) (c : Int32) : Nat → Int64 := fun j => if O j = c then (xac f g j).toInt64 else 0
theorem xsumL_s {t : Nat → Int64} {i : Nat} {v : Int64} (h : t i = v) : xsumL t i + v = xsumL t (i + 1) := by rw [← h]; rfl
/-- the book as one number -/
def yN1 (n : Nat → Int32) (f : Nat → Nat → Int32) (g : Nat → Nat → Int64) (nc nl : Nat) : Nat → Int64
  | 0 => 31 * (31 * (n 1).toInt64 + (nI nc).toInt64) + (nI nl).toInt64
  | i + 1 => 31 * (31 * (31 * yN1 n f g nc nl i + (f 13 i).toInt64) + (f 14 i).toInt64) + (xac f g i).toInt64 + 100000 * (f 17 i).toInt64 + 1000000 * (xdr n f i).toInt64
def yN2 (n : Nat → Int32) (f : Nat → Nat → Int32) (g : Nat → Nat → Int64) (nc nl ni : Nat) : Nat → Int64
  | 0 => yN1 n f g nc nl ni
  | k + 1 => 31 * yN2 n f g nc nl ni k + (f 20 k).toInt64
set_option maxRecDepth 100000 in
set_option maxHeartbeats 4000000 in
theorem k_customers {l : Launch} {N0 : Nat} {D : va_G} {dT : Nat → ClassId} (hflags : l.stackTraces = false) {h : xH} {nc ni np nl : Nat} {n : Nat → Int32} {f : Nat → Nat → Int32} {g : Nat → Nat → Int64} {jc : Nat → Nat → Int32} {jr : Nat → Int64}   : xMet l N0 D dT yX6_customers cX6_customers 1 (some FieldType.int) 2 0 0 [.ref 0] (xC h nc ni np nl (n 1) f g jc jr) xNo (fun r h' => r = some (.int (nI nc)) ∧ h' = xC h nc ni np nl (n 1) f g jc jr) xNX := by
  refine xMet_of hflags (by decide +kernel) (fun _ _ h => h) (Nat.le_of_ble_eq_true rfl) ?_
  intro E C I hret hthr
  refine a_loc [(0, .ref 0)] (xsub_cons rfl (xsub_nil)) ?_
  refine a_aload_n (i := 0) C dX6_customers_0 rfl rfl ?_
  refine a_get C dX6_customers_1 fl_X6_10 xC_0 rfl ?_
  refine a_callV C dX6_customers_4 cv_Jx4a65c_size_8abf5 tb142 (m_Jx4a65c_size_8abf5 hflags xC_1) rfl rfl xC_1 rfl (Nat.le_of_ble_eq_true rfl) ⟨Nat.le_of_ble_eq_true rfl, Nat.le_of_ble_eq_true rfl⟩ ⟨Nat.le_of_ble_eq_true rfl, Nat.le_of_ble_eq_true rfl⟩ (fun _ h => h.elim) xav_no (fun _ _ h => h.elim) (fun r4 hp4 hq4 => ?_)
  obtain ⟨rfl, rfl⟩ := hq4
  exact a_iret C dX6_customers_7 (Nat.le_of_ble_eq_true rfl) (Nat.le_of_ble_eq_true rfl) (hret _ _ ⟨rfl, rfl⟩)
set_option maxRecDepth 100000 in
set_option maxHeartbeats 4000000 in
theorem k_invoices {l : Launch} {N0 : Nat} {D : va_G} {dT : Nat → ClassId} (hflags : l.stackTraces = false) {h : xH} {nc ni np nl : Nat} {n : Nat → Int32} {f : Nat → Nat → Int32} {g : Nat → Nat → Int64} {jc : Nat → Nat → Int32} {jr : Nat → Int64}   : xMet l N0 D dT yX6_invoices cX6_invoices 1 (some FieldType.int) 2 0 0 [.ref 0] (xC h nc ni np nl (n 1) f g jc jr) xNo (fun r h' => r = some (.int (nI ni)) ∧ h' = xC h nc ni np nl (n 1) f g jc jr) xNX := by
  refine xMet_of hflags (by decide +kernel) (fun _ _ h => h) (Nat.le_of_ble_eq_true rfl) ?_
  intro E C I hret hthr
  refine a_loc [(0, .ref 0)] (xsub_cons rfl (xsub_nil)) ?_
  refine a_aload_n (i := 0) C dX6_invoices_0 rfl rfl ?_
  refine a_get C dX6_invoices_1 fl_X6_16 xC_0 rfl ?_
  refine a_callV C dX6_invoices_4 cv_Jx4a65c_size_8abf5 tb142 (m_Jx4a65c_size_8abf5 hflags xC_2) rfl rfl xC_2 rfl (Nat.le_of_ble_eq_true rfl) ⟨Nat.le_of_ble_eq_true rfl, Nat.le_of_ble_eq_true rfl⟩ ⟨Nat.le_of_ble_eq_true rfl, Nat.le_of_ble_eq_true rfl⟩ (fun _ h => h.elim) xav_no (fun _ _ h => h.elim) (fun r4 hp4 hq4 => ?_)
  obtain ⟨rfl, rfl⟩ := hq4
  exact a_iret C dX6_invoices_7 (Nat.le_of_ble_eq_true rfl) (Nat.le_of_ble_eq_true rfl) (hret _ _ ⟨rfl, rfl⟩)
set_option maxRecDepth 100000 in
set_option maxHeartbeats 4000000 in
theorem k_payments {l : Launch} {N0 : Nat} {D : va_G} {dT : Nat → ClassId} (hflags : l.stackTraces = false) {h : xH} {nc ni np nl : Nat} {n : Nat → Int32} {f : Nat → Nat → Int32} {g : Nat → Nat → Int64} {jc : Nat → Nat → Int32} {jr : Nat → Int64}   : xMet l N0 D dT yX6_payments cX6_payments 1 (some FieldType.int) 2 0 0 [.ref 0] (xC h nc ni np nl (n 1) f g jc jr) xNo (fun r h' => r = some (.int (nI np)) ∧ h' = xC h nc ni np nl (n 1) f g jc jr) xNX := by
  refine xMet_of hflags (by decide +kernel) (fun _ _ h => h) (Nat.le_of_ble_eq_true rfl) ?_
  intro E C I hret hthr
  refine a_loc [(0, .ref 0)] (xsub_cons rfl (xsub_nil)) ?_
  refine a_aload_n (i := 0) C dX6_payments_0 rfl rfl ?_
  refine a_get C dX6_payments_1 fl_X6_19 xC_0 rfl ?_
  refine a_callV C dX6_payments_4 cv_Jx4a65c_size_8abf5 tb142 (m_Jx4a65c_size_8abf5 hflags xC_3) rfl rfl xC_3 rfl (Nat.le_of_ble_eq_true rfl) ⟨Nat.le_of_ble_eq_true rfl, Nat.le_of_ble_eq_true rfl⟩ ⟨Nat.le_of_ble_eq_true rfl, Nat.le_of_ble_eq_true rfl⟩ (fun _ h => h.elim) xav_no (fun _ _ h => h.elim) (fun r4 hp4 hq4 => ?_)
  obtain ⟨rfl, rfl⟩ := hq4
  exact a_iret C dX6_payments_7 (Nat.le_of_ble_eq_true rfl) (Nat.le_of_ble_eq_true rfl) (hret _ _ ⟨rfl, rfl⟩)
set_option maxRecDepth 100000 in
set_option maxHeartbeats 4000000 in
theorem k_ledgerLines {l : Launch} {N0 : Nat} {D : va_G} {dT : Nat → ClassId} (hflags : l.stackTraces = false) {h : xH} {nc ni np nl : Nat} {n : Nat → Int32} {f : Nat → Nat → Int32} {g : Nat → Nat → Int64} {jc : Nat → Nat → Int32} {jr : Nat → Int64}   : xMet l N0 D dT yX6_ledgerLines cX6_ledgerLines 1 (some FieldType.int) 2 0 0 [.ref 0] (xC h nc ni np nl (n 1) f g jc jr) xNo (fun r h' => r = some (.int (nI nl)) ∧ h' = xC h nc ni np nl (n 1) f g jc jr) xNX := by
  refine xMet_of hflags (by decide +kernel) (fun _ _ h => h) (Nat.le_of_ble_eq_true rfl) ?_
  intro E C I hret hthr
  refine a_loc [(0, .ref 0)] (xsub_cons rfl (xsub_nil)) ?_
  refine a_aload_n (i := 0) C dX6_ledgerLines_0 rfl rfl ?_
  refine a_get C dX6_ledgerLines_1 fl_X6_25 xC_0 rfl ?_
  refine a_get C dX6_ledgerLines_4 fl_X6_246 xC_7 rfl ?_
  exact a_iret C dX6_ledgerLines_7 (Nat.le_of_ble_eq_true rfl) (Nat.le_of_ble_eq_true rfl) (hret _ _ ⟨rfl, rfl⟩)
set_option maxRecDepth 100000 in
set_option maxHeartbeats 4000000 in
theorem k_today {l : Launch} {N0 : Nat} {D : va_G} {dT : Nat → ClassId} (hflags : l.stackTraces = false) {h : xH} {nc ni np nl : Nat} {n : Nat → Int32} {f : Nat → Nat → Int32} {g : Nat → Nat → Int64} {jc : Nat → Nat → Int32} {jr : Nat → Int64}   : xMet l N0 D dT yX6_today cX6_today 1 (some FieldType.int) 2 0 0 [.ref 0] (xC h nc ni np nl (n 1) f g jc jr) xNo (fun r h' => r = some (.int (n 1)) ∧ h' = xC h nc ni np nl (n 1) f g jc jr) xNX := by
  refine xMet_of hflags (by decide +kernel) (fun _ _ h => h) (Nat.le_of_ble_eq_true rfl) ?_
  intro E C I hret hthr
  refine a_loc [(0, .ref 0)] (xsub_cons rfl (xsub_nil)) ?_
  refine a_aload_n (i := 0) C dX6_today_0 rfl rfl ?_
  refine a_get C dX6_today_1 fl_X6_36 xC_0 rfl ?_
  exact a_iret C dX6_today_4 (Nat.le_of_ble_eq_true rfl) (Nat.le_of_ble_eq_true rfl) (hret _ _ ⟨rfl, rfl⟩)
set_option maxRecDepth 100000 in
set_option maxHeartbeats 4000000 in
theorem p_clear {l : Launch} {N0 : Nat} {D : va_G} {dT : Nat → ClassId} (hflags : l.stackTraces = false) {h : xH} {n : Nat → Int32} {f : Nat → Nat → Int32} {g : Nat → Nat → Int64} {nc ni np nl q9 : Nat} {jc : Nat → Nat → Int32} {jr : Nat → Int64} {O : Nat → Int32} {c : Int32} (hbs : xBs h) (hJ : JI n f g nc ni np nl q9) (hq : q9 ≤ 500) (hO : h 230 = some (.inl (0, 24, .inl O))) : xMetP l N0 D dT yL_clear cL_clear 6 (some FieldType.long) 11 48 288 [.ref 0, .ref 230, .int c] (xC h nc ni np nl (n 1) f g jc jr) xNo (fun r h' => r = some (.long (xsumL (yclr f O c) ni)) ∧ ∃ jc jr, h' = xC h nc ni np nl (n 1) f g jc jr) := by
  have hnl := JI_nl hJ (by omega)
  obtain ⟨hI, ⟨t9, ht, ht2, hG⟩, hLl⟩ := id hJ
  obtain ⟨-, -, -, -, hc6, hi24, hp24, hl16⟩ := id hI
  refine xMetP_of hflags (by decide +kernel) (fun _ _ h => h) (Nat.le_of_ble_eq_true rfl) ?_
  intro E C hN hret
  refine a_loc [(0, .ref 0), (1, .ref 230), (2, .int c)] (xsub_cons rfl (xsub_cons rfl (xsub_cons rfl (xsub_nil)))) ?_
  have loop : ∀ (fu i k s9 : Nat) (jc : Nat → Nat → Int32) (jr : Nat → Int64), i ≤ ni → ni < i + fu → k + 2 * (ni - i) ≤ 48 → s9 + 12 * (ni - i) ≤ 288 → aW E k s9 (xC h nc ni np nl (n 1) f g jc jr) 5 [(0, .ref 0), (1, .ref 230), (2, .int c), (3, .long (xsumL (yclr f O c) i)), (5, .int (nI i))] [] := by
    intro fu
    induction fu with
    | zero => intro i k s9 jc jr h1 h2; exact absurd h2 (by omega)
    | succ fu ih =>
      intro i k s9 jc jr h1 h2 hk hs
      refine a_iload (i := 5) C dL_clear_5 rfl ?_
      refine a_aload_n (i := 0) C dL_clear_7 rfl rfl ?_
      refine a_callV C dL_clear_8 cv_X6_invoices tb146 (k_invoices hflags) rfl rfl xC_0 rfl (Nat.le_of_ble_eq_true rfl) ⟨Nat.le_of_ble_eq_true rfl, Nat.le_of_ble_eq_true rfl⟩ ⟨show k + 0 ≤ 48 by omega, show s9 + 0 ≤ 288 by omega⟩ (fun _ h => h.elim) xav_no (fun _ _ h => h.elim) (fun r8 hp8 hq8 => ?_)
      obtain ⟨rfl, rfl⟩ := hq8
      refine a_icmp_ge (tgt := 48) C dL_clear_11 (by decide) (fun c11 => ?_) (fun c11 => ?_)
      · have hie : i = ni := by
          have := (xle (by omega) (by omega)).mp c11
          omega
        rw [hie]
        refine a_lload_n (i := 3) C dL_clear_48 rfl rfl ?_
        exact a_lret C dL_clear_49 (show k ≤ 48 by omega) (show s9 ≤ 288 by omega) (hret _ _ ⟨rfl, jc, jr, rfl⟩)
      · have hlt : i < ni := by
          rcases Nat.lt_or_ge i ni with q | q
          · exact q
          · exact absurd ((xle (by omega) (by omega)).mpr q) c11
        refine a_lload_n (i := 3) C dL_clear_14 rfl rfl ?_
        refine a_aload_n (i := 1) C dL_clear_15 rfl rfl ?_
        refine a_iload (i := 5) C dL_clear_16 rfl ?_
        refine a_ialdI C dL_clear_18 (xC_L hO (by decide)) ⟨by omega, by omega⟩ ?_
        refine a_iload_n (i := 2) C dL_clear_19 rfl rfl ?_
        refine a_icmp_ne (tgt := 39) C dL_clear_20 (by decide) (fun c20 => ?_) (fun c20 => ?_)
        · refine a_lconst (v := 0) C dL_clear_39 (by decide) ?_
          refine a_ladd C dL_clear_40 ?_
          refine a_topl (xsumL (yclr f O c) (i + 1)) (xsumL_s (by first | exact if_neg c20 | exact if_pos c20 | exact if_pos (Classical.not_not.mp c20))) ?_
          refine a_lstore_n (i := 3) C dL_clear_41 rfl (by decide) ?_
          refine a_iinc (i := 5) (v := nI (i + 1)) C dL_clear_42 rfl (nI_1 i) (by decide) ?_
          refine a_goto (tgt := 5) C dL_clear_45 (by decide) ?_
          refine a_loc [(0, .ref 0), (1, .ref 230), (2, .int c), (3, .long (xsumL (yclr f O c) (i + 1))), (5, .int (nI (i + 1)))] (xsub_cons rfl (xsub_cons rfl (xsub_cons rfl (xsub_cons rfl (xsub_cons rfl xsub_nil))))) ?_
          exact ih (i + 1) _ _ _ _ (by omega) (by omega) (by omega) (by omega)
        · refine a_aload_n (i := 0) C dL_clear_23 rfl rfl ?_
          refine a_iload (i := 5) C dL_clear_24 rfl ?_
          refine a_callSN (na := 2) C hN dL_clear_26 ⟨tb725, tb23, tb726, ⟨by decide, by decide, by decide +kernel⟩⟩ tb724 (w_open hflags hbs hJ hq) rfl rfl (Nat.le_of_ble_eq_true rfl) ⟨Nat.le_of_ble_eq_true rfl, Nat.le_of_ble_eq_true rfl⟩ ⟨show k + 1 ≤ 48 by omega, show s9 + 6 ≤ 288 by omega⟩ (fun _ h => h.elim) xav_no (fun r26 hp26 hq26 => ?_)
          obtain ⟨rfl, jc26, jr26, rfl⟩ := pP_rd (v' := f 13 i) hq26 (xin_of hlt (by omega)) (by rw [nI_clamp (by omega)])
          refine a_aload_n (i := 0) C dL_clear_29 rfl rfl ?_
          refine a_iload (i := 5) C dL_clear_30 rfl ?_
          refine a_callSN (na := 2) C hN dL_clear_32 ⟨tb732, tb23, tb733, ⟨by decide, by decide, by decide +kernel⟩⟩ tb731 (w_disputed hflags hbs hJ hq) rfl rfl (Nat.le_of_ble_eq_true rfl) ⟨Nat.le_of_ble_eq_true rfl, Nat.le_of_ble_eq_true rfl⟩ ⟨show k + 1 + 1 ≤ 48 by omega, show s9 + 6 + 6 ≤ 288 by omega⟩ (fun _ h => h.elim) xav_no (fun r32 hp32 hq32 => ?_)
          obtain ⟨rfl, jc32, jr32, rfl⟩ := pP_rd (v' := f 14 i) hq32 (xin_of hlt (by omega)) (by rw [nI_clamp (by omega)])
          refine a_lsub C dL_clear_35 ?_
          refine a_goto (tgt := 40) C dL_clear_36 (by decide) ?_
          refine a_ladd C dL_clear_40 ?_
          refine a_topl (xsumL (yclr f O c) (i + 1)) (xsumL_s (by first | exact if_neg c20 | exact if_pos c20 | exact if_pos (Classical.not_not.mp c20))) ?_
          refine a_lstore_n (i := 3) C dL_clear_41 rfl (by decide) ?_
          refine a_iinc (i := 5) (v := nI (i + 1)) C dL_clear_42 rfl (nI_1 i) (by decide) ?_
          refine a_goto (tgt := 5) C dL_clear_45 (by decide) ?_
          refine a_loc [(0, .ref 0), (1, .ref 230), (2, .int c), (3, .long (xsumL (yclr f O c) (i + 1))), (5, .int (nI (i + 1)))] (xsub_cons rfl (xsub_cons rfl (xsub_cons rfl (xsub_cons rfl (xsub_cons rfl xsub_nil))))) ?_
          exact ih (i + 1) _ _ _ _ (by omega) (by omega) (by omega) (by omega)
  refine a_lconst (v := 0) C dL_clear_0 (by decide) ?_
  refine a_lstore_n (i := 3) C dL_clear_1 rfl (by decide) ?_
  refine a_iconst (v := 0) C dL_clear_2 (by decide) ?_
  refine a_istore (i := 5) C dL_clear_3 (by decide) ?_
  refine a_loc [(0, .ref 0), (1, .ref 230), (2, .int c), (3, .long (xsumL (yclr f O c) 0)), (5, .int (nI 0))] (xsub_cons rfl (xsub_cons rfl (xsub_cons rfl (xsub_cons rfl (xsub_cons rfl xsub_nil))))) ?_
  exact loop (ni + 1) 0 0 0 jc jr (Nat.zero_le _) (by omega) (by omega) (by omega)
set_option maxRecDepth 100000 in
set_option maxHeartbeats 4000000 in
theorem p_interests {l : Launch} {N0 : Nat} {D : va_G} {dT : Nat → ClassId} (hflags : l.stackTraces = false) {h : xH} {n : Nat → Int32} {f : Nat → Nat → Int32} {g : Nat → Nat → Int64} {nc ni np nl q9 : Nat} {jc : Nat → Nat → Int32} {jr : Nat → Int64} {O : Nat → Int32} {c : Int32} (hbs : xBs h) (hJ : JI n f g nc ni np nl q9) (hq : q9 ≤ 500) (hO : h 230 = some (.inl (0, 24, .inl O))) : xMetP l N0 D dT yL_interests cL_interests 6 (some FieldType.long) 11 24 144 [.ref 0, .ref 230, .int c] (xC h nc ni np nl (n 1) f g jc jr) xNo (fun r h' => r = some (.long (xsumL (yacc f g O c) ni)) ∧ ∃ jc jr, h' = xC h nc ni np nl (n 1) f g jc jr) := by
  have hnl := JI_nl hJ (by omega)
  obtain ⟨hI, ⟨t9, ht, ht2, hG⟩, hLl⟩ := id hJ
  obtain ⟨-, -, -, -, hc6, hi24, hp24, hl16⟩ := id hI
  refine xMetP_of hflags (by decide +kernel) (fun _ _ h => h) (Nat.le_of_ble_eq_true rfl) ?_
  intro E C hN hret
  refine a_loc [(0, .ref 0), (1, .ref 230), (2, .int c)] (xsub_cons rfl (xsub_cons rfl (xsub_cons rfl (xsub_nil)))) ?_
  have loop : ∀ (fu i k s9 : Nat) (jc : Nat → Nat → Int32) (jr : Nat → Int64), i ≤ ni → ni < i + fu → k + 1 * (ni - i) ≤ 24 → s9 + 6 * (ni - i) ≤ 144 → aW E k s9 (xC h nc ni np nl (n 1) f g jc jr) 5 [(0, .ref 0), (1, .ref 230), (2, .int c), (3, .long (xsumL (yacc f g O c) i)), (5, .int (nI i))] [] := by
    intro fu
    induction fu with
    | zero => intro i k s9 jc jr h1 h2; exact absurd h2 (by omega)
    | succ fu ih =>
      intro i k s9 jc jr h1 h2 hk hs
      refine a_iload (i := 5) C dL_interests_5 rfl ?_
      refine a_aload_n (i := 0) C dL_interests_7 rfl rfl ?_
      refine a_callV C dL_interests_8 cv_X6_invoices tb146 (k_invoices hflags) rfl rfl xC_0 rfl (Nat.le_of_ble_eq_true rfl) ⟨Nat.le_of_ble_eq_true rfl, Nat.le_of_ble_eq_true rfl⟩ ⟨show k + 0 ≤ 24 by omega, show s9 + 0 ≤ 144 by omega⟩ (fun _ h => h.elim) xav_no (fun _ _ h => h.elim) (fun r8 hp8 hq8 => ?_)
      obtain ⟨rfl, rfl⟩ := hq8
      refine a_icmp_ge (tgt := 41) C dL_interests_11 (by decide) (fun c11 => ?_) (fun c11 => ?_)
      · have hie : i = ni := by
          have := (xle (by omega) (by omega)).mp c11
          omega
        rw [hie]
        refine a_lload_n (i := 3) C dL_interests_41 rfl rfl ?_
        exact a_lret C dL_interests_42 (show k ≤ 24 by omega) (show s9 ≤ 144 by omega) (hret _ _ ⟨rfl, jc, jr, rfl⟩)
      · have hlt : i < ni := by
          rcases Nat.lt_or_ge i ni with q | q
          · exact q
          · exact absurd ((xle (by omega) (by omega)).mpr q) c11
        refine a_lload_n (i := 3) C dL_interests_14 rfl rfl ?_
        refine a_aload_n (i := 1) C dL_interests_15 rfl rfl ?_
        refine a_iload (i := 5) C dL_interests_16 rfl ?_
        refine a_ialdI C dL_interests_18 (xC_L hO (by decide)) ⟨by omega, by omega⟩ ?_
        refine a_iload_n (i := 2) C dL_interests_19 rfl rfl ?_
        refine a_icmp_ne (tgt := 32) C dL_interests_20 (by decide) (fun c20 => ?_) (fun c20 => ?_)
        · refine a_lconst (v := 0) C dL_interests_32 (by decide) ?_
          refine a_ladd C dL_interests_33 ?_
          refine a_topl (xsumL (yacc f g O c) (i + 1)) (xsumL_s (by first | exact if_neg c20 | exact if_pos c20 | exact if_pos (Classical.not_not.mp c20))) ?_
          refine a_lstore_n (i := 3) C dL_interests_34 rfl (by decide) ?_
          refine a_iinc (i := 5) (v := nI (i + 1)) C dL_interests_35 rfl (nI_1 i) (by decide) ?_
          refine a_goto (tgt := 5) C dL_interests_38 (by decide) ?_
          refine a_loc [(0, .ref 0), (1, .ref 230), (2, .int c), (3, .long (xsumL (yacc f g O c) (i + 1))), (5, .int (nI (i + 1)))] (xsub_cons rfl (xsub_cons rfl (xsub_cons rfl (xsub_cons rfl (xsub_cons rfl xsub_nil))))) ?_
          exact ih (i + 1) _ _ _ _ (by omega) (by omega) (by omega) (by omega)
        · refine a_aload_n (i := 0) C dL_interests_23 rfl rfl ?_
          refine a_iload (i := 5) C dL_interests_24 rfl ?_
          refine a_callSN (na := 2) C hN dL_interests_26 ⟨tb776, tb23, tb777, ⟨by decide, by decide, by decide +kernel⟩⟩ tb775 (w_accrued hflags hbs hJ hq) rfl rfl (Nat.le_of_ble_eq_true rfl) ⟨Nat.le_of_ble_eq_true rfl, Nat.le_of_ble_eq_true rfl⟩ ⟨show k + 1 ≤ 24 by omega, show s9 + 6 ≤ 144 by omega⟩ (fun _ h => h.elim) xav_no (fun r26 hp26 hq26 => ?_)
          obtain ⟨rfl, jc26, jr26, rfl⟩ := pP_rd (v' := xac f g i) hq26 (xin_of hlt (by omega)) (by rw [nI_clamp (by omega)])
          refine a_goto (tgt := 33) C dL_interests_29 (by decide) ?_
          refine a_ladd C dL_interests_33 ?_
          refine a_topl (xsumL (yacc f g O c) (i + 1)) (xsumL_s (by first | exact if_neg c20 | exact if_pos c20 | exact if_pos (Classical.not_not.mp c20))) ?_
          refine a_lstore_n (i := 3) C dL_interests_34 rfl (by decide) ?_
          refine a_iinc (i := 5) (v := nI (i + 1)) C dL_interests_35 rfl (nI_1 i) (by decide) ?_
          refine a_goto (tgt := 5) C dL_interests_38 (by decide) ?_
          refine a_loc [(0, .ref 0), (1, .ref 230), (2, .int c), (3, .long (xsumL (yacc f g O c) (i + 1))), (5, .int (nI (i + 1)))] (xsub_cons rfl (xsub_cons rfl (xsub_cons rfl (xsub_cons rfl (xsub_cons rfl xsub_nil))))) ?_
          exact ih (i + 1) _ _ _ _ (by omega) (by omega) (by omega) (by omega)
  refine a_lconst (v := 0) C dL_interests_0 (by decide) ?_
  refine a_lstore_n (i := 3) C dL_interests_1 rfl (by decide) ?_
  refine a_iconst (v := 0) C dL_interests_2 (by decide) ?_
  refine a_istore (i := 5) C dL_interests_3 (by decide) ?_
  refine a_loc [(0, .ref 0), (1, .ref 230), (2, .int c), (3, .long (xsumL (yacc f g O c) 0)), (5, .int (nI 0))] (xsub_cons rfl (xsub_cons rfl (xsub_cons rfl (xsub_cons rfl (xsub_cons rfl xsub_nil))))) ?_
  exact loop (ni + 1) 0 0 0 jc jr (Nat.zero_le _) (by omega) (by omega) (by omega)
set_option maxRecDepth 100000 in
set_option maxHeartbeats 4000000 in
theorem p_now {l : Launch} {N0 : Nat} {D : va_G} {dT : Nat → ClassId} (hflags : l.stackTraces = false) {h : xH} {n : Nat → Int32} {f : Nat → Nat → Int32} {g : Nat → Nat → Int64} {nc ni np nl q9 : Nat} {jc : Nat → Nat → Int32} {jr : Nat → Int64} (hbs : xBs h) (hJ : JI n f g nc ni np nl q9) (hq : q9 ≤ 500) : xMetP l N0 D dT yL_now cL_now 4 (some FieldType.long) 11 144 864 [.ref 0] (xC h nc ni np nl (n 1) f g jc jr) xNo (fun r h' => r = some (.long (yN2 n f g nc nl ni np)) ∧ ∃ jc jr, h' = xC h nc ni np nl (n 1) f g jc jr) := by
  have hnl := JI_nl hJ (by omega)
  obtain ⟨hI, ⟨t9, ht, ht2, hG⟩, hLl⟩ := id hJ
  obtain ⟨-, -, -, -, hc6, hi24, hp24, hl16⟩ := id hI
  refine xMetP_of hflags (by decide +kernel) (fun _ _ h => h) (Nat.le_of_ble_eq_true rfl) ?_
  intro E C hN hret
  refine a_loc [(0, .ref 0)] (xsub_cons rfl (xsub_nil)) ?_
  have loop2 : ∀ (fu i k s9 : Nat) (jc : Nat → Nat → Int32) (jr : Nat → Int64), i ≤ np → np < i + fu → k + 1 * (np - i) ≤ 144 → s9 + 6 * (np - i) ≤ 864 → aW E k s9 (xC h nc ni np nl (n 1) f g jc jr) 96 [(0, .ref 0), (1, .long (yN2 n f g nc nl ni i)), (3, .int (nI i))] [] := by
    intro fu
    induction fu with
    | zero => intro i k s9 jc jr h1 h2; exact absurd h2 (by omega)
    | succ fu ih =>
      intro i k s9 jc jr h1 h2 hk hs
      refine a_iload_n (i := 3) C dL_now_96 rfl rfl ?_
      refine a_aload_n (i := 0) C dL_now_97 rfl rfl ?_
      refine a_callV C dL_now_98 cv_X6_payments tb150 (k_payments hflags) rfl rfl xC_0 rfl (Nat.le_of_ble_eq_true rfl) ⟨Nat.le_of_ble_eq_true rfl, Nat.le_of_ble_eq_true rfl⟩ ⟨show k + 0 ≤ 144 by omega, show s9 + 0 ≤ 864 by omega⟩ (fun _ h => h.elim) xav_no (fun _ _ h => h.elim) (fun r98 hp98 hq98 => ?_)
      obtain ⟨rfl, rfl⟩ := hq98
      refine a_icmp_ge (tgt := 122) C dL_now_101 (by decide) (fun c101 => ?_) (fun c101 => ?_)
      · have hie : i = np := by
          have := (xle (by omega) (by omega)).mp c101
          omega
        rw [hie]
        refine a_lload_n (i := 1) C dL_now_122 rfl rfl ?_
        exact a_lret C dL_now_123 (show k ≤ 144 by omega) (show s9 ≤ 864 by omega) (hret _ _ ⟨rfl, jc, jr, rfl⟩)
      · have hlt : i < np := by
          rcases Nat.lt_or_ge i np with q | q
          · exact q
          · exact absurd ((xle (by omega) (by omega)).mpr q) c101
        refine a_ldc2 C dL_now_104 tb770 ?_
        refine a_lload_n (i := 1) C dL_now_107 rfl rfl ?_
        refine a_lmul C dL_now_108 ?_
        refine a_aload_n (i := 0) C dL_now_109 rfl rfl ?_
        refine a_iload_n (i := 3) C dL_now_110 rfl rfl ?_
        refine a_callSN (na := 2) C hN dL_now_111 ⟨tb746, tb23, tb747, ⟨by decide, by decide, by decide +kernel⟩⟩ tb745 (w_unallocated hflags hbs hJ hq) rfl rfl (Nat.le_of_ble_eq_true rfl) ⟨Nat.le_of_ble_eq_true rfl, Nat.le_of_ble_eq_true rfl⟩ ⟨show k + 1 ≤ 144 by omega, show s9 + 6 ≤ 864 by omega⟩ (fun _ h => h.elim) xav_no (fun r111 hp111 hq111 => ?_)
        obtain ⟨rfl, jc111, jr111, rfl⟩ := pP_rd (v' := f 20 i) hq111 (xin_of hlt (by omega)) (by rw [nI_clamp (by omega)])
        refine a_ladd C dL_now_114 ?_
        refine a_lstore_n (i := 1) C dL_now_115 rfl (by decide) ?_
        refine a_iinc (i := 3) (v := nI (i + 1)) C dL_now_116 rfl (nI_1 i) (by decide) ?_
        refine a_goto (tgt := 96) C dL_now_119 (by decide) ?_
        refine a_loc [(0, .ref 0), (1, .long (yN2 n f g nc nl ni (i + 1))), (3, .int (nI (i + 1)))] (xsub_cons rfl (xsub_cons rfl (xsub_cons rfl xsub_nil))) ?_
        exact ih (i + 1) _ _ _ _ (by omega) (by omega) (by omega) (by omega)
  have loop1 : ∀ (fu i k s9 : Nat) (jc : Nat → Nat → Int32) (jr : Nat → Int64), i ≤ ni → ni < i + fu → k + 5 * (ni - i) + np ≤ 144 → s9 + 30 * (ni - i) + 6 * np ≤ 864 → aW E k s9 (xC h nc ni np nl (n 1) f g jc jr) 28 [(0, .ref 0), (1, .long (yN1 n f g nc nl i)), (3, .int (nI i))] [] := by
    intro fu
    induction fu with
    | zero => intro i k s9 jc jr h1 h2; exact absurd h2 (by omega)
    | succ fu ih =>
      intro i k s9 jc jr h1 h2 hk hs
      refine a_iload_n (i := 3) C dL_now_28 rfl rfl ?_
      refine a_aload_n (i := 0) C dL_now_29 rfl rfl ?_
      refine a_callV C dL_now_30 cv_X6_invoices tb146 (k_invoices hflags) rfl rfl xC_0 rfl (Nat.le_of_ble_eq_true rfl) ⟨Nat.le_of_ble_eq_true rfl, Nat.le_of_ble_eq_true rfl⟩ ⟨show k + 0 ≤ 144 by omega, show s9 + 0 ≤ 864 by omega⟩ (fun _ h => h.elim) xav_no (fun _ _ h => h.elim) (fun r30 hp30 hq30 => ?_)
      obtain ⟨rfl, rfl⟩ := hq30
      refine a_icmp_ge (tgt := 94) C dL_now_33 (by decide) (fun c33 => ?_) (fun c33 => ?_)
      · have hie : i = ni := by
          have := (xle (by omega) (by omega)).mp c33
          omega
        rw [hie]
        refine a_iconst (v := 0) C dL_now_94 (by decide) ?_
        refine a_istore_n (i := 3) C dL_now_95 rfl (by decide) ?_
        refine a_loc [(0, .ref 0), (1, .long (yN2 n f g nc nl ni 0)), (3, .int (nI 0))] (xsub_cons rfl (xsub_cons rfl (xsub_cons rfl xsub_nil))) ?_
        exact loop2 (np + 1) 0 _ _ _ _ (Nat.zero_le _) (by omega) (by omega) (by omega)
      · have hlt : i < ni := by
          rcases Nat.lt_or_ge i ni with q | q
          · exact q
          · exact absurd ((xle (by omega) (by omega)).mpr q) c33
        refine a_ldc2 C dL_now_36 tb770 ?_
        refine a_ldc2 C dL_now_39 tb770 ?_
        refine a_ldc2 C dL_now_42 tb770 ?_
        refine a_lload_n (i := 1) C dL_now_45 rfl rfl ?_
        refine a_lmul C dL_now_46 ?_
        refine a_aload_n (i := 0) C dL_now_47 rfl rfl ?_
        refine a_iload_n (i := 3) C dL_now_48 rfl rfl ?_
        refine a_callSN (na := 2) C hN dL_now_49 ⟨tb725, tb23, tb726, ⟨by decide, by decide, by decide +kernel⟩⟩ tb724 (w_open hflags hbs hJ hq) rfl rfl (Nat.le_of_ble_eq_true rfl) ⟨Nat.le_of_ble_eq_true rfl, Nat.le_of_ble_eq_true rfl⟩ ⟨show k + 1 ≤ 144 by omega, show s9 + 6 ≤ 864 by omega⟩ (fun _ h => h.elim) xav_no (fun r49 hp49 hq49 => ?_)
        obtain ⟨rfl, jc49, jr49, rfl⟩ := pP_rd (v' := f 13 i) hq49 (xin_of hlt (by omega)) (by rw [nI_clamp (by omega)])
        refine a_ladd C dL_now_52 ?_
        refine a_lmul C dL_now_53 ?_
        refine a_aload_n (i := 0) C dL_now_54 rfl rfl ?_
        refine a_iload_n (i := 3) C dL_now_55 rfl rfl ?_
        refine a_callSN (na := 2) C hN dL_now_56 ⟨tb732, tb23, tb733, ⟨by decide, by decide, by decide +kernel⟩⟩ tb731 (w_disputed hflags hbs hJ hq) rfl rfl (Nat.le_of_ble_eq_true rfl) ⟨Nat.le_of_ble_eq_true rfl, Nat.le_of_ble_eq_true rfl⟩ ⟨show k + 1 + 1 ≤ 144 by omega, show s9 + 6 + 6 ≤ 864 by omega⟩ (fun _ h => h.elim) xav_no (fun r56 hp56 hq56 => ?_)
        obtain ⟨rfl, jc56, jr56, rfl⟩ := pP_rd (v' := f 14 i) hq56 (xin_of hlt (by omega)) (by rw [nI_clamp (by omega)])
        refine a_ladd C dL_now_59 ?_
        refine a_lmul C dL_now_60 ?_
        refine a_aload_n (i := 0) C dL_now_61 rfl rfl ?_
        refine a_iload_n (i := 3) C dL_now_62 rfl rfl ?_
        refine a_callSN (na := 2) C hN dL_now_63 ⟨tb776, tb23, tb777, ⟨by decide, by decide, by decide +kernel⟩⟩ tb775 (w_accrued hflags hbs hJ hq) rfl rfl (Nat.le_of_ble_eq_true rfl) ⟨Nat.le_of_ble_eq_true rfl, Nat.le_of_ble_eq_true rfl⟩ ⟨show k + 1 + 1 + 1 ≤ 144 by omega, show s9 + 6 + 6 + 6 ≤ 864 by omega⟩ (fun _ h => h.elim) xav_no (fun r63 hp63 hq63 => ?_)
        obtain ⟨rfl, jc63, jr63, rfl⟩ := pP_rd (v' := xac f g i) hq63 (xin_of hlt (by omega)) (by rw [nI_clamp (by omega)])
        refine a_ladd C dL_now_66 ?_
        refine a_ldc2 C dL_now_67 tb782 ?_
        refine a_aload_n (i := 0) C dL_now_70 rfl rfl ?_
        refine a_iload_n (i := 3) C dL_now_71 rfl rfl ?_
        refine a_callSN (na := 2) C hN dL_now_72 ⟨tb784, tb23, tb785, ⟨by decide, by decide, by decide +kernel⟩⟩ tb783 (w_level hflags hbs hJ hq) rfl rfl (Nat.le_of_ble_eq_true rfl) ⟨Nat.le_of_ble_eq_true rfl, Nat.le_of_ble_eq_true rfl⟩ ⟨show k + 1 + 1 + 1 + 1 ≤ 144 by omega, show s9 + 6 + 6 + 6 + 6 ≤ 864 by omega⟩ (fun _ h => h.elim) xav_no (fun r72 hp72 hq72 => ?_)
        obtain ⟨rfl, jc72, jr72, rfl⟩ := pP_rd (v' := f 17 i) hq72 (xin_of hlt (by omega)) (by rw [nI_clamp (by omega)])
        refine a_lmul C dL_now_75 ?_
        refine a_ladd C dL_now_76 ?_
        refine a_ldc2 C dL_now_77 tb790 ?_
        refine a_aload_n (i := 0) C dL_now_80 rfl rfl ?_
        refine a_iload_n (i := 3) C dL_now_81 rfl rfl ?_
        refine a_callSN (na := 2) C hN dL_now_82 ⟨tb753, tb23, tb754, ⟨by decide, by decide, by decide +kernel⟩⟩ tb752 (w_toReminder hflags hbs hJ hq) rfl rfl (Nat.le_of_ble_eq_true rfl) ⟨Nat.le_of_ble_eq_true rfl, Nat.le_of_ble_eq_true rfl⟩ ⟨show k + 1 + 1 + 1 + 1 + 1 ≤ 144 by omega, show s9 + 6 + 6 + 6 + 6 + 6 ≤ 864 by omega⟩ (fun _ h => h.elim) xav_no (fun r82 hp82 hq82 => ?_)
        obtain ⟨rfl, jc82, jr82, rfl⟩ := pP_rd (v' := xdr n f i) hq82 (xin_of hlt (by omega)) (by rw [nI_clamp (by omega)])
        refine a_lmul C dL_now_85 ?_
        refine a_ladd C dL_now_86 ?_
        refine a_lstore_n (i := 1) C dL_now_87 rfl (by decide) ?_
        refine a_iinc (i := 3) (v := nI (i + 1)) C dL_now_88 rfl (nI_1 i) (by decide) ?_
        refine a_goto (tgt := 28) C dL_now_91 (by decide) ?_
        refine a_loc [(0, .ref 0), (1, .long (yN1 n f g nc nl (i + 1))), (3, .int (nI (i + 1)))] (xsub_cons rfl (xsub_cons rfl (xsub_cons rfl xsub_nil))) ?_
        exact ih (i + 1) _ _ _ _ (by omega) (by omega) (by omega) (by omega)
  refine a_ldc2 C dL_now_0 tb770 ?_
  refine a_ldc2 C dL_now_3 tb770 ?_
  refine a_aload_n (i := 0) C dL_now_6 rfl rfl ?_
  refine a_callV C dL_now_7 cv_X6_today tb134 (k_today hflags) rfl rfl xC_0 rfl (Nat.le_of_ble_eq_true rfl) ⟨Nat.le_of_ble_eq_true rfl, Nat.le_of_ble_eq_true rfl⟩ ⟨Nat.le_of_ble_eq_true rfl, Nat.le_of_ble_eq_true rfl⟩ (fun _ h => h.elim) xav_no (fun _ _ h => h.elim) (fun r7 hp7 hq7 => ?_)
  obtain ⟨rfl, rfl⟩ := hq7
  refine a_i2l C dL_now_10 ?_
  refine a_lmul C dL_now_11 ?_
  refine a_aload_n (i := 0) C dL_now_12 rfl rfl ?_
  refine a_callV C dL_now_13 cv_X6_customers tb138 (k_customers hflags) rfl rfl xC_0 rfl (Nat.le_of_ble_eq_true rfl) ⟨Nat.le_of_ble_eq_true rfl, Nat.le_of_ble_eq_true rfl⟩ ⟨Nat.le_of_ble_eq_true rfl, Nat.le_of_ble_eq_true rfl⟩ (fun _ h => h.elim) xav_no (fun _ _ h => h.elim) (fun r13 hp13 hq13 => ?_)
  obtain ⟨rfl, rfl⟩ := hq13
  refine a_i2l C dL_now_16 ?_
  refine a_ladd C dL_now_17 ?_
  refine a_lmul C dL_now_18 ?_
  refine a_aload_n (i := 0) C dL_now_19 rfl rfl ?_
  refine a_callV C dL_now_20 cv_X6_ledgerLines tb771 (k_ledgerLines hflags) rfl rfl xC_0 rfl (Nat.le_of_ble_eq_true rfl) ⟨Nat.le_of_ble_eq_true rfl, Nat.le_of_ble_eq_true rfl⟩ ⟨Nat.le_of_ble_eq_true rfl, Nat.le_of_ble_eq_true rfl⟩ (fun _ h => h.elim) xav_no (fun _ _ h => h.elim) (fun r20 hp20 hq20 => ?_)
  obtain ⟨rfl, rfl⟩ := hq20
  refine a_i2l C dL_now_23 ?_
  refine a_ladd C dL_now_24 ?_
  refine a_lstore_n (i := 1) C dL_now_25 rfl (by decide) ?_
  refine a_iconst (v := 0) C dL_now_26 (by decide) ?_
  refine a_istore_n (i := 3) C dL_now_27 rfl (by decide) ?_
  refine a_loc [(0, .ref 0), (1, .long (yN1 n f g nc nl 0)), (3, .int (nI 0))] (xsub_cons rfl (xsub_cons rfl (xsub_cons rfl xsub_nil))) ?_
  exact loop1 (ni + 1) 0 0 0 jc jr (Nat.zero_le _) (by omega) (by omega) (by omega)
