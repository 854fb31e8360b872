/-- all clear amounts are disputed in part -/
def mDF (ni : Nat) (c a : Int32) (f : Nat → Nat → Int32) (g : Nat → Nat → Int64) : Nat → Nat → Int32 := fup f 25 (xspl ni c a f g).1
def xdis (F : Nat → Nat → Int32) : Nat → Int32 := fun j => F 14 j + F 25 j
def xcnt (F : Nat → Nat → Int32) : Nat → Int32 := fun j => if 0 < F 25 j then 1 else 0
def o_disputeAll (nc ni : Nat) (c a : Int32) (n : Nat → Int32) (f : Nat → Nat → Int32) (g : Nat → Nat → Int64) : Int32 × mS := if ¬ xin c nc then oNo 1 n f g else if a < 1 then oNo 2 n f g else if xall f c ni < a.toInt64 then oNo 3 n f g else (xsum (xcnt (mDF ni c a f g)) ni, nup n 0 0, fup (mDF ni c a f g) 14 (xpre (xdis (mDF ni c a f g)) (f 14) ni), gup g 26 (xspl ni c a f g).2)
set_option maxRecDepth 100000 in
set_option maxHeartbeats 4000000 in
theorem m_X7_disputeAll {l : Launch} {N0 : Nat} {D : va_G} {dT : Nat → ClassId} (hflags : l.stackTraces = false) {h : xH} {n : Nat → Int32} {f : Nat → Nat → Int32} {g : Nat → Nat → Int64} {nc ni np nl : Nat} (hI : xI n nc ni np nl) {c a : Int32} (hall : xin c nc → ∀ i, i < ni → ¬ xclr f c i = 0 → ¬ xall f c ni = 0)  : xMet l N0 D dT yX7_disputeAll cX7_disputeAll 5 (some FieldType.int) 3 0 0 [.ref 200, .int c, .int a] (xM h n f g) xNo (mP h (o_disputeAll nc ni c a n f g)) xNX := by
  refine xMet_of hflags (by decide +kernel) (fun _ _ h => h) (Nat.le_of_ble_eq_true rfl) ?_
  intro E C I hret hthr
  refine a_loc [(0, .ref 200), (1, .int c), (2, .int a)] (xsub_cons rfl (xsub_cons rfl (xsub_cons rfl (xsub_nil)))) ?_
  obtain ⟨hc, hi, hpy, hln, hc6, hi24, hp24, hlm⟩ := id hI
  refine a_aload_n (i := 0) C dX7_disputeAll_0 rfl rfl ?_
  refine a_aload_n (i := 0) C dX7_disputeAll_1 rfl rfl ?_
  refine a_iload_n (i := 1) C dX7_disputeAll_2 rfl rfl ?_
  refine a_callV C dX7_disputeAll_3 cv_X7_isCustomer tb1040 (m_X7_isCustomer hflags hI) rfl rfl xM_0 rfl (Nat.le_of_ble_eq_true rfl) ⟨Nat.le_of_ble_eq_true rfl, Nat.le_of_ble_eq_true rfl⟩ ⟨Nat.le_of_ble_eq_true rfl, Nat.le_of_ble_eq_true rfl⟩ (fun _ h => h.elim) xav_no (fun _ _ h => h.elim) (fun r3 hp3 hq3 => ?_)
  obtain ⟨rfl, rfl⟩ := hq3
  refine a_if_ne (tgt := 13) C dX7_disputeAll_6 (by decide) (fun c6 => ?_) (fun c6 => ?_)
  · have e6 := bn c6
    refine a_iload_n (i := 2) C dX7_disputeAll_13 rfl rfl ?_
    refine a_iconst (v := 1) C dX7_disputeAll_14 (by decide) ?_
    refine a_icmp_ge (tgt := 22) C dX7_disputeAll_15 (by decide) (fun c15 => ?_) (fun c15 => ?_)
    · refine a_iload_n (i := 2) C dX7_disputeAll_22 rfl rfl ?_
      refine a_i2l C dX7_disputeAll_23 ?_
      refine a_aload_n (i := 0) C dX7_disputeAll_24 rfl rfl ?_
      refine a_iload_n (i := 1) C dX7_disputeAll_25 rfl rfl ?_
      refine a_callV C dX7_disputeAll_26 cv_X7_clearOf tb1117 (m_X7_clearOf hflags hI) rfl rfl xM_0 rfl (Nat.le_of_ble_eq_true rfl) ⟨Nat.le_of_ble_eq_true rfl, Nat.le_of_ble_eq_true rfl⟩ ⟨Nat.le_of_ble_eq_true rfl, Nat.le_of_ble_eq_true rfl⟩ (fun _ h => h.elim) xav_no (fun _ _ h => h.elim) (fun r26 hp26 hq26 => ?_)
      obtain ⟨rfl, rfl⟩ := hq26
      refine a_lcmp C dX7_disputeAll_29 ?_
      refine a_if_le (tgt := 37) C dX7_disputeAll_30 (by decide) (fun c30 => ?_) (fun c30 => ?_)
      · refine a_iconst (v := 0) C dX7_disputeAll_37 (by decide) ?_
        refine a_callV C dX7_disputeAll_38 cv_X7_refused tb1032 (m_X7_refused0 hflags) rfl rfl xM_0 rfl (Nat.le_of_ble_eq_true rfl) ⟨Nat.le_of_ble_eq_true rfl, Nat.le_of_ble_eq_true rfl⟩ ⟨Nat.le_of_ble_eq_true rfl, Nat.le_of_ble_eq_true rfl⟩ (fun _ h => h.elim) xav_no (fun _ _ h => h.elim) (fun r38 hp38 hq38 => ?_)
        obtain ⟨rfl, rfl⟩ := hq38
        refine a_if_eq (tgt := 46) C dX7_disputeAll_41 (by decide) (fun _ => ?_) (fun z => absurd (by decide) z)
        have loop : ∀ (k i : Nat), i ≤ ni → ni < i + k → aW E 0 0 (xM h (nup n 0 0) (fup (mDF ni c a f g) 14 (xpre (xdis (mDF ni c a f g)) (f 14) i)) (gup g 26 (xspl ni c a f g).2)) 57 [(0, .ref 200), (3, .int (xsum (xcnt (mDF ni c a f g)) i)), (4, .int (nI i))] [] := by
          intro k
          induction k with
          | zero => intro i h1 h2; exact absurd h2 (by omega)
          | succ k ih =>
            intro i h1 h2
            refine a_iload (i := 4) C dX7_disputeAll_57 rfl ?_
            refine a_aload_n (i := 0) C dX7_disputeAll_59 rfl rfl ?_
            refine a_get C dX7_disputeAll_60 fl_X7_86 xM_0 (by first | exact congrArg (fun z => some (Value.int z)) hi | rfl) ?_
            refine a_icmp_ge (tgt := 107) C dX7_disputeAll_63 (by decide) (fun c63 => ?_) (fun c63 => ?_)
            · have hie : i = ni := by
                have := (xle (by omega) (by omega)).mp c63
                omega
              rw [hie]
              refine a_iload_n (i := 3) C dX7_disputeAll_107 rfl rfl ?_
              exact a_iret C dX7_disputeAll_108 (Nat.le_of_ble_eq_true rfl) (Nat.le_of_ble_eq_true rfl) (hret _ _ (by unfold mP o_disputeAll; first | (rw [if_pos e6]; exact ⟨rfl, rfl⟩) | (rw [if_neg (fun z => z e6), if_pos (Int32.not_le.mp c15)]; exact ⟨rfl, rfl⟩) | (rw [if_neg (fun z => z e6), if_neg (Int32.not_lt.mpr c15), if_pos (show xall f c ni < a.toInt64 from Classical.not_not.mp (fun z => c30 (lcmp_le.mpr z)))]; exact ⟨rfl, rfl⟩) | (rw [if_neg (fun z => z e6), if_neg (Int32.not_lt.mpr c15), if_neg (show ¬ xall f c ni < a.toInt64 from lcmp_le.mp c30)]; exact ⟨rfl, rfl⟩)))
            · have hlt : i < ni := by
                rcases Nat.lt_or_ge i ni with q | q
                · exact q
                · exact absurd ((xle (by omega) (by omega)).mpr q) c63
              refine a_aload_n (i := 0) C dX7_disputeAll_66 rfl rfl ?_
              refine a_get C dX7_disputeAll_67 fl_X7_34 xM_0 rfl ?_
              refine a_iload (i := 4) C dX7_disputeAll_70 rfl ?_
              refine a_dup2 C dX7_disputeAll_72 rfl rfl ?_
              refine a_ialdV C (f 14 i) dX7_disputeAll_73 xM_14 ⟨by omega, by omega⟩ (xpre_ge (Nat.le_refl i)) ?_
              refine a_aload_n (i := 0) C dX7_disputeAll_74 rfl rfl ?_
              refine a_get C dX7_disputeAll_75 fl_X7_69 xM_0 rfl ?_
              refine a_iload (i := 4) C dX7_disputeAll_78 rfl ?_
              refine a_ialdI C dX7_disputeAll_80 xM_25 ⟨by omega, by omega⟩ ?_
              refine a_iadd C dX7_disputeAll_81 ?_
              refine a_top (xdis (mDF ni c a f g) i) rfl ?_
              refine a_iastI C dX7_disputeAll_82 xM_14 ⟨by omega, by omega⟩ ?_
              refine a_hp xMw_14 ?_
              refine a_hp (show _ = xM h (nup n 0 0) (fup (mDF ni c a f g) 14 (xpre (xdis (mDF ni c a f g)) (f 14) (i + 1))) (gup g 26 (xspl ni c a f g).2) by rw [fup_ff]; exact congrArg (fun z => xM h (nup n 0 0) (fup (mDF ni c a f g) 14 z) _) xpre_s) ?_
              refine a_iload_n (i := 3) C dX7_disputeAll_83 rfl rfl ?_
              refine a_aload_n (i := 0) C dX7_disputeAll_84 rfl rfl ?_
              refine a_get C dX7_disputeAll_85 fl_X7_69 xM_0 rfl ?_
              refine a_iload (i := 4) C dX7_disputeAll_88 rfl ?_
              refine a_ialdI C dX7_disputeAll_90 xM_25 ⟨by omega, by omega⟩ ?_
              refine a_if_le (tgt := 98) C dX7_disputeAll_91 (by decide) (fun c91 => ?_) (fun c91 => ?_)
              · refine a_iconst (v := 0) C dX7_disputeAll_98 (by decide) ?_
                refine a_iadd C dX7_disputeAll_99 ?_
                refine a_top (xsum (xcnt (mDF ni c a f g)) (i + 1)) (by show _ = xsum (xcnt (mDF ni c a f g)) i + (if 0 < (mDF ni c a f g) 25 i then (1 : Int32) else 0); first | (rw [if_pos (show 0 < (mDF ni c a f g) 25 i from Int32.not_le.mp c91)]; done) | (rw [if_neg (show ¬ 0 < (mDF ni c a f g) 25 i from Int32.not_lt.mpr c91)]; done)) ?_
                refine a_istore_n (i := 3) C dX7_disputeAll_100 rfl (by decide) ?_
                refine a_iinc (i := 4) (v := nI (i + 1)) C dX7_disputeAll_101 rfl (nI_1 i) (by decide) ?_
                refine a_goto (tgt := 57) C dX7_disputeAll_104 (by decide) ?_
                refine a_loc _ ?_ (ih (i + 1) (by omega) (by omega))
                exact xsub_cons rfl (xsub_cons rfl (xsub_cons rfl (xsub_nil)))
              · refine a_iconst (v := 1) C dX7_disputeAll_94 (by decide) ?_
                refine a_goto (tgt := 99) C dX7_disputeAll_95 (by decide) ?_
                refine a_iadd C dX7_disputeAll_99 ?_
                refine a_top (xsum (xcnt (mDF ni c a f g)) (i + 1)) (by show _ = xsum (xcnt (mDF ni c a f g)) i + (if 0 < (mDF ni c a f g) 25 i then (1 : Int32) else 0); first | (rw [if_pos (show 0 < (mDF ni c a f g) 25 i from Int32.not_le.mp c91)]; done) | (rw [if_neg (show ¬ 0 < (mDF ni c a f g) 25 i from Int32.not_lt.mpr c91)]; done)) ?_
                refine a_istore_n (i := 3) C dX7_disputeAll_100 rfl (by decide) ?_
                refine a_iinc (i := 4) (v := nI (i + 1)) C dX7_disputeAll_101 rfl (nI_1 i) (by decide) ?_
                refine a_goto (tgt := 57) C dX7_disputeAll_104 (by decide) ?_
                refine a_loc _ ?_ (ih (i + 1) (by omega) (by omega))
                exact xsub_cons rfl (xsub_cons rfl (xsub_cons rfl (xsub_nil)))
        refine a_aload_n (i := 0) C dX7_disputeAll_46 rfl rfl ?_
        refine a_iload_n (i := 1) C dX7_disputeAll_47 rfl rfl ?_
        refine a_iload_n (i := 2) C dX7_disputeAll_48 rfl rfl ?_
        refine a_callV C dX7_disputeAll_49 cv_X7_split tb1121 (m_X7_split hflags (xI_0 hI) (hall e6)) rfl rfl xM_0 rfl (Nat.le_of_ble_eq_true rfl) ⟨Nat.le_of_ble_eq_true rfl, Nat.le_of_ble_eq_true rfl⟩ ⟨Nat.le_of_ble_eq_true rfl, Nat.le_of_ble_eq_true rfl⟩ (fun _ h => h.elim) xav_no (fun _ _ h => h.elim) (fun r49 hp49 hq49 => ?_)
        obtain ⟨rfl, rfl⟩ := hq49
        refine a_iconst (v := 0) C dX7_disputeAll_52 (by decide) ?_
        refine a_istore_n (i := 3) C dX7_disputeAll_53 rfl (by decide) ?_
        refine a_iconst (v := 0) C dX7_disputeAll_54 (by decide) ?_
        refine a_istore (i := 4) C dX7_disputeAll_55 (by decide) ?_
        refine a_hp (show _ = xM h (nup n 0 0) (fup (mDF ni c a f g) 14 (xpre (xdis (mDF ni c a f g)) (f 14) 0)) (gup g 26 (xspl ni c a f g).2) by rw [xpre_0, show f 14 = (mDF ni c a f g) 14 from rfl, fup_id]; try rfl) ?_
        refine a_loc _ ?_ (loop (ni + 1) 0 (Nat.zero_le _) (by omega))
        exact xsub_cons rfl (xsub_cons rfl (xsub_cons rfl (xsub_nil)))
      · refine a_iconst (v := 3) C dX7_disputeAll_33 (by decide) ?_
        refine a_goto (tgt := 38) C dX7_disputeAll_34 (by decide) ?_
        refine a_callV C dX7_disputeAll_38 cv_X7_refused tb1032 (m_X7_refused1 hflags (by decide)) rfl rfl xM_0 rfl (Nat.le_of_ble_eq_true rfl) ⟨Nat.le_of_ble_eq_true rfl, Nat.le_of_ble_eq_true rfl⟩ ⟨Nat.le_of_ble_eq_true rfl, Nat.le_of_ble_eq_true rfl⟩ (fun _ h => h.elim) xav_no (fun _ _ h => h.elim) (fun r38 hp38 hq38 => ?_)
        obtain ⟨rfl, rfl⟩ := hq38
        refine a_if_eq (tgt := 46) C dX7_disputeAll_41 (by decide) (fun z => absurd z (by decide)) (fun _ => ?_)
        refine a_iconst (v := 0) C dX7_disputeAll_44 (by decide) ?_
        exact a_iret C dX7_disputeAll_45 (Nat.le_of_ble_eq_true rfl) (Nat.le_of_ble_eq_true rfl) (hret _ _ (by unfold mP o_disputeAll; first | (rw [if_pos e6]; exact ⟨rfl, rfl⟩) | (rw [if_neg (fun z => z e6), if_pos (Int32.not_le.mp c15)]; exact ⟨rfl, rfl⟩) | (rw [if_neg (fun z => z e6), if_neg (Int32.not_lt.mpr c15), if_pos (show xall f c ni < a.toInt64 from Classical.not_not.mp (fun z => c30 (lcmp_le.mpr z)))]; exact ⟨rfl, rfl⟩) | (rw [if_neg (fun z => z e6), if_neg (Int32.not_lt.mpr c15), if_neg (show ¬ xall f c ni < a.toInt64 from lcmp_le.mp c30)]; exact ⟨rfl, rfl⟩)))
    · refine a_iconst (v := 2) C dX7_disputeAll_18 (by decide) ?_
      refine a_goto (tgt := 38) C dX7_disputeAll_19 (by decide) ?_
      refine a_callV C dX7_disputeAll_38 cv_X7_refused tb1032 (m_X7_refused1 hflags (by decide)) rfl rfl xM_0 rfl (Nat.le_of_ble_eq_true rfl) ⟨Nat.le_of_ble_eq_true rfl, Nat.le_of_ble_eq_true rfl⟩ ⟨Nat.le_of_ble_eq_true rfl, Nat.le_of_ble_eq_true rfl⟩ (fun _ h => h.elim) xav_no (fun _ _ h => h.elim) (fun r38 hp38 hq38 => ?_)
      obtain ⟨rfl, rfl⟩ := hq38
      refine a_if_eq (tgt := 46) C dX7_disputeAll_41 (by decide) (fun z => absurd z (by decide)) (fun _ => ?_)
      refine a_iconst (v := 0) C dX7_disputeAll_44 (by decide) ?_
      exact a_iret C dX7_disputeAll_45 (Nat.le_of_ble_eq_true rfl) (Nat.le_of_ble_eq_true rfl) (hret _ _ (by unfold mP o_disputeAll; first | (rw [if_pos e6]; exact ⟨rfl, rfl⟩) | (rw [if_neg (fun z => z e6), if_pos (Int32.not_le.mp c15)]; exact ⟨rfl, rfl⟩) | (rw [if_neg (fun z => z e6), if_neg (Int32.not_lt.mpr c15), if_pos (show xall f c ni < a.toInt64 from Classical.not_not.mp (fun z => c30 (lcmp_le.mpr z)))]; exact ⟨rfl, rfl⟩) | (rw [if_neg (fun z => z e6), if_neg (Int32.not_lt.mpr c15), if_neg (show ¬ xall f c ni < a.toInt64 from lcmp_le.mp c30)]; exact ⟨rfl, rfl⟩)))
  · have e6 := b0 c6
    refine a_iconst (v := 1) C dX7_disputeAll_9 (by decide) ?_
    refine a_goto (tgt := 38) C dX7_disputeAll_10 (by decide) ?_
    refine a_callV C dX7_disputeAll_38 cv_X7_refused tb1032 (m_X7_refused1 hflags (by decide)) rfl rfl xM_0 rfl (Nat.le_of_ble_eq_true rfl) ⟨Nat.le_of_ble_eq_true rfl, Nat.le_of_ble_eq_true rfl⟩ ⟨Nat.le_of_ble_eq_true rfl, Nat.le_of_ble_eq_true rfl⟩ (fun _ h => h.elim) xav_no (fun _ _ h => h.elim) (fun r38 hp38 hq38 => ?_)
    obtain ⟨rfl, rfl⟩ := hq38
    refine a_if_eq (tgt := 46) C dX7_disputeAll_41 (by decide) (fun z => absurd z (by decide)) (fun _ => ?_)
    refine a_iconst (v := 0) C dX7_disputeAll_44 (by decide) ?_
    exact a_iret C dX7_disputeAll_45 (Nat.le_of_ble_eq_true rfl) (Nat.le_of_ble_eq_true rfl) (hret _ _ (by unfold mP o_disputeAll; first | (rw [if_pos e6]; exact ⟨rfl, rfl⟩) | (rw [if_neg (fun z => z e6), if_pos (Int32.not_le.mp c15)]; exact ⟨rfl, rfl⟩) | (rw [if_neg (fun z => z e6), if_neg (Int32.not_lt.mpr c15), if_pos (show xall f c ni < a.toInt64 from Classical.not_not.mp (fun z => c30 (lcmp_le.mpr z)))]; exact ⟨rfl, rfl⟩) | (rw [if_neg (fun z => z e6), if_neg (Int32.not_lt.mpr c15), if_neg (show ¬ xall f c ni < a.toInt64 from lcmp_le.mp c30)]; exact ⟨rfl, rfl⟩)))
/-- the accrued interest of a customer's invoices; what is charged is taken off -/
def xacs (f : Nat → Nat → Int32) (g : Nat → Nat → Int64) (c : Int32) : Nat → Int32 := fun j => if f 10 j = c then xac f g j else 0
def xdrp (f : Nat → Nat → Int32) (g : Nat → Nat → Int64) (c : Int32) : Nat → Int64 := fun j => g 15 j - (if f 10 j = c then (xac f g j).toInt64 * xun (f 7 c.toNatClampNeg) else 0)
def o_charge (nc ni nl : Nat) (c t : Int32) (n : Nat → Int32) (f : Nat → Nat → Int32) (g : Nat → Nat → Int64) : Int32 × mS := if ¬ xin c nc then oNo 1 n f g else if ¬ xokD t then oNo 2 n f g else if 0 < xsum (xacs f g c) ni ∧ ni = 24 then oNo 3 n f g else if xsum (xacs f g c) ni = 0 then (-1, nup n 0 0, f, g) else (nI ni, mEn ni nl (xsum (xacs f g c) ni) (nup n 0 0), mEf ni nl c (xsum (xacs f g c) ni) t 1 n f, gup g 15 (xpreL (xdrp f g c) (g 15) ni))
theorem xpreL_ge {t o : Nat → Int64} {i j : Nat} (h : i ≤ j) : xpreL t o i j = o j := if_neg (by omega)
set_option maxRecDepth 100000 in
set_option maxHeartbeats 4000000 in
theorem m_X7_chargeInterest {l : Launch} {N0 : Nat} {D : va_G} {dT : Nat → ClassId} (hflags : l.stackTraces = false) {h : xH} {n : Nat → Int32} {f : Nat → Nat → Int32} {g : Nat → Nat → Int64} {nc ni np nl : Nat} (hI : xI n nc ni np nl) {c t : Int32} (hl : nl < 16000) (hO : ∀ i, i < ni → ∃ k, k < 6 ∧ f 10 i = nI k) (hsum : xin c nc → 0 ≤ xsum (xacs f g c) ni)  : xMet l N0 D dT yX7_chargeInterest cX7_chargeInterest 6 (some FieldType.int) 3 0 0 [.ref 200, .int c, .int t] (xM h n f g) xNo (mP h (o_charge nc ni nl c t n f g)) xNX := by
  refine xMet_of hflags (by decide +kernel) (fun _ _ h => h) (Nat.le_of_ble_eq_true rfl) ?_
  intro E C I hret hthr
  refine a_loc [(0, .ref 200), (1, .int c), (2, .int t)] (xsub_cons rfl (xsub_cons rfl (xsub_cons rfl (xsub_nil)))) ?_
  obtain ⟨hc, hi, hpy, hln, hc6, hi24, hp24, hlm⟩ := id hI
  have sec : ∀ s : Int32, (xin c nc → s = xsum (xacs f g c) ni) → aW E 0 0 (xM h n f g) 63 [(0, .ref 200), (1, .int c), (2, .int t), (3, .int (bI (0 ≤ t ∧ t ≤ 120))), (4, .int s)] [] := by
    intro s hs
    refine a_aload_n (i := 0) C dX7_chargeInterest_63 rfl rfl ?_
    refine a_aload_n (i := 0) C dX7_chargeInterest_64 rfl rfl ?_
    refine a_iload_n (i := 1) C dX7_chargeInterest_65 rfl rfl ?_
    refine a_callV C dX7_chargeInterest_66 cv_X7_isCustomer tb1040 (m_X7_isCustomer hflags hI) rfl rfl xM_0 rfl (Nat.le_of_ble_eq_true rfl) ⟨Nat.le_of_ble_eq_true rfl, Nat.le_of_ble_eq_true rfl⟩ ⟨Nat.le_of_ble_eq_true rfl, Nat.le_of_ble_eq_true rfl⟩ (fun _ h => h.elim) xav_no (fun _ _ h => h.elim) (fun r66 hp66 hq66 => ?_)
    obtain ⟨rfl, rfl⟩ := hq66
    refine a_if_ne (tgt := 76) C dX7_chargeInterest_69 (by decide) (fun c69 => ?_) (fun c69 => ?_)
    · have e6 := bn c69
      obtain rfl := hs e6
      refine a_iload_n (i := 3) C dX7_chargeInterest_76 rfl rfl ?_
      refine a_if_ne (tgt := 84) C dX7_chargeInterest_77 (by decide) (fun c77 => ?_) (fun c77 => ?_)
      · have e7 := bn c77
        refine a_iload (i := 4) C dX7_chargeInterest_84 rfl ?_
        refine a_if_le (tgt := 102) C dX7_chargeInterest_86 (by decide) (fun c86 => ?_) (fun c86 => ?_)
        · have e8 : ¬ (0 < xsum (xacs f g c) ni ∧ ni = 24) := fun z => by
            first
            | exact absurd z.1 (Int32.not_lt.mpr c86)
            | exact c95 (by rw [z.2]; rfl)
          refine a_iconst (v := 0) C dX7_chargeInterest_102 (by decide) ?_
          refine a_callV C dX7_chargeInterest_103 cv_X7_refused tb1032 (m_X7_refused0 hflags) rfl rfl xM_0 rfl (Nat.le_of_ble_eq_true rfl) ⟨Nat.le_of_ble_eq_true rfl, Nat.le_of_ble_eq_true rfl⟩ ⟨Nat.le_of_ble_eq_true rfl, Nat.le_of_ble_eq_true rfl⟩ (fun _ h => h.elim) xav_no (fun _ _ h => h.elim) (fun r103 hp103 hq103 => ?_)
          obtain ⟨rfl, rfl⟩ := hq103
          refine a_if_eq (tgt := 111) C dX7_chargeInterest_106 (by decide) (fun _ => ?_) (fun z => absurd (by decide) z)
          refine a_iload (i := 4) C dX7_chargeInterest_111 rfl ?_
          refine a_if_ne (tgt := 118) C dX7_chargeInterest_113 (by decide) (fun c113 => ?_) (fun c113 => ?_)
          · have e9 : 0 < xsum (xacs f g c) ni := Int32.lt_of_le_of_ne (hsum e6) (fun z => c113 z.symm)
            have e10 : ni < 24 := by
              rcases Nat.lt_or_ge ni 24 with q | q
              · exact q
              · exact absurd ⟨e9, by omega⟩ e8
            have loop2 : ∀ (k i : Nat) (hxc : xin c nc), i ≤ ni → ni < i + k → aW E 0 0 (xM h (nup n 0 0) f (gup g 15 (xpreL (xdrp f g c) (g 15) i))) 121 [(0, .ref 200), (1, .int c), (2, .int t), (4, .int (xsum (xacs f g c) ni)), (5, .int (nI i))] [] := by
              intro k
              induction k with
              | zero => intro i hxc h1 h2; exact absurd h2 (by omega)
              | succ k ih =>
                intro i hxc h1 h2
                refine a_iload (i := 5) C dX7_chargeInterest_121 rfl ?_
                refine a_aload_n (i := 0) C dX7_chargeInterest_123 rfl rfl ?_
                refine a_get C dX7_chargeInterest_124 fl_X7_86 xM_0 (by first | exact congrArg (fun z => some (Value.int z)) hi | rfl) ?_
                refine a_icmp_ge (tgt := 178) C dX7_chargeInterest_127 (by decide) (fun c127 => ?_) (fun c127 => ?_)
                · refine a_aload_n (i := 0) C dX7_chargeInterest_178 rfl rfl ?_
                  refine a_iload_n (i := 1) C dX7_chargeInterest_179 rfl rfl ?_
                  refine a_iload (i := 4) C dX7_chargeInterest_180 rfl ?_
                  refine a_iload_n (i := 2) C dX7_chargeInterest_182 rfl rfl ?_
                  refine a_iconst (v := 1) C dX7_chargeInterest_183 (by decide) ?_
                  refine a_callV C dX7_chargeInterest_184 cv_X7_post tb1097 (m_X7_post hflags (xI_0 hI) hl e10 rfl) rfl rfl xM_0 rfl (Nat.le_of_ble_eq_true rfl) ⟨Nat.le_of_ble_eq_true rfl, Nat.le_of_ble_eq_true rfl⟩ ⟨Nat.le_of_ble_eq_true rfl, Nat.le_of_ble_eq_true rfl⟩ (fun _ h => h.elim) xav_no (fun _ _ h => h.elim) (fun r184 hp184 hq184 => ?_)
                  obtain ⟨rfl, rfl⟩ := hq184
                  exact a_iret C dX7_chargeInterest_187 (Nat.le_of_ble_eq_true rfl) (Nat.le_of_ble_eq_true rfl) (hret _ _ (by unfold mP o_charge; first | (rw [if_pos e6]; exact ⟨rfl, rfl⟩) | (rw [if_neg (fun z => z e6), if_pos e7]; exact ⟨rfl, rfl⟩) | (rw [if_neg (fun z => z e6), if_neg (fun z => z e7), if_pos e8]; exact ⟨rfl, rfl⟩) | (rw [if_neg (fun z => z e6), if_neg (fun z => z e7), if_neg e8, if_pos c113]; exact ⟨rfl, rfl⟩) | (rw [if_neg (fun z => z e6), if_neg (fun z => z e7), if_neg e8, if_neg c113, show i = ni by (have := (xle (by omega) (by omega)).mp c127; omega)]; exact ⟨rfl, rfl⟩)))
                · have hlt : i < ni := by
                    rcases Nat.lt_or_ge i ni with q | q
                    · exact q
                    · exact absurd ((xle (by omega) (by omega)).mpr q) c127
                  obtain ⟨kk9, hk9, hok9⟩ := hO i hlt
                  obtain ⟨w9, hw9, rfl⟩ := xin_nI hxc (by omega)
                  refine a_aload_n (i := 0) C dX7_chargeInterest_130 rfl rfl ?_
                  refine a_get C dX7_chargeInterest_131 fl_X7_37 xM_0 rfl ?_
                  refine a_iload (i := 5) C dX7_chargeInterest_134 rfl ?_
                  refine a_dup2 C dX7_chargeInterest_136 rfl rfl ?_
                  refine a_laldV C (g 15 i) dX7_chargeInterest_137 xM_15 ⟨by omega, by omega⟩ (xpreL_ge (Nat.le_refl i)) ?_
                  refine a_aload_n (i := 0) C dX7_chargeInterest_138 rfl rfl ?_
                  refine a_get C dX7_chargeInterest_139 fl_X7_22 xM_0 rfl ?_
                  refine a_iload (i := 5) C dX7_chargeInterest_142 rfl ?_
                  refine a_ialdI C dX7_chargeInterest_144 xM_10 ⟨by omega, by omega⟩ ?_
                  refine a_iload_n (i := 1) C dX7_chargeInterest_145 rfl rfl ?_
                  refine a_icmp_ne (tgt := 169) C dX7_chargeInterest_146 (by decide) (fun c146 => ?_) (fun c146 => ?_)
                  · refine a_lconst (v := 0) C dX7_chargeInterest_169 (by decide) ?_
                    refine a_lsub C dX7_chargeInterest_170 ?_
                    refine a_topl (xdrp f g (nI w9) i) (by unfold xdrp; first | (rw [if_pos c146, nI_clamp (by omega)]; rfl) | (rw [if_neg c146]; done)) ?_
                    refine a_lastI C dX7_chargeInterest_171 xM_15 ⟨by omega, by omega⟩ ?_
                    refine a_hp xMw_15 ?_
                    refine a_hp (show _ = xM h (nup n 0 0) f (gup g 15 (xpreL (xdrp f g (nI w9)) (g 15) (i + 1))) by rw [gup_gg]; exact congrArg (fun z => xM h (nup n 0 0) f (gup g 15 z)) xpreL_s) ?_
                    refine a_iinc (i := 5) (v := nI (i + 1)) C dX7_chargeInterest_172 rfl (nI_1 i) (by decide) ?_
                    refine a_goto (tgt := 121) C dX7_chargeInterest_175 (by decide) ?_
                    refine a_loc _ ?_ (ih (i + 1) hxc (by omega) (by omega))
                    exact xsub_cons rfl (xsub_cons rfl (xsub_cons rfl (xsub_cons rfl (xsub_cons rfl (xsub_nil)))))
                  · refine a_aload_n (i := 0) C dX7_chargeInterest_149 rfl rfl ?_
                    refine a_iload (i := 5) C dX7_chargeInterest_150 rfl ?_
                    refine a_callV C dX7_chargeInterest_152 cv_X7_accruedOf tb1181 (m_X7_accruedOf hflags (i := i) (k := kk9) (by omega) hk9 hok9) rfl rfl xM_0 rfl (Nat.le_of_ble_eq_true rfl) ⟨Nat.le_of_ble_eq_true rfl, Nat.le_of_ble_eq_true rfl⟩ ⟨Nat.le_of_ble_eq_true rfl, Nat.le_of_ble_eq_true rfl⟩ (fun _ h => h.elim) xav_no (fun _ _ h => h.elim) (fun r152 hp152 hq152 => ?_)
                    obtain ⟨rfl, rfl⟩ := hq152
                    refine a_top (xac f g i) (by unfold xac; rw [show (gup g 15 (xpreL (xdrp f g (nI w9)) (g 15) i)) 15 i = g 15 i from xpreL_ge (Nat.le_refl i)]) ?_
                    refine a_i2l C dX7_chargeInterest_155 ?_
                    refine a_aload_n (i := 0) C dX7_chargeInterest_156 rfl rfl ?_
                    refine a_get C dX7_chargeInterest_157 fl_X7_13 xM_0 rfl ?_
                    refine a_iload_n (i := 1) C dX7_chargeInterest_160 rfl rfl ?_
                    refine a_ialdI C dX7_chargeInterest_161 xM_7 ⟨by omega, by omega⟩ ?_
                    refine a_callS C dX7_chargeInterest_162 cs_X7_unit tb1185 (m_X7_unit hflags) rfl rfl (Nat.le_of_ble_eq_true rfl) ⟨Nat.le_of_ble_eq_true rfl, Nat.le_of_ble_eq_true rfl⟩ ⟨Nat.le_of_ble_eq_true rfl, Nat.le_of_ble_eq_true rfl⟩ (fun _ h => h.elim) xav_no (fun _ _ h => h.elim) (fun r162 hp162 hq162 => ?_)
                    obtain ⟨rfl, rfl⟩ := hq162
                    refine a_lmul C dX7_chargeInterest_165 ?_
                    refine a_goto (tgt := 170) C dX7_chargeInterest_166 (by decide) ?_
                    refine a_lsub C dX7_chargeInterest_170 ?_
                    refine a_topl (xdrp f g (nI w9) i) (by unfold xdrp; first | (rw [if_pos c146, nI_clamp (by omega)]; rfl) | (rw [if_neg c146]; done)) ?_
                    refine a_lastI C dX7_chargeInterest_171 xM_15 ⟨by omega, by omega⟩ ?_
                    refine a_hp xMw_15 ?_
                    refine a_hp (show _ = xM h (nup n 0 0) f (gup g 15 (xpreL (xdrp f g (nI w9)) (g 15) (i + 1))) by rw [gup_gg]; exact congrArg (fun z => xM h (nup n 0 0) f (gup g 15 z)) xpreL_s) ?_
                    refine a_iinc (i := 5) (v := nI (i + 1)) C dX7_chargeInterest_172 rfl (nI_1 i) (by decide) ?_
                    refine a_goto (tgt := 121) C dX7_chargeInterest_175 (by decide) ?_
                    refine a_loc _ ?_ (ih (i + 1) hxc (by omega) (by omega))
                    exact xsub_cons rfl (xsub_cons rfl (xsub_cons rfl (xsub_cons rfl (xsub_cons rfl (xsub_nil)))))
            refine a_iconst (v := 0) C dX7_chargeInterest_118 (by decide) ?_
            refine a_istore (i := 5) C dX7_chargeInterest_119 (by decide) ?_
            refine a_hp (show _ = xM h (nup n 0 0) f (gup g 15 (xpreL (xdrp f g c) (g 15) 0)) by rw [xpreL_0, gup_id]) ?_
            refine a_loc _ ?_ (loop2 (ni + 1) 0 e6 (Nat.zero_le _) (by omega))
            exact xsub_cons rfl (xsub_cons rfl (xsub_cons rfl (xsub_cons rfl (xsub_cons rfl (xsub_nil)))))
          · refine a_iconst (v := (-1)) C dX7_chargeInterest_116 (by decide) ?_
            exact a_iret C dX7_chargeInterest_117 (Nat.le_of_ble_eq_true rfl) (Nat.le_of_ble_eq_true rfl) (hret _ _ (by unfold mP o_charge; first | (rw [if_pos e6]; exact ⟨rfl, rfl⟩) | (rw [if_neg (fun z => z e6), if_pos e7]; exact ⟨rfl, rfl⟩) | (rw [if_neg (fun z => z e6), if_neg (fun z => z e7), if_pos e8]; exact ⟨rfl, rfl⟩) | (rw [if_neg (fun z => z e6), if_neg (fun z => z e7), if_neg e8, if_pos c113]; exact ⟨rfl, rfl⟩) | (rw [if_neg (fun z => z e6), if_neg (fun z => z e7), if_neg e8, if_neg c113, show i = ni by (have := (xle (by omega) (by omega)).mp c127; omega)]; exact ⟨rfl, rfl⟩)))
        · refine a_aload_n (i := 0) C dX7_chargeInterest_89 rfl rfl ?_
          refine a_get C dX7_chargeInterest_90 fl_X7_86 xM_0 (by first | exact congrArg (fun z => some (Value.int z)) hi | rfl) ?_
          refine a_bipush (v := 24) C dX7_chargeInterest_93 (by decide) ?_
          refine a_icmp_ne (tgt := 102) C dX7_chargeInterest_95 (by decide) (fun c95 => ?_) (fun c95 => ?_)
          · have e8 : ¬ (0 < xsum (xacs f g c) ni ∧ ni = 24) := fun z => by
              first
              | exact absurd z.1 (Int32.not_lt.mpr c86)
              | exact c95 (by rw [z.2]; rfl)
            refine a_iconst (v := 0) C dX7_chargeInterest_102 (by decide) ?_
            refine a_callV C dX7_chargeInterest_103 cv_X7_refused tb1032 (m_X7_refused0 hflags) rfl rfl xM_0 rfl (Nat.le_of_ble_eq_true rfl) ⟨Nat.le_of_ble_eq_true rfl, Nat.le_of_ble_eq_true rfl⟩ ⟨Nat.le_of_ble_eq_true rfl, Nat.le_of_ble_eq_true rfl⟩ (fun _ h => h.elim) xav_no (fun _ _ h => h.elim) (fun r103 hp103 hq103 => ?_)
            obtain ⟨rfl, rfl⟩ := hq103
            refine a_if_eq (tgt := 111) C dX7_chargeInterest_106 (by decide) (fun _ => ?_) (fun z => absurd (by decide) z)
            refine a_iload (i := 4) C dX7_chargeInterest_111 rfl ?_
            refine a_if_ne (tgt := 118) C dX7_chargeInterest_113 (by decide) (fun c113 => ?_) (fun c113 => ?_)
            · have e9 : 0 < xsum (xacs f g c) ni := Int32.lt_of_le_of_ne (hsum e6) (fun z => c113 z.symm)
              have e10 : ni < 24 := by
                rcases Nat.lt_or_ge ni 24 with q | q
                · exact q
                · exact absurd ⟨e9, by omega⟩ e8
              have loop2 : ∀ (k i : Nat) (hxc : xin c nc), i ≤ ni → ni < i + k → aW E 0 0 (xM h (nup n 0 0) f (gup g 15 (xpreL (xdrp f g c) (g 15) i))) 121 [(0, .ref 200), (1, .int c), (2, .int t), (4, .int (xsum (xacs f g c) ni)), (5, .int (nI i))] [] := by
                intro k
                induction k with
                | zero => intro i hxc h1 h2; exact absurd h2 (by omega)
                | succ k ih =>
                  intro i hxc h1 h2
                  refine a_iload (i := 5) C dX7_chargeInterest_121 rfl ?_
                  refine a_aload_n (i := 0) C dX7_chargeInterest_123 rfl rfl ?_
                  refine a_get C dX7_chargeInterest_124 fl_X7_86 xM_0 (by first | exact congrArg (fun z => some (Value.int z)) hi | rfl) ?_
                  refine a_icmp_ge (tgt := 178) C dX7_chargeInterest_127 (by decide) (fun c127 => ?_) (fun c127 => ?_)
                  · refine a_aload_n (i := 0) C dX7_chargeInterest_178 rfl rfl ?_
                    refine a_iload_n (i := 1) C dX7_chargeInterest_179 rfl rfl ?_
                    refine a_iload (i := 4) C dX7_chargeInterest_180 rfl ?_
                    refine a_iload_n (i := 2) C dX7_chargeInterest_182 rfl rfl ?_
                    refine a_iconst (v := 1) C dX7_chargeInterest_183 (by decide) ?_
                    refine a_callV C dX7_chargeInterest_184 cv_X7_post tb1097 (m_X7_post hflags (xI_0 hI) hl e10 rfl) rfl rfl xM_0 rfl (Nat.le_of_ble_eq_true rfl) ⟨Nat.le_of_ble_eq_true rfl, Nat.le_of_ble_eq_true rfl⟩ ⟨Nat.le_of_ble_eq_true rfl, Nat.le_of_ble_eq_true rfl⟩ (fun _ h => h.elim) xav_no (fun _ _ h => h.elim) (fun r184 hp184 hq184 => ?_)
                    obtain ⟨rfl, rfl⟩ := hq184
                    exact a_iret C dX7_chargeInterest_187 (Nat.le_of_ble_eq_true rfl) (Nat.le_of_ble_eq_true rfl) (hret _ _ (by unfold mP o_charge; first | (rw [if_pos e6]; exact ⟨rfl, rfl⟩) | (rw [if_neg (fun z => z e6), if_pos e7]; exact ⟨rfl, rfl⟩) | (rw [if_neg (fun z => z e6), if_neg (fun z => z e7), if_pos e8]; exact ⟨rfl, rfl⟩) | (rw [if_neg (fun z => z e6), if_neg (fun z => z e7), if_neg e8, if_pos c113]; exact ⟨rfl, rfl⟩) | (rw [if_neg (fun z => z e6), if_neg (fun z => z e7), if_neg e8, if_neg c113, show i = ni by (have := (xle (by omega) (by omega)).mp c127; omega)]; exact ⟨rfl, rfl⟩)))
                  · have hlt : i < ni := by
                      rcases Nat.lt_or_ge i ni with q | q
                      · exact q
                      · exact absurd ((xle (by omega) (by omega)).mpr q) c127
                    obtain ⟨kk9, hk9, hok9⟩ := hO i hlt
                    obtain ⟨w9, hw9, rfl⟩ := xin_nI hxc (by omega)
                    refine a_aload_n (i := 0) C dX7_chargeInterest_130 rfl rfl ?_
                    refine a_get C dX7_chargeInterest_131 fl_X7_37 xM_0 rfl ?_
                    refine a_iload (i := 5) C dX7_chargeInterest_134 rfl ?_
                    refine a_dup2 C dX7_chargeInterest_136 rfl rfl ?_
                    refine a_laldV C (g 15 i) dX7_chargeInterest_137 xM_15 ⟨by omega, by omega⟩ (xpreL_ge (Nat.le_refl i)) ?_
                    refine a_aload_n (i := 0) C dX7_chargeInterest_138 rfl rfl ?_
                    refine a_get C dX7_chargeInterest_139 fl_X7_22 xM_0 rfl ?_
                    refine a_iload (i := 5) C dX7_chargeInterest_142 rfl ?_
                    refine a_ialdI C dX7_chargeInterest_144 xM_10 ⟨by omega, by omega⟩ ?_
                    refine a_iload_n (i := 1) C dX7_chargeInterest_145 rfl rfl ?_
                    refine a_icmp_ne (tgt := 169) C dX7_chargeInterest_146 (by decide) (fun c146 => ?_) (fun c146 => ?_)
                    · refine a_lconst (v := 0) C dX7_chargeInterest_169 (by decide) ?_
                      refine a_lsub C dX7_chargeInterest_170 ?_
                      refine a_topl (xdrp f g (nI w9) i) (by unfold xdrp; first | (rw [if_pos c146, nI_clamp (by omega)]; rfl) | (rw [if_neg c146]; done)) ?_
                      refine a_lastI C dX7_chargeInterest_171 xM_15 ⟨by omega, by omega⟩ ?_
                      refine a_hp xMw_15 ?_
                      refine a_hp (show _ = xM h (nup n 0 0) f (gup g 15 (xpreL (xdrp f g (nI w9)) (g 15) (i + 1))) by rw [gup_gg]; exact congrArg (fun z => xM h (nup n 0 0) f (gup g 15 z)) xpreL_s) ?_
                      refine a_iinc (i := 5) (v := nI (i + 1)) C dX7_chargeInterest_172 rfl (nI_1 i) (by decide) ?_
                      refine a_goto (tgt := 121) C dX7_chargeInterest_175 (by decide) ?_
                      refine a_loc _ ?_ (ih (i + 1) hxc (by omega) (by omega))
                      exact xsub_cons rfl (xsub_cons rfl (xsub_cons rfl (xsub_cons rfl (xsub_cons rfl (xsub_nil)))))
                    · refine a_aload_n (i := 0) C dX7_chargeInterest_149 rfl rfl ?_
                      refine a_iload (i := 5) C dX7_chargeInterest_150 rfl ?_
                      refine a_callV C dX7_chargeInterest_152 cv_X7_accruedOf tb1181 (m_X7_accruedOf hflags (i := i) (k := kk9) (by omega) hk9 hok9) rfl rfl xM_0 rfl (Nat.le_of_ble_eq_true rfl) ⟨Nat.le_of_ble_eq_true rfl, Nat.le_of_ble_eq_true rfl⟩ ⟨Nat.le_of_ble_eq_true rfl, Nat.le_of_ble_eq_true rfl⟩ (fun _ h => h.elim) xav_no (fun _ _ h => h.elim) (fun r152 hp152 hq152 => ?_)
                      obtain ⟨rfl, rfl⟩ := hq152
                      refine a_top (xac f g i) (by unfold xac; rw [show (gup g 15 (xpreL (xdrp f g (nI w9)) (g 15) i)) 15 i = g 15 i from xpreL_ge (Nat.le_refl i)]) ?_
                      refine a_i2l C dX7_chargeInterest_155 ?_
                      refine a_aload_n (i := 0) C dX7_chargeInterest_156 rfl rfl ?_
                      refine a_get C dX7_chargeInterest_157 fl_X7_13 xM_0 rfl ?_
                      refine a_iload_n (i := 1) C dX7_chargeInterest_160 rfl rfl ?_
                      refine a_ialdI C dX7_chargeInterest_161 xM_7 ⟨by omega, by omega⟩ ?_
                      refine a_callS C dX7_chargeInterest_162 cs_X7_unit tb1185 (m_X7_unit hflags) rfl rfl (Nat.le_of_ble_eq_true rfl) ⟨Nat.le_of_ble_eq_true rfl, Nat.le_of_ble_eq_true rfl⟩ ⟨Nat.le_of_ble_eq_true rfl, Nat.le_of_ble_eq_true rfl⟩ (fun _ h => h.elim) xav_no (fun _ _ h => h.elim) (fun r162 hp162 hq162 => ?_)
                      obtain ⟨rfl, rfl⟩ := hq162
                      refine a_lmul C dX7_chargeInterest_165 ?_
                      refine a_goto (tgt := 170) C dX7_chargeInterest_166 (by decide) ?_
                      refine a_lsub C dX7_chargeInterest_170 ?_
                      refine a_topl (xdrp f g (nI w9) i) (by unfold xdrp; first | (rw [if_pos c146, nI_clamp (by omega)]; rfl) | (rw [if_neg c146]; done)) ?_
                      refine a_lastI C dX7_chargeInterest_171 xM_15 ⟨by omega, by omega⟩ ?_
                      refine a_hp xMw_15 ?_
                      refine a_hp (show _ = xM h (nup n 0 0) f (gup g 15 (xpreL (xdrp f g (nI w9)) (g 15) (i + 1))) by rw [gup_gg]; exact congrArg (fun z => xM h (nup n 0 0) f (gup g 15 z)) xpreL_s) ?_
                      refine a_iinc (i := 5) (v := nI (i + 1)) C dX7_chargeInterest_172 rfl (nI_1 i) (by decide) ?_
                      refine a_goto (tgt := 121) C dX7_chargeInterest_175 (by decide) ?_
                      refine a_loc _ ?_ (ih (i + 1) hxc (by omega) (by omega))
                      exact xsub_cons rfl (xsub_cons rfl (xsub_cons rfl (xsub_cons rfl (xsub_cons rfl (xsub_nil)))))
              refine a_iconst (v := 0) C dX7_chargeInterest_118 (by decide) ?_
              refine a_istore (i := 5) C dX7_chargeInterest_119 (by decide) ?_
              refine a_hp (show _ = xM h (nup n 0 0) f (gup g 15 (xpreL (xdrp f g c) (g 15) 0)) by rw [xpreL_0, gup_id]) ?_
              refine a_loc _ ?_ (loop2 (ni + 1) 0 e6 (Nat.zero_le _) (by omega))
              exact xsub_cons rfl (xsub_cons rfl (xsub_cons rfl (xsub_cons rfl (xsub_cons rfl (xsub_nil)))))
            · refine a_iconst (v := (-1)) C dX7_chargeInterest_116 (by decide) ?_
              exact a_iret C dX7_chargeInterest_117 (Nat.le_of_ble_eq_true rfl) (Nat.le_of_ble_eq_true rfl) (hret _ _ (by unfold mP o_charge; first | (rw [if_pos e6]; exact ⟨rfl, rfl⟩) | (rw [if_neg (fun z => z e6), if_pos e7]; exact ⟨rfl, rfl⟩) | (rw [if_neg (fun z => z e6), if_neg (fun z => z e7), if_pos e8]; exact ⟨rfl, rfl⟩) | (rw [if_neg (fun z => z e6), if_neg (fun z => z e7), if_neg e8, if_pos c113]; exact ⟨rfl, rfl⟩) | (rw [if_neg (fun z => z e6), if_neg (fun z => z e7), if_neg e8, if_neg c113, show i = ni by (have := (xle (by omega) (by omega)).mp c127; omega)]; exact ⟨rfl, rfl⟩)))
          · have e8 : 0 < xsum (xacs f g c) ni ∧ ni = 24 := ⟨Int32.not_le.mp c86, (nI_eq (by omega) (by omega)).mp c95⟩
            refine a_iconst (v := 3) C dX7_chargeInterest_98 (by decide) ?_
            refine a_goto (tgt := 103) C dX7_chargeInterest_99 (by decide) ?_
            refine a_callV C dX7_chargeInterest_103 cv_X7_refused tb1032 (m_X7_refused1 hflags (by decide)) rfl rfl xM_0 rfl (Nat.le_of_ble_eq_true rfl) ⟨Nat.le_of_ble_eq_true rfl, Nat.le_of_ble_eq_true rfl⟩ ⟨Nat.le_of_ble_eq_true rfl, Nat.le_of_ble_eq_true rfl⟩ (fun _ h => h.elim) xav_no (fun _ _ h => h.elim) (fun r103 hp103 hq103 => ?_)
            obtain ⟨rfl, rfl⟩ := hq103
            refine a_if_eq (tgt := 111) C dX7_chargeInterest_106 (by decide) (fun z => absurd z (by decide)) (fun _ => ?_)
            refine a_iconst (v := 0) C dX7_chargeInterest_109 (by decide) ?_
            exact a_iret C dX7_chargeInterest_110 (Nat.le_of_ble_eq_true rfl) (Nat.le_of_ble_eq_true rfl) (hret _ _ (by unfold mP o_charge; first | (rw [if_pos e6]; exact ⟨rfl, rfl⟩) | (rw [if_neg (fun z => z e6), if_pos e7]; exact ⟨rfl, rfl⟩) | (rw [if_neg (fun z => z e6), if_neg (fun z => z e7), if_pos e8]; exact ⟨rfl, rfl⟩) | (rw [if_neg (fun z => z e6), if_neg (fun z => z e7), if_neg e8, if_pos c113]; exact ⟨rfl, rfl⟩) | (rw [if_neg (fun z => z e6), if_neg (fun z => z e7), if_neg e8, if_neg c113, show i = ni by (have := (xle (by omega) (by omega)).mp c127; omega)]; exact ⟨rfl, rfl⟩)))
      · have e7 := b0 c77
        refine a_iconst (v := 2) C dX7_chargeInterest_80 (by decide) ?_
        refine a_goto (tgt := 103) C dX7_chargeInterest_81 (by decide) ?_
        refine a_callV C dX7_chargeInterest_103 cv_X7_refused tb1032 (m_X7_refused1 hflags (by decide)) rfl rfl xM_0 rfl (Nat.le_of_ble_eq_true rfl) ⟨Nat.le_of_ble_eq_true rfl, Nat.le_of_ble_eq_true rfl⟩ ⟨Nat.le_of_ble_eq_true rfl, Nat.le_of_ble_eq_true rfl⟩ (fun _ h => h.elim) xav_no (fun _ _ h => h.elim) (fun r103 hp103 hq103 => ?_)
        obtain ⟨rfl, rfl⟩ := hq103
        refine a_if_eq (tgt := 111) C dX7_chargeInterest_106 (by decide) (fun z => absurd z (by decide)) (fun _ => ?_)
        refine a_iconst (v := 0) C dX7_chargeInterest_109 (by decide) ?_
        exact a_iret C dX7_chargeInterest_110 (Nat.le_of_ble_eq_true rfl) (Nat.le_of_ble_eq_true rfl) (hret _ _ (by unfold mP o_charge; first | (rw [if_pos e6]; exact ⟨rfl, rfl⟩) | (rw [if_neg (fun z => z e6), if_pos e7]; exact ⟨rfl, rfl⟩) | (rw [if_neg (fun z => z e6), if_neg (fun z => z e7), if_pos e8]; exact ⟨rfl, rfl⟩) | (rw [if_neg (fun z => z e6), if_neg (fun z => z e7), if_neg e8, if_pos c113]; exact ⟨rfl, rfl⟩) | (rw [if_neg (fun z => z e6), if_neg (fun z => z e7), if_neg e8, if_neg c113, show i = ni by (have := (xle (by omega) (by omega)).mp c127; omega)]; exact ⟨rfl, rfl⟩)))
    · have e6 := b0 c69
      refine a_iconst (v := 1) C dX7_chargeInterest_72 (by decide) ?_
      refine a_goto (tgt := 103) C dX7_chargeInterest_73 (by decide) ?_
      refine a_callV C dX7_chargeInterest_103 cv_X7_refused tb1032 (m_X7_refused1 hflags (by decide)) rfl rfl xM_0 rfl (Nat.le_of_ble_eq_true rfl) ⟨Nat.le_of_ble_eq_true rfl, Nat.le_of_ble_eq_true rfl⟩ ⟨Nat.le_of_ble_eq_true rfl, Nat.le_of_ble_eq_true rfl⟩ (fun _ h => h.elim) xav_no (fun _ _ h => h.elim) (fun r103 hp103 hq103 => ?_)
      obtain ⟨rfl, rfl⟩ := hq103
      refine a_if_eq (tgt := 111) C dX7_chargeInterest_106 (by decide) (fun z => absurd z (by decide)) (fun _ => ?_)
      refine a_iconst (v := 0) C dX7_chargeInterest_109 (by decide) ?_
      exact a_iret C dX7_chargeInterest_110 (Nat.le_of_ble_eq_true rfl) (Nat.le_of_ble_eq_true rfl) (hret _ _ (by unfold mP o_charge; first | (rw [if_pos e6]; exact ⟨rfl, rfl⟩) | (rw [if_neg (fun z => z e6), if_pos e7]; exact ⟨rfl, rfl⟩) | (rw [if_neg (fun z => z e6), if_neg (fun z => z e7), if_pos e8]; exact ⟨rfl, rfl⟩) | (rw [if_neg (fun z => z e6), if_neg (fun z => z e7), if_neg e8, if_pos c113]; exact ⟨rfl, rfl⟩) | (rw [if_neg (fun z => z e6), if_neg (fun z => z e7), if_neg e8, if_neg c113, show i = ni by (have := (xle (by omega) (by omega)).mp c127; omega)]; exact ⟨rfl, rfl⟩)))
  have loop : ∀ (k i : Nat) (ex : ∀ s : Int32, (xin c nc → s = xsum (xacs f g c) ni) → aW E 0 0 (xM h n f g) 63 [(0, .ref 200), (1, .int c), (2, .int t), (3, .int (bI (0 ≤ t ∧ t ≤ 120))), (4, .int s)] []), i ≤ ni → ni < i + k → aW E 0 0 (xM h n f g) 14 [(0, .ref 200), (1, .int c), (2, .int t), (3, .int (bI (0 ≤ t ∧ t ≤ 120))), (4, .int (xsum (xacs f g c) i)), (5, .int (nI i))] [] := by
    intro k
    induction k with
    | zero => intro i ex h1 h2; exact absurd h2 (by omega)
    | succ k ih =>
      intro i ex h1 h2
      refine a_iload (i := 5) C dX7_chargeInterest_14 rfl ?_
      refine a_aload_n (i := 0) C dX7_chargeInterest_16 rfl rfl ?_
      refine a_get C dX7_chargeInterest_17 fl_X7_86 xM_0 (by first | exact congrArg (fun z => some (Value.int z)) hi | rfl) ?_
      refine a_icmp_ge (tgt := 63) C dX7_chargeInterest_20 (by decide) (fun c20 => ?_) (fun c20 => ?_)
      · refine a_loc _ ?_ (ex (xsum (xacs f g c) i) (fun hx => by
          first
          | (have : i = ni := by (have := (xle (by omega) (by omega)).mp c20; omega)
             rw [this])
          | exact absurd hx (b0 c28)))
        exact xsub_cons rfl (xsub_cons rfl (xsub_cons rfl (xsub_cons rfl (xsub_cons rfl xsub_nil))))
      · have hlt : i < ni := by
          rcases Nat.lt_or_ge i ni with q | q
          · exact q
          · exact absurd ((xle (by omega) (by omega)).mpr q) c20
        obtain ⟨kk9, hk9, hok9⟩ := hO i hlt
        refine a_aload_n (i := 0) C dX7_chargeInterest_23 rfl rfl ?_
        refine a_iload_n (i := 1) C dX7_chargeInterest_24 rfl rfl ?_
        refine a_callV C dX7_chargeInterest_25 cv_X7_isCustomer tb1040 (m_X7_isCustomer hflags hI) rfl rfl xM_0 rfl (Nat.le_of_ble_eq_true rfl) ⟨Nat.le_of_ble_eq_true rfl, Nat.le_of_ble_eq_true rfl⟩ ⟨Nat.le_of_ble_eq_true rfl, Nat.le_of_ble_eq_true rfl⟩ (fun _ h => h.elim) xav_no (fun _ _ h => h.elim) (fun r25 hp25 hq25 => ?_)
        obtain ⟨rfl, rfl⟩ := hq25
        refine a_if_eq (tgt := 63) C dX7_chargeInterest_28 (by decide) (fun c28 => ?_) (fun c28 => ?_)
        · refine a_loc _ ?_ (ex (xsum (xacs f g c) i) (fun hx => by
            first
            | (have : i = ni := by (have := (xle (by omega) (by omega)).mp c20; omega)
               rw [this])
            | exact absurd hx (b0 c28)))
          exact xsub_cons rfl (xsub_cons rfl (xsub_cons rfl (xsub_cons rfl (xsub_cons rfl xsub_nil))))
        · refine a_iload (i := 4) C dX7_chargeInterest_31 rfl ?_
          refine a_aload_n (i := 0) C dX7_chargeInterest_33 rfl rfl ?_
          refine a_get C dX7_chargeInterest_34 fl_X7_22 xM_0 rfl ?_
          refine a_iload (i := 5) C dX7_chargeInterest_37 rfl ?_
          refine a_ialdI C dX7_chargeInterest_39 xM_10 ⟨by omega, by omega⟩ ?_
          refine a_iload_n (i := 1) C dX7_chargeInterest_40 rfl rfl ?_
          refine a_icmp_ne (tgt := 53) C dX7_chargeInterest_41 (by decide) (fun c41 => ?_) (fun c41 => ?_)
          · refine a_iconst (v := 0) C dX7_chargeInterest_53 (by decide) ?_
            refine a_iadd C dX7_chargeInterest_54 ?_
            refine a_top (xsum (xacs f g c) (i + 1)) (by show _ = xsum (xacs f g c) i + (if f 10 i = c then _ else _); first | (rw [if_pos c41]; done) | (rw [if_neg c41]; done)) ?_
            refine a_istore (i := 4) C dX7_chargeInterest_55 (by decide) ?_
            refine a_iinc (i := 5) (v := nI (i + 1)) C dX7_chargeInterest_57 rfl (nI_1 i) (by decide) ?_
            refine a_goto (tgt := 14) C dX7_chargeInterest_60 (by decide) ?_
            refine a_loc _ ?_ (ih (i + 1) ex (by omega) (by omega))
            exact xsub_cons rfl (xsub_cons rfl (xsub_cons rfl (xsub_cons rfl (xsub_cons rfl (xsub_cons rfl (xsub_nil))))))
          · refine a_aload_n (i := 0) C dX7_chargeInterest_44 rfl rfl ?_
            refine a_iload (i := 5) C dX7_chargeInterest_45 rfl ?_
            refine a_callV C dX7_chargeInterest_47 cv_X7_accruedOf tb1181 (m_X7_accruedOf hflags (i := i) (k := kk9) (by omega) hk9 hok9) rfl rfl xM_0 rfl (Nat.le_of_ble_eq_true rfl) ⟨Nat.le_of_ble_eq_true rfl, Nat.le_of_ble_eq_true rfl⟩ ⟨Nat.le_of_ble_eq_true rfl, Nat.le_of_ble_eq_true rfl⟩ (fun _ h => h.elim) xav_no (fun _ _ h => h.elim) (fun r47 hp47 hq47 => ?_)
            obtain ⟨rfl, rfl⟩ := hq47
            refine a_goto (tgt := 54) C dX7_chargeInterest_50 (by decide) ?_
            refine a_iadd C dX7_chargeInterest_54 ?_
            refine a_top (xsum (xacs f g c) (i + 1)) (by show _ = xsum (xacs f g c) i + (if f 10 i = c then _ else _); first | (rw [if_pos c41]; done) | (rw [if_neg c41]; done)) ?_
            refine a_istore (i := 4) C dX7_chargeInterest_55 (by decide) ?_
            refine a_iinc (i := 5) (v := nI (i + 1)) C dX7_chargeInterest_57 rfl (nI_1 i) (by decide) ?_
            refine a_goto (tgt := 14) C dX7_chargeInterest_60 (by decide) ?_
            refine a_loc _ ?_ (ih (i + 1) ex (by omega) (by omega))
            exact xsub_cons rfl (xsub_cons rfl (xsub_cons rfl (xsub_cons rfl (xsub_cons rfl (xsub_cons rfl (xsub_nil))))))
  refine a_iload_n (i := 2) C dX7_chargeInterest_0 rfl rfl ?_
  refine a_iconst (v := 0) C dX7_chargeInterest_1 (by decide) ?_
  refine a_bipush (v := 120) C dX7_chargeInterest_2 (by decide) ?_
  refine a_callS C dX7_chargeInterest_4 cs_X7_within tb1029 (m_X7_within hflags) rfl rfl (Nat.le_of_ble_eq_true rfl) ⟨Nat.le_of_ble_eq_true rfl, Nat.le_of_ble_eq_true rfl⟩ ⟨Nat.le_of_ble_eq_true rfl, Nat.le_of_ble_eq_true rfl⟩ (fun _ h => h.elim) xav_no (fun _ _ h => h.elim) (fun r4 hp4 hq4 => ?_)
  obtain ⟨rfl, rfl⟩ := hq4
  refine a_istore_n (i := 3) C dX7_chargeInterest_7 rfl (by decide) ?_
  refine a_iconst (v := 0) C dX7_chargeInterest_8 (by decide) ?_
  refine a_istore (i := 4) C dX7_chargeInterest_9 (by decide) ?_
  refine a_iconst (v := 0) C dX7_chargeInterest_11 (by decide) ?_
  refine a_istore (i := 5) C dX7_chargeInterest_12 (by decide) ?_
  refine a_loc _ ?_ (loop (ni + 1) 0 sec (Nat.zero_le _) (by omega))
  exact xsub_cons rfl (xsub_cons rfl (xsub_cons rfl (xsub_cons rfl (xsub_cons rfl (xsub_cons rfl xsub_nil)))))
