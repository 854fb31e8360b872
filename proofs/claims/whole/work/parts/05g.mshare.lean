theorem xpre_k {t o : Nat → Int32} {i : Nat} (h : t i = o i) : xpre t o i = xpre t o (i + 1) := by
  funext j
  show (if j < i then t j else o j) = (if j < i + 1 then t j else o j)
  by_cases h1 : j < i
  · rw [if_pos h1, if_pos (Nat.lt_succ_of_lt h1)]
  · rw [if_neg h1]
    by_cases h2 : j = i
    · subst h2; rw [if_pos (Nat.lt_succ_self _), h]
    · rw [if_neg (by omega)]
theorem xpre_ge {t o : Nat → Int32} {i j : Nat} (h : i ≤ j) : xpre t o i j = o j := if_neg (by omega)
/-- how a rule shares an amount -/
def xgets (a : Int32) (all : Int64) : Int32 := (if a.toInt64 < all then a.toInt64 else all).toInt32
def xzer (f : Nat → Nat → Int32) (ni : Nat) : Nat → Int32 := xpre (fun _ => 0) (f 25) ni
def xfro (f : Nat → Nat → Int32) (c a : Int32) (ni : Nat) : Nat → Int32 := fun j => if f 10 j = c then xfrom f c j a ni else 0
def mShf (ni w : Nat) (a : Int32) (f : Nat → Nat → Int32) (g : Nat → Nat → Int64) : Nat → Nat → Int32 := if f 6 w = 1 then fup f 25 (xspl ni (nI w) (xgets a (xall f (nI w) ni)) f g).1 else if f 6 w = 0 then fup f 25 (xpre (xfro f (nI w) (xgets a (xall f (nI w) ni)) ni) (xzer f ni) ni) else fup f 25 (xzer f ni)
def mShg (ni w : Nat) (a : Int32) (f : Nat → Nat → Int32) (g : Nat → Nat → Int64) : Nat → Nat → Int64 := if f 6 w = 1 then gup g 26 (xspl ni (nI w) (xgets a (xall f (nI w) ni)) f g).2 else g
set_option maxRecDepth 100000 in
set_option maxHeartbeats 4000000 in
theorem m_X7_share {l : Launch} {N0 : Nat} {D : va_G} {dT : Nat → ClassId} (hflags : l.stackTraces = false) {h : xH} {n : Nat → Int32} {f : Nat → Nat → Int32} {g : Nat → Nat → Int64} {nc ni np nl : Nat} (hI : xI n nc ni np nl) {a : Int32} {w : Nat} (hw : w < 6) (hall : ∀ i, i < ni → ¬ xclr f (nI w) i = 0 → ¬ xall f (nI w) ni = 0)  : xMet l N0 D dT yX7_share cX7_share 7 none 3 0 0 [.ref 200, .int (nI w), .int a] (xM h n f g) xNo (fun r h' => r = none ∧ h' = xM h n (mShf ni w a f g) (mShg ni w a f g)) xNX := by
  refine xMet_of hflags (by decide +kernel) (fun _ _ h => h) (Nat.le_of_ble_eq_true rfl) ?_
  intro E C I hret hthr
  refine a_loc [(0, .ref 200), (1, .int (nI w)), (2, .int a)] (xsub_cons rfl (xsub_cons rfl (xsub_cons rfl (xsub_nil)))) ?_
  obtain ⟨hc, hi, hpy, hln, hc6, hi24, hp24, hlm⟩ := id hI
  have loop2 : ∀ (k i : Nat) (e6 : f 6 w = 0) (e1 : ¬ f 6 w = 1), i ≤ ni → ni < i + k → aW E 0 0 (xM h n (fup f 25 (xpre (xfro f (nI w) (xgets a (xall f (nI w) ni)) ni) (xzer f ni) i)) g) 78 [(0, .ref 200), (1, .int (nI w)), (5, .int (xgets a (xall f (nI w) ni))), (6, .int (nI i))] [] := by
    intro k
    induction k with
    | zero => intro i e6 e1 h1 h2; exact absurd h2 (by omega)
    | succ k ih =>
      intro i e6 e1 h1 h2
      refine a_iload (i := 6) C dX7_share_78 rfl ?_
      refine a_aload_n (i := 0) C dX7_share_80 rfl rfl ?_
      refine a_get C dX7_share_81 fl_X7_86 xM_0 (by first | exact congrArg (fun z => some (Value.int z)) hi | rfl) ?_
      refine a_icmp_ge (tgt := 120) C dX7_share_84 (by decide) (fun c84 => ?_) (fun c84 => ?_)
      · exact a_vret C dX7_share_120 (Nat.le_of_ble_eq_true rfl) (Nat.le_of_ble_eq_true rfl) (hret _ _ (by unfold mShf mShg; first | (rw [if_neg e1, if_pos e6, if_neg e1, show i = ni by (have := (xle (by omega) (by omega)).mp c84; omega)]; exact ⟨rfl, rfl⟩) | (rw [if_neg c29, if_neg (show ¬ f 6 w = 0 from c72), if_neg c29]; exact ⟨rfl, rfl⟩)))
      · have hlt : i < ni := by
          rcases Nat.lt_or_ge i ni with q | q
          · exact q
          · exact absurd ((xle (by omega) (by omega)).mpr q) c84
        refine a_aload_n (i := 0) C dX7_share_87 rfl rfl ?_
        refine a_get C dX7_share_88 fl_X7_22 xM_0 rfl ?_
        refine a_iload (i := 6) C dX7_share_91 rfl ?_
        refine a_ialdI C dX7_share_93 xM_10 ⟨by omega, by omega⟩ ?_
        refine a_iload_n (i := 1) C dX7_share_94 rfl rfl ?_
        refine a_icmp_ne (tgt := 114) C dX7_share_95 (by decide) (fun c95 => ?_) (fun c95 => ?_)
        · refine a_hp (show _ = xM h n (fup f 25 (xpre (xfro f (nI w) (xgets a (xall f (nI w) ni)) ni) (xzer f ni) (i + 1))) g by first | rfl | exact congrArg (fun z => xM h n (fup f 25 z) g) (xpre_k (by unfold xfro; rw [if_neg (show ¬ f 10 i = nI w from c95)]; unfold xzer; rw [xpre_lt hlt]))) ?_
          refine a_iinc (i := 6) (v := nI (i + 1)) C dX7_share_114 rfl (nI_1 i) (by decide) ?_
          refine a_goto (tgt := 78) C dX7_share_117 (by decide) ?_
          refine a_loc _ ?_ (ih (i + 1) e6 e1 (by omega) (by omega))
          exact xsub_cons rfl (xsub_cons rfl (xsub_cons rfl (xsub_cons rfl (xsub_nil))))
        · refine a_aload_n (i := 0) C dX7_share_98 rfl rfl ?_
          refine a_get C dX7_share_99 fl_X7_69 xM_0 rfl ?_
          refine a_iload (i := 6) C dX7_share_102 rfl ?_
          refine a_aload_n (i := 0) C dX7_share_104 rfl rfl ?_
          refine a_iload_n (i := 1) C dX7_share_105 rfl rfl ?_
          refine a_iload (i := 6) C dX7_share_106 rfl ?_
          refine a_iload (i := 5) C dX7_share_108 rfl ?_
          refine a_callV C dX7_share_110 cv_X7_fromOldest tb1125 (m_X7_fromOldest hflags hI (w := i) (by omega)) rfl rfl xM_0 rfl (Nat.le_of_ble_eq_true rfl) ⟨Nat.le_of_ble_eq_true rfl, Nat.le_of_ble_eq_true rfl⟩ ⟨Nat.le_of_ble_eq_true rfl, Nat.le_of_ble_eq_true rfl⟩ (fun _ h => h.elim) xav_no (fun _ _ h => h.elim) (fun r110 hp110 hq110 => ?_)
          obtain ⟨rfl, rfl⟩ := hq110
          refine a_top (xfro f (nI w) (xgets a (xall f (nI w) ni)) ni i) (by unfold xfro; rw [if_pos (show f 10 i = nI w from c95)]; rfl) ?_
          refine a_iastI C dX7_share_113 xM_25 ⟨by omega, by omega⟩ ?_
          refine a_hp xMw_25 ?_
          refine a_hp (show _ = xM h n (fup f 25 (xpre (xfro f (nI w) (xgets a (xall f (nI w) ni)) ni) (xzer f ni) (i + 1))) g by rw [fup_ff]; exact congrArg (fun z => xM h n (fup f 25 z) g) xpre_s) ?_
          refine a_hp (show _ = xM h n (fup f 25 (xpre (xfro f (nI w) (xgets a (xall f (nI w) ni)) ni) (xzer f ni) (i + 1))) g by first | rfl | exact congrArg (fun z => xM h n (fup f 25 z) g) (xpre_k (by unfold xfro; rw [if_neg (show ¬ f 10 i = nI w from c95)]; unfold xzer; rw [xpre_lt hlt]))) ?_
          refine a_iinc (i := 6) (v := nI (i + 1)) C dX7_share_114 rfl (nI_1 i) (by decide) ?_
          refine a_goto (tgt := 78) C dX7_share_117 (by decide) ?_
          refine a_loc _ ?_ (ih (i + 1) e6 e1 (by omega) (by omega))
          exact xsub_cons rfl (xsub_cons rfl (xsub_cons rfl (xsub_cons rfl (xsub_nil))))
  have loop : ∀ (k i : Nat) (c29 : ¬ f 6 w = 1), i ≤ ni → ni < i + k → aW E 0 0 (xM h n (fup f 25 (xpre (fun _ => 0) (f 25) i)) g) 43 [(0, .ref 200), (1, .int (nI w)), (5, .int (xgets a (xall f (nI w) ni))), (6, .int (nI i))] [] := by
    intro k
    induction k with
    | zero => intro i c29 h1 h2; exact absurd h2 (by omega)
    | succ k ih =>
      intro i c29 h1 h2
      refine a_iload (i := 6) C dX7_share_43 rfl ?_
      refine a_aload_n (i := 0) C dX7_share_45 rfl rfl ?_
      refine a_get C dX7_share_46 fl_X7_86 xM_0 (by first | exact congrArg (fun z => some (Value.int z)) hi | rfl) ?_
      refine a_icmp_ge (tgt := 66) C dX7_share_49 (by decide) (fun c49 => ?_) (fun c49 => ?_)
      · have hie : i = ni := by
          have := (xle (by omega) (by omega)).mp c49
          omega
        rw [hie]
        refine a_aload_n (i := 0) C dX7_share_66 rfl rfl ?_
        refine a_get C dX7_share_67 fl_X7_7 xM_0 rfl ?_
        refine a_iload_n (i := 1) C dX7_share_70 rfl rfl ?_
        refine a_ialdI C dX7_share_71 xM_6 ⟨by omega, by omega⟩ ?_
        refine a_if_ne (tgt := 120) C dX7_share_72 (by decide) (fun c72 => ?_) (fun c72 => ?_)
        · exact a_vret C dX7_share_120 (Nat.le_of_ble_eq_true rfl) (Nat.le_of_ble_eq_true rfl) (hret _ _ (by unfold mShf mShg; first | (rw [if_neg e1, if_pos e6, if_neg e1, show i = ni by (have := (xle (by omega) (by omega)).mp c84; omega)]; exact ⟨rfl, rfl⟩) | (rw [if_neg c29, if_neg (show ¬ f 6 w = 0 from c72), if_neg c29]; exact ⟨rfl, rfl⟩)))
        · refine a_iconst (v := 0) C dX7_share_75 (by decide) ?_
          refine a_istore (i := 6) C dX7_share_76 (by decide) ?_
          refine a_hp (show _ = xM h n (fup f 25 (xpre (xfro f (nI w) (xgets a (xall f (nI w) ni)) ni) (xzer f ni) 0)) g by rw [xpre_0]; rfl) ?_
          refine a_loc _ ?_ (loop2 (ni + 1) 0 c72 c29 (Nat.zero_le _) (by omega))
          exact xsub_cons rfl (xsub_cons rfl (xsub_cons rfl (xsub_cons rfl (xsub_nil))))
      · have hlt : i < ni := by
          rcases Nat.lt_or_ge i ni with q | q
          · exact q
          · exact absurd ((xle (by omega) (by omega)).mpr q) c49
        refine a_aload_n (i := 0) C dX7_share_52 rfl rfl ?_
        refine a_get C dX7_share_53 fl_X7_69 xM_0 rfl ?_
        refine a_iload (i := 6) C dX7_share_56 rfl ?_
        refine a_iconst (v := 0) C dX7_share_58 (by decide) ?_
        refine a_iastI C dX7_share_59 xM_25 ⟨by omega, by omega⟩ ?_
        refine a_hp xMw_25 ?_
        refine a_hp (show _ = xM h n (fup f 25 (xpre (fun _ => 0) (f 25) (i + 1))) g by rw [fup_ff]; exact congrArg (fun z => xM h n (fup f 25 z) g) xpre_s) ?_
        refine a_iinc (i := 6) (v := nI (i + 1)) C dX7_share_60 rfl (nI_1 i) (by decide) ?_
        refine a_goto (tgt := 43) C dX7_share_63 (by decide) ?_
        refine a_loc _ ?_ (ih (i + 1) c29 (by omega) (by omega))
        exact xsub_cons rfl (xsub_cons rfl (xsub_cons rfl (xsub_cons rfl (xsub_nil))))
  refine a_aload_n (i := 0) C dX7_share_0 rfl rfl ?_
  refine a_iload_n (i := 1) C dX7_share_1 rfl rfl ?_
  refine a_callV C dX7_share_2 cv_X7_clearOf tb1117 (m_X7_clearOf hflags hI) rfl rfl xM_0 rfl (Nat.le_of_ble_eq_true rfl) ⟨Nat.le_of_ble_eq_true rfl, Nat.le_of_ble_eq_true rfl⟩ ⟨Nat.le_of_ble_eq_true rfl, Nat.le_of_ble_eq_true rfl⟩ (fun _ h => h.elim) xav_no (fun _ _ h => h.elim) (fun r2 hp2 hq2 => ?_)
  obtain ⟨rfl, rfl⟩ := hq2
  refine a_lstore_n (i := 3) C dX7_share_5 rfl (by decide) ?_
  refine a_iload_n (i := 2) C dX7_share_6 rfl rfl ?_
  refine a_i2l C dX7_share_7 ?_
  refine a_lload_n (i := 3) C dX7_share_8 rfl rfl ?_
  refine a_lcmp C dX7_share_9 ?_
  refine a_if_ge (tgt := 18) C dX7_share_10 (by decide) (fun c10 => ?_) (fun c10 => ?_)
  · refine a_lload_n (i := 3) C dX7_share_18 rfl rfl ?_
    refine a_topl (if a.toInt64 < xall f (nI w) ni then a.toInt64 else xall f (nI w) ni) (by first | (rw [if_pos (show a.toInt64 < xall f (nI w) ni from Classical.not_not.mp (fun z => c10 (lcmp_ge.mpr z)))]; done) | (rw [if_neg (show ¬ a.toInt64 < xall f (nI w) ni from lcmp_ge.mp c10)]; rfl)) ?_
    refine a_l2i C dX7_share_19 ?_
    refine a_istore (i := 5) C dX7_share_20 (by decide) ?_
    refine a_aload_n (i := 0) C dX7_share_22 rfl rfl ?_
    refine a_get C dX7_share_23 fl_X7_7 xM_0 rfl ?_
    refine a_iload_n (i := 1) C dX7_share_26 rfl rfl ?_
    refine a_ialdI C dX7_share_27 xM_6 ⟨by omega, by omega⟩ ?_
    refine a_iconst (v := 1) C dX7_share_28 (by decide) ?_
    refine a_icmp_ne (tgt := 40) C dX7_share_29 (by decide) (fun c29 => ?_) (fun c29 => ?_)
    · refine a_iconst (v := 0) C dX7_share_40 (by decide) ?_
      refine a_istore (i := 6) C dX7_share_41 (by decide) ?_
      refine a_hp (show _ = xM h n (fup f 25 (xpre (fun _ => 0) (f 25) 0)) g by rw [xpre_0, fup_id]) ?_
      refine a_loc _ ?_ (loop (ni + 1) 0 c29 (Nat.zero_le _) (by omega))
      exact xsub_cons rfl (xsub_cons rfl (xsub_cons rfl (xsub_cons rfl (xsub_nil))))
    · refine a_aload_n (i := 0) C dX7_share_32 rfl rfl ?_
      refine a_iload_n (i := 1) C dX7_share_33 rfl rfl ?_
      refine a_iload (i := 5) C dX7_share_34 rfl ?_
      refine a_callV C dX7_share_36 cv_X7_split tb1121 (m_X7_split hflags hI hall) rfl rfl xM_0 rfl (Nat.le_of_ble_eq_true rfl) ⟨Nat.le_of_ble_eq_true rfl, Nat.le_of_ble_eq_true rfl⟩ ⟨Nat.le_of_ble_eq_true rfl, Nat.le_of_ble_eq_true rfl⟩ (fun _ h => h.elim) xav_no (fun _ _ h => h.elim) (fun r36 hp36 hq36 => ?_)
      obtain ⟨rfl, rfl⟩ := hq36
      exact a_vret C dX7_share_39 (Nat.le_of_ble_eq_true rfl) (Nat.le_of_ble_eq_true rfl) (hret _ _ (by unfold mShf mShg; rw [if_pos c29, if_pos c29]; exact ⟨rfl, rfl⟩))
  · refine a_iload_n (i := 2) C dX7_share_13 rfl rfl ?_
    refine a_i2l C dX7_share_14 ?_
    refine a_goto (tgt := 19) C dX7_share_15 (by decide) ?_
    refine a_topl (if a.toInt64 < xall f (nI w) ni then a.toInt64 else xall f (nI w) ni) (by first | (rw [if_pos (show a.toInt64 < xall f (nI w) ni from Classical.not_not.mp (fun z => c10 (lcmp_ge.mpr z)))]; done) | (rw [if_neg (show ¬ a.toInt64 < xall f (nI w) ni from lcmp_ge.mp c10)]; rfl)) ?_
    refine a_l2i C dX7_share_19 ?_
    refine a_istore (i := 5) C dX7_share_20 (by decide) ?_
    refine a_aload_n (i := 0) C dX7_share_22 rfl rfl ?_
    refine a_get C dX7_share_23 fl_X7_7 xM_0 rfl ?_
    refine a_iload_n (i := 1) C dX7_share_26 rfl rfl ?_
    refine a_ialdI C dX7_share_27 xM_6 ⟨by omega, by omega⟩ ?_
    refine a_iconst (v := 1) C dX7_share_28 (by decide) ?_
    refine a_icmp_ne (tgt := 40) C dX7_share_29 (by decide) (fun c29 => ?_) (fun c29 => ?_)
    · refine a_iconst (v := 0) C dX7_share_40 (by decide) ?_
      refine a_istore (i := 6) C dX7_share_41 (by decide) ?_
      refine a_hp (show _ = xM h n (fup f 25 (xpre (fun _ => 0) (f 25) 0)) g by rw [xpre_0, fup_id]) ?_
      refine a_loc _ ?_ (loop (ni + 1) 0 c29 (Nat.zero_le _) (by omega))
      exact xsub_cons rfl (xsub_cons rfl (xsub_cons rfl (xsub_cons rfl (xsub_nil))))
    · refine a_aload_n (i := 0) C dX7_share_32 rfl rfl ?_
      refine a_iload_n (i := 1) C dX7_share_33 rfl rfl ?_
      refine a_iload (i := 5) C dX7_share_34 rfl ?_
      refine a_callV C dX7_share_36 cv_X7_split tb1121 (m_X7_split hflags hI hall) rfl rfl xM_0 rfl (Nat.le_of_ble_eq_true rfl) ⟨Nat.le_of_ble_eq_true rfl, Nat.le_of_ble_eq_true rfl⟩ ⟨Nat.le_of_ble_eq_true rfl, Nat.le_of_ble_eq_true rfl⟩ (fun _ h => h.elim) xav_no (fun _ _ h => h.elim) (fun r36 hp36 hq36 => ?_)
      obtain ⟨rfl, rfl⟩ := hq36
      exact a_vret C dX7_share_39 (Nat.le_of_ble_eq_true rfl) (Nat.le_of_ble_eq_true rfl) (hret _ _ (by unfold mShf mShg; rw [if_pos c29, if_pos c29]; exact ⟨rfl, rfl⟩))
