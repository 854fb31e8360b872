theorem fup_fc {f : Nat → Nat → Int32} {a b c : Nat → Int32} : fup (fup (fup f 18 a) 17 b) 18 c = fup (fup (fup f 18 a) 18 c) 17 b := by
  funext k
  unfold fup
  cases h1 : Nat.beq k 18 with
  | true => cases h2 : Nat.beq k 17 with
    | true =>
      have e1 := Nat.eq_of_beq_eq_true h1
      have e2 := Nat.eq_of_beq_eq_true h2
      omega
    | false => rfl
  | false => cases Nat.beq k 17 <;> rfl
theorem xupd_i {f : Nat → Int32} {i : Nat} {v : Int32} : upd f i v i = v := if_pos rfl
theorem xupd_u {f : Nat → Int32} {i : Nat} {v w : Int32} : upd (upd f i v) i w = upd f i w := by
  funext j
  unfold upd
  by_cases h : j = i
  · rw [if_pos h, if_pos h]
  · rw [if_neg h, if_neg h, if_neg h]
theorem mD_fin {F : Nat → Nat → Int32} {i : Nat} {v : Int32} {W : Nat → Int32} : fup (fup (fup F 18 (upd (F 18) i v)) 17 W) 18 (upd (upd (F 18) i v) i 0) = fup (fup F 18 (upd (F 18) i 0)) 17 W := by rw [fup_fc, fup_ff, xupd_u]
/-- a day's interest -/
def xacd (t : Nat) (f : Nat → Nat → Int32) (i : Nat) : Int64 := (f 13 i - f 14 i).toInt64 * (f 8 (xow f i)).toInt64 * (xbt (f 7 (xow f i)) t (t + 1)).toInt64
def mDg (n : Nat → Int32) (t i : Nat) (f : Nat → Nat → Int32) (g : Nat → Nat → Int64) : Nat → Nat → Int64 := if f 12 i ≤ n 1 ∧ f 16 i = 0 then gup g 15 (vp_updL (g 15) i (g 15 i + xacd t f i)) else g
/-- a day waited -/
abbrev mDw (n : Nat → Int32) (f : Nat → Nat → Int32) (i : Nat) : Prop := f 12 i ≤ n 1 ∧ (f 17 i < 4 ∧ 0 < f 13 i ∧ f 14 i = 0) ∧ f 9 (xow f i) ≤ n 1
def mDf (n : Nat → Int32) (i : Nat) (f : Nat → Nat → Int32) : Nat → Nat → Int32 := if mDw n f i then (if f 18 i + 1 = xpat (f 17 i) then fup (fup f 18 (upd (f 18) i 0)) 17 (upd (f 17) i (f 17 i + 1)) else fup f 18 (upd (f 18) i (f 18 i + 1))) else f
def mDS (n : Nat → Int32) (t : Nat) (f : Nat → Nat → Int32) (g : Nat → Nat → Int64) : Nat → (Nat → Nat → Int32) × (Nat → Nat → Int64)
  | 0 => (f, g)
  | k + 1 => (mDf n k (mDS n t f g k).1, mDg n t k (mDS n t f g k).1 (mDS n t f g k).2)
theorem mDf_o {n : Nat → Int32} {i : Nat} {f : Nat → Nat → Int32} {j : Nat} (h1 : j ≠ 17) (h2 : j ≠ 18) : mDf n i f j = f j := by
  unfold mDf
  split
  · split
    · rw [fup_n h1, fup_n h2]
    · rw [fup_n h2]
  · rfl
theorem mDS_o {n : Nat → Int32} {t : Nat} {f : Nat → Nat → Int32} {g : Nat → Nat → Int64} {j : Nat} (h1 : j ≠ 17) (h2 : j ≠ 18) : ∀ k, (mDS n t f g k).1 j = f j := by
  intro k
  induction k with
  | zero => rfl
  | succ k ih =>
    show mDf n k (mDS n t f g k).1 j = f j
    rw [mDf_o h1 h2, ih]
/-- a day passes -/
def mDay (ni t : Nat) (s : mS) : mS := (nup s.1 1 (nI (t + 1)), (mDS s.1 t s.2.1 s.2.2 ni).1, (mDS s.1 t s.2.1 s.2.2 ni).2)
def mDays (ni t : Nat) (s : mS) : Nat → mS
  | 0 => s
  | k + 1 => mDay ni (t + k) (mDays ni t s k)
def o_passDays (ni : Nat) (d : Int32) (n : Nat → Int32) (f : Nat → Nat → Int32) (g : Nat → Nat → Int64) : Int32 × mS := if ¬ (1 ≤ d ∧ d ≤ 400) then oNo 1 n f g else if ¬ n 1 + d ≤ 1460 then oNo 2 n f g else (nI ((n 1).toNatClampNeg + d.toNatClampNeg), mDays ni (n 1).toNatClampNeg (nup n 0 0, f, g) d.toNatClampNeg)
theorem mDays_o {ni t : Nat} {s : mS} {j : Nat} (h1 : j ≠ 17) (h2 : j ≠ 18) : ∀ k, (mDays ni t s k).2.1 j = s.2.1 j := by
  intro k
  induction k with
  | zero => rfl
  | succ k ih =>
    show (mDS _ _ _ _ ni).1 j = _
    rw [mDS_o h1 h2, ih]
theorem xI_d {n : Nat → Int32} {nc ni np nl : Nat} {w : Int32} (h : xI n nc ni np nl) : xI (nup n 1 w) nc ni np nl := h
theorem mDays_I {ni t : Nat} {s : mS} {nc ni' np nl : Nat} (h : xI s.1 nc ni' np nl) : ∀ k, xI (mDays ni t s k).1 nc ni' np nl := by
  intro k
  induction k with
  | zero => exact h
  | succ k ih => exact xI_1 ih
theorem mDays_t {ni t : Nat} {s : mS} (h : s.1 1 = nI t) : ∀ k, (mDays ni t s k).1 1 = nI (t + k) := by
  intro k
  cases k with
  | zero => exact h
  | succ k => exact (nup_s : nup (mDays ni t s k).1 1 (nI (t + k + 1)) 1 = nI (t + k + 1))
set_option maxRecDepth 100000 in
set_option maxHeartbeats 4000000 in
theorem m_X7_passDay {l : Launch} {N0 : Nat} {D : va_G} {dT : Nat → ClassId} (hflags : l.stackTraces = false) {h : xH} {n : Nat → Int32} {f : Nat → Nat → Int32} {g : Nat → Nat → Int64} {nc ni np nl : Nat} (hI : xI n nc ni np nl) {t : Nat} (hO : ∀ i, i < ni → ∃ k, k < 6 ∧ f 10 i = nI k) (ht : n 1 = nI t) (ht2 : t < 1460)  : xMet l N0 D dT yX7_passDay cX7_passDay 4 none 3 0 0 [.ref 200] (xM h n f g) xNo (fun r h' => r = none ∧ h' = xM h (mDay ni t (n, f, g)).1 (mDay ni t (n, f, g)).2.1 (mDay ni t (n, f, g)).2.2) xNX := by
  refine xMet_of hflags (by decide +kernel) (fun _ _ h => h) (Nat.le_of_ble_eq_true rfl) ?_
  intro E C I hret hthr
  refine a_loc [(0, .ref 200)] (xsub_cons rfl (xsub_nil)) ?_
  obtain ⟨hc, hi, hpy, hln, hc6, hi24, hp24, hlm⟩ := id hI
  have loop : ∀ (k i : Nat), i ≤ ni → ni < i + k → aW E 0 0 (xM h n (mDS n t f g i).1 (mDS n t f g i).2) 2 [(0, .ref 200), (1, .int (nI i))] [] := by
    intro k
    induction k with
    | zero => intro i h1 h2; exact absurd h2 (by omega)
    | succ k ih =>
      intro i h1 h2
      refine a_iload_n (i := 1) C dX7_passDay_2 rfl rfl ?_
      refine a_aload_n (i := 0) C dX7_passDay_3 rfl rfl ?_
      refine a_get C dX7_passDay_4 fl_X7_86 xM_0 (by first | exact congrArg (fun z => some (Value.int z)) hi | rfl) ?_
      refine a_icmp_ge (tgt := 169) C dX7_passDay_7 (by decide) (fun c7 => ?_) (fun c7 => ?_)
      · have hie : i = ni := by
          have := (xle (by omega) (by omega)).mp c7
          omega
        rw [hie]
        refine a_aload_n (i := 0) C dX7_passDay_169 rfl rfl ?_
        refine a_dup C dX7_passDay_170 rfl ?_
        refine a_get C dX7_passDay_171 fl_X7_112 xM_0 rfl ?_
        refine a_iconst (v := 1) C dX7_passDay_174 (by decide) ?_
        refine a_iadd C dX7_passDay_175 ?_
        refine a_top (nI (t + 1)) (by rw [ht]; exact nI_1 t) ?_
        refine a_put C dX7_passDay_176 fl_X7_112 xM_0 (Nat.le_of_ble_eq_true rfl) rfl rfl ?_
        refine a_hp xMp_1 ?_
        exact a_vret C dX7_passDay_179 (Nat.le_of_ble_eq_true rfl) (Nat.le_of_ble_eq_true rfl) (hret _ _ ⟨rfl, rfl⟩)
      · have hlt : i < ni := by
          rcases Nat.lt_or_ge i ni with q | q
          · exact q
          · exact absurd ((xle (by omega) (by omega)).mpr q) c7
        obtain ⟨w, hw6, hok9⟩ := hO i hlt
        have ew : xow (mDS n t f g i).1 i = w := xow_eq ((congrFun (mDS_o (by decide) (by decide) i) i).trans hok9) (by omega)
        have ew2 : (mDS n t f g i).1 10 i = nI w := (congrFun (mDS_o (by decide) (by decide) i) i).trans hok9
        refine a_aload_n (i := 0) C dX7_passDay_10 rfl rfl ?_
        refine a_get C dX7_passDay_11 fl_X7_22 xM_0 rfl ?_
        refine a_iload_n (i := 1) C dX7_passDay_14 rfl rfl ?_
        refine a_ialdV C (nI w) dX7_passDay_15 xM_10 ⟨by omega, by omega⟩ ew2 ?_
        refine a_istore_n (i := 2) C dX7_passDay_16 rfl (by decide) ?_
        refine a_aload_n (i := 0) C dX7_passDay_17 rfl rfl ?_
        refine a_get C dX7_passDay_18 fl_X7_28 xM_0 rfl ?_
        refine a_iload_n (i := 1) C dX7_passDay_21 rfl rfl ?_
        refine a_ialdI C dX7_passDay_22 xM_12 ⟨by omega, by omega⟩ ?_
        refine a_aload_n (i := 0) C dX7_passDay_23 rfl rfl ?_
        refine a_get C dX7_passDay_24 fl_X7_112 xM_0 rfl ?_
        refine a_icmp_gt (tgt := 34) C dX7_passDay_27 (by decide) (fun c27 => ?_) (fun c27 => ?_)
        · refine a_iconst (v := 0) C dX7_passDay_34 (by decide) ?_
          refine a_istore_n (i := 3) C dX7_passDay_35 rfl (by decide) ?_
          refine a_iload_n (i := 3) C dX7_passDay_36 rfl rfl ?_
          refine a_if_eq (tgt := 93) C dX7_passDay_37 (by decide) (fun _ => ?_) (fun z => absurd (by decide) z)
          refine a_hp (show _ = xM h n (mDS n t f g i).1 (mDg n t i (mDS n t f g i).1 (mDS n t f g i).2) by unfold mDg; first | (rw [if_neg (fun z => absurd z.1 (Int32.not_le.mpr c27))]; done) | (rw [if_neg (fun z => c46 z.2)]; done) | (rw [if_pos ⟨Int32.not_lt.mp c27, c46⟩]; unfold xacd; rw [ew]; done)) ?_
          refine a_iload_n (i := 3) C dX7_passDay_93 rfl rfl ?_
          refine a_if_eq (tgt := 163) C dX7_passDay_94 (by decide) (fun _ => ?_) (fun z => absurd (by decide) z)
          refine a_hp (show _ = xM h n (mDS n t f g (i + 1)).1 (mDS n t f g (i + 1)).2 by show _ = xM h n (mDf n i (mDS n t f g i).1) (mDg n t i (mDS n t f g i).1 (mDS n t f g i).2); unfold mDf; first | (rw [if_neg (fun z => absurd z.1 (Int32.not_le.mpr c27))]; done) | (rw [if_neg (fun z => b0 c102 z.2.1)]; done) | (rw [if_neg (fun z => absurd z.2.2 (by rw [ew]; exact Int32.not_le.mpr c115))]; done) | (rw [if_pos ⟨Int32.not_lt.mp c27, bn c102, by rw [ew]; exact Int32.not_lt.mp c115⟩, if_neg c143]; done) | (rw [if_pos ⟨Int32.not_lt.mp c27, bn c102, by rw [ew]; exact Int32.not_lt.mp c115⟩, if_pos c143]; exact congrArg (fun z => xM h n z _) mD_fin)) ?_
          refine a_iinc (i := 1) (v := nI (i + 1)) C dX7_passDay_163 rfl (nI_1 i) (by decide) ?_
          refine a_goto (tgt := 2) C dX7_passDay_166 (by decide) ?_
          refine a_loc _ ?_ (ih (i + 1) (by omega) (by omega))
          exact xsub_cons rfl (xsub_cons rfl (xsub_nil))
        · refine a_iconst (v := 1) C dX7_passDay_30 (by decide) ?_
          refine a_goto (tgt := 35) C dX7_passDay_31 (by decide) ?_
          refine a_istore_n (i := 3) C dX7_passDay_35 rfl (by decide) ?_
          refine a_iload_n (i := 3) C dX7_passDay_36 rfl rfl ?_
          refine a_if_eq (tgt := 93) C dX7_passDay_37 (by decide) (fun z => absurd z (by decide)) (fun _ => ?_)
          refine a_aload_n (i := 0) C dX7_passDay_40 rfl rfl ?_
          refine a_get C dX7_passDay_41 fl_X7_41 xM_0 rfl ?_
          refine a_iload_n (i := 1) C dX7_passDay_44 rfl rfl ?_
          refine a_zaldI C dX7_passDay_45 xM_16 ⟨by omega, by omega⟩ ?_
          refine a_if_ne (tgt := 93) C dX7_passDay_46 (by decide) (fun c46 => ?_) (fun c46 => ?_)
          · refine a_hp (show _ = xM h n (mDS n t f g i).1 (mDg n t i (mDS n t f g i).1 (mDS n t f g i).2) by unfold mDg; first | (rw [if_neg (fun z => absurd z.1 (Int32.not_le.mpr c27))]; done) | (rw [if_neg (fun z => c46 z.2)]; done) | (rw [if_pos ⟨Int32.not_lt.mp c27, c46⟩]; unfold xacd; rw [ew]; done)) ?_
            refine a_iload_n (i := 3) C dX7_passDay_93 rfl rfl ?_
            refine a_if_eq (tgt := 163) C dX7_passDay_94 (by decide) (fun z => absurd z (by decide)) (fun _ => ?_)
            refine a_aload_n (i := 0) C dX7_passDay_97 rfl rfl ?_
            refine a_iload_n (i := 1) C dX7_passDay_98 rfl rfl ?_
            refine a_callV C dX7_passDay_99 cv_X7_isReminded tb1081 (m_X7_isReminded hflags (i := i) (by omega)) rfl rfl xM_0 rfl (Nat.le_of_ble_eq_true rfl) ⟨Nat.le_of_ble_eq_true rfl, Nat.le_of_ble_eq_true rfl⟩ ⟨Nat.le_of_ble_eq_true rfl, Nat.le_of_ble_eq_true rfl⟩ (fun _ h => h.elim) xav_no (fun _ _ h => h.elim) (fun r99 hp99 hq99 => ?_)
            obtain ⟨rfl, rfl⟩ := hq99
            refine a_if_eq (tgt := 163) C dX7_passDay_102 (by decide) (fun c102 => ?_) (fun c102 => ?_)
            · refine a_hp (show _ = xM h n (mDS n t f g (i + 1)).1 (mDS n t f g (i + 1)).2 by show _ = xM h n (mDf n i (mDS n t f g i).1) (mDg n t i (mDS n t f g i).1 (mDS n t f g i).2); unfold mDf; first | (rw [if_neg (fun z => absurd z.1 (Int32.not_le.mpr c27))]; done) | (rw [if_neg (fun z => b0 c102 z.2.1)]; done) | (rw [if_neg (fun z => absurd z.2.2 (by rw [ew]; exact Int32.not_le.mpr c115))]; done) | (rw [if_pos ⟨Int32.not_lt.mp c27, bn c102, by rw [ew]; exact Int32.not_lt.mp c115⟩, if_neg c143]; done) | (rw [if_pos ⟨Int32.not_lt.mp c27, bn c102, by rw [ew]; exact Int32.not_lt.mp c115⟩, if_pos c143]; exact congrArg (fun z => xM h n z _) mD_fin)) ?_
              refine a_iinc (i := 1) (v := nI (i + 1)) C dX7_passDay_163 rfl (nI_1 i) (by decide) ?_
              refine a_goto (tgt := 2) C dX7_passDay_166 (by decide) ?_
              refine a_loc _ ?_ (ih (i + 1) (by omega) (by omega))
              exact xsub_cons rfl (xsub_cons rfl (xsub_nil))
            · refine a_aload_n (i := 0) C dX7_passDay_105 rfl rfl ?_
              refine a_get C dX7_passDay_106 fl_X7_112 xM_0 rfl ?_
              refine a_aload_n (i := 0) C dX7_passDay_109 rfl rfl ?_
              refine a_get C dX7_passDay_110 fl_X7_19 xM_0 rfl ?_
              refine a_iload_n (i := 2) C dX7_passDay_113 rfl rfl ?_
              refine a_ialdI C dX7_passDay_114 xM_9 ⟨by omega, by omega⟩ ?_
              refine a_icmp_lt (tgt := 163) C dX7_passDay_115 (by decide) (fun c115 => ?_) (fun c115 => ?_)
              · refine a_hp (show _ = xM h n (mDS n t f g (i + 1)).1 (mDS n t f g (i + 1)).2 by show _ = xM h n (mDf n i (mDS n t f g i).1) (mDg n t i (mDS n t f g i).1 (mDS n t f g i).2); unfold mDf; first | (rw [if_neg (fun z => absurd z.1 (Int32.not_le.mpr c27))]; done) | (rw [if_neg (fun z => b0 c102 z.2.1)]; done) | (rw [if_neg (fun z => absurd z.2.2 (by rw [ew]; exact Int32.not_le.mpr c115))]; done) | (rw [if_pos ⟨Int32.not_lt.mp c27, bn c102, by rw [ew]; exact Int32.not_lt.mp c115⟩, if_neg c143]; done) | (rw [if_pos ⟨Int32.not_lt.mp c27, bn c102, by rw [ew]; exact Int32.not_lt.mp c115⟩, if_pos c143]; exact congrArg (fun z => xM h n z _) mD_fin)) ?_
                refine a_iinc (i := 1) (v := nI (i + 1)) C dX7_passDay_163 rfl (nI_1 i) (by decide) ?_
                refine a_goto (tgt := 2) C dX7_passDay_166 (by decide) ?_
                refine a_loc _ ?_ (ih (i + 1) (by omega) (by omega))
                exact xsub_cons rfl (xsub_cons rfl (xsub_nil))
              · refine a_aload_n (i := 0) C dX7_passDay_118 rfl rfl ?_
                refine a_get C dX7_passDay_119 fl_X7_48 xM_0 rfl ?_
                refine a_iload_n (i := 1) C dX7_passDay_122 rfl rfl ?_
                refine a_dup2 C dX7_passDay_123 rfl rfl ?_
                refine a_ialdI C dX7_passDay_124 xM_18 ⟨by omega, by omega⟩ ?_
                refine a_iconst (v := 1) C dX7_passDay_125 (by decide) ?_
                refine a_iadd C dX7_passDay_126 ?_
                refine a_iastI C dX7_passDay_127 xM_18 ⟨by omega, by omega⟩ ?_
                refine a_hp xMw_18 ?_
                refine a_aload_n (i := 0) C dX7_passDay_128 rfl rfl ?_
                refine a_get C dX7_passDay_129 fl_X7_48 xM_0 rfl ?_
                refine a_iload_n (i := 1) C dX7_passDay_132 rfl rfl ?_
                refine a_ialdV C ((mDS n t f g i).1 18 i + 1) dX7_passDay_133 xM_18 ⟨by omega, by omega⟩ xupd_i ?_
                refine a_aload_n (i := 0) C dX7_passDay_134 rfl rfl ?_
                refine a_get C dX7_passDay_135 fl_X7_45 xM_0 rfl ?_
                refine a_iload_n (i := 1) C dX7_passDay_138 rfl rfl ?_
                refine a_ialdI C dX7_passDay_139 xM_17 ⟨by omega, by omega⟩ ?_
                refine a_callS C dX7_passDay_140 cs_X7_patience tb1085 (m_X7_patience hflags) rfl rfl (Nat.le_of_ble_eq_true rfl) ⟨Nat.le_of_ble_eq_true rfl, Nat.le_of_ble_eq_true rfl⟩ ⟨Nat.le_of_ble_eq_true rfl, Nat.le_of_ble_eq_true rfl⟩ (fun _ h => h.elim) xav_no (fun _ _ h => h.elim) (fun r140 hp140 hq140 => ?_)
                obtain ⟨rfl, rfl⟩ := hq140
                refine a_top (xpat ((mDS n t f g i).1 17 i)) rfl ?_
                refine a_icmp_ne (tgt := 163) C dX7_passDay_143 (by decide) (fun c143 => ?_) (fun c143 => ?_)
                · refine a_hp (show _ = xM h n (mDS n t f g (i + 1)).1 (mDS n t f g (i + 1)).2 by show _ = xM h n (mDf n i (mDS n t f g i).1) (mDg n t i (mDS n t f g i).1 (mDS n t f g i).2); unfold mDf; first | (rw [if_neg (fun z => absurd z.1 (Int32.not_le.mpr c27))]; done) | (rw [if_neg (fun z => b0 c102 z.2.1)]; done) | (rw [if_neg (fun z => absurd z.2.2 (by rw [ew]; exact Int32.not_le.mpr c115))]; done) | (rw [if_pos ⟨Int32.not_lt.mp c27, bn c102, by rw [ew]; exact Int32.not_lt.mp c115⟩, if_neg c143]; done) | (rw [if_pos ⟨Int32.not_lt.mp c27, bn c102, by rw [ew]; exact Int32.not_lt.mp c115⟩, if_pos c143]; exact congrArg (fun z => xM h n z _) mD_fin)) ?_
                  refine a_iinc (i := 1) (v := nI (i + 1)) C dX7_passDay_163 rfl (nI_1 i) (by decide) ?_
                  refine a_goto (tgt := 2) C dX7_passDay_166 (by decide) ?_
                  refine a_loc _ ?_ (ih (i + 1) (by omega) (by omega))
                  exact xsub_cons rfl (xsub_cons rfl (xsub_nil))
                · refine a_aload_n (i := 0) C dX7_passDay_146 rfl rfl ?_
                  refine a_get C dX7_passDay_147 fl_X7_45 xM_0 rfl ?_
                  refine a_iload_n (i := 1) C dX7_passDay_150 rfl rfl ?_
                  refine a_dup2 C dX7_passDay_151 rfl rfl ?_
                  refine a_ialdI C dX7_passDay_152 xM_17 ⟨by omega, by omega⟩ ?_
                  refine a_iconst (v := 1) C dX7_passDay_153 (by decide) ?_
                  refine a_iadd C dX7_passDay_154 ?_
                  refine a_iastI C dX7_passDay_155 xM_17 ⟨by omega, by omega⟩ ?_
                  refine a_hp xMw_17 ?_
                  refine a_aload_n (i := 0) C dX7_passDay_156 rfl rfl ?_
                  refine a_get C dX7_passDay_157 fl_X7_48 xM_0 rfl ?_
                  refine a_iload_n (i := 1) C dX7_passDay_160 rfl rfl ?_
                  refine a_iconst (v := 0) C dX7_passDay_161 (by decide) ?_
                  refine a_iastI C dX7_passDay_162 xM_18 ⟨by omega, by omega⟩ ?_
                  refine a_hp xMw_18 ?_
                  refine a_hp (show _ = xM h n (mDS n t f g (i + 1)).1 (mDS n t f g (i + 1)).2 by show _ = xM h n (mDf n i (mDS n t f g i).1) (mDg n t i (mDS n t f g i).1 (mDS n t f g i).2); unfold mDf; first | (rw [if_neg (fun z => absurd z.1 (Int32.not_le.mpr c27))]; done) | (rw [if_neg (fun z => b0 c102 z.2.1)]; done) | (rw [if_neg (fun z => absurd z.2.2 (by rw [ew]; exact Int32.not_le.mpr c115))]; done) | (rw [if_pos ⟨Int32.not_lt.mp c27, bn c102, by rw [ew]; exact Int32.not_lt.mp c115⟩, if_neg c143]; done) | (rw [if_pos ⟨Int32.not_lt.mp c27, bn c102, by rw [ew]; exact Int32.not_lt.mp c115⟩, if_pos c143]; exact congrArg (fun z => xM h n z _) mD_fin)) ?_
                  refine a_iinc (i := 1) (v := nI (i + 1)) C dX7_passDay_163 rfl (nI_1 i) (by decide) ?_
                  refine a_goto (tgt := 2) C dX7_passDay_166 (by decide) ?_
                  refine a_loc _ ?_ (ih (i + 1) (by omega) (by omega))
                  exact xsub_cons rfl (xsub_cons rfl (xsub_nil))
          · refine a_aload_n (i := 0) C dX7_passDay_49 rfl rfl ?_
            refine a_get C dX7_passDay_50 fl_X7_37 xM_0 rfl ?_
            refine a_iload_n (i := 1) C dX7_passDay_53 rfl rfl ?_
            refine a_dup2 C dX7_passDay_54 rfl rfl ?_
            refine a_laldI C dX7_passDay_55 xM_15 ⟨by omega, by omega⟩ ?_
            refine a_aload_n (i := 0) C dX7_passDay_56 rfl rfl ?_
            refine a_iload_n (i := 1) C dX7_passDay_57 rfl rfl ?_
            refine a_callV C dX7_passDay_58 cv_X7_clear tb1068 (m_X7_clear hflags (i := i) (by omega)) rfl rfl xM_0 rfl (Nat.le_of_ble_eq_true rfl) ⟨Nat.le_of_ble_eq_true rfl, Nat.le_of_ble_eq_true rfl⟩ ⟨Nat.le_of_ble_eq_true rfl, Nat.le_of_ble_eq_true rfl⟩ (fun _ h => h.elim) xav_no (fun _ _ h => h.elim) (fun r58 hp58 hq58 => ?_)
            obtain ⟨rfl, rfl⟩ := hq58
            refine a_i2l C dX7_passDay_61 ?_
            refine a_aload_n (i := 0) C dX7_passDay_62 rfl rfl ?_
            refine a_get C dX7_passDay_63 fl_X7_16 xM_0 rfl ?_
            refine a_iload_n (i := 2) C dX7_passDay_66 rfl rfl ?_
            refine a_ialdI C dX7_passDay_67 xM_8 ⟨by omega, by omega⟩ ?_
            refine a_i2l C dX7_passDay_68 ?_
            refine a_lmul C dX7_passDay_69 ?_
            refine a_aload_n (i := 0) C dX7_passDay_70 rfl rfl ?_
            refine a_get C dX7_passDay_71 fl_X7_13 xM_0 rfl ?_
            refine a_iload_n (i := 2) C dX7_passDay_74 rfl rfl ?_
            refine a_ialdI C dX7_passDay_75 xM_7 ⟨by omega, by omega⟩ ?_
            refine a_aload_n (i := 0) C dX7_passDay_76 rfl rfl ?_
            refine a_get C dX7_passDay_77 fl_X7_112 xM_0 (congrArg (fun z => some (Value.int z)) ht) ?_
            refine a_aload_n (i := 0) C dX7_passDay_80 rfl rfl ?_
            refine a_get C dX7_passDay_81 fl_X7_112 xM_0 (congrArg (fun z => some (Value.int z)) ht) ?_
            refine a_iconst (v := 1) C dX7_passDay_84 (by decide) ?_
            refine a_iadd C dX7_passDay_85 ?_
            refine a_top (nI (t + 1)) (nI_1 t) ?_
            refine a_callS C dX7_passDay_86 cs_X7_between tb1072 (m_X7_between hflags (by omega) (by omega)) rfl rfl (Nat.le_of_ble_eq_true rfl) ⟨Nat.le_of_ble_eq_true rfl, Nat.le_of_ble_eq_true rfl⟩ ⟨Nat.le_of_ble_eq_true rfl, Nat.le_of_ble_eq_true rfl⟩ (fun _ h => h.elim) xav_no (fun _ _ h => h.elim) (fun r86 hp86 hq86 => ?_)
            obtain ⟨rfl, rfl⟩ := hq86
            refine a_i2l C dX7_passDay_89 ?_
            refine a_lmul C dX7_passDay_90 ?_
            refine a_ladd C dX7_passDay_91 ?_
            refine a_lastI C dX7_passDay_92 xM_15 ⟨by omega, by omega⟩ ?_
            refine a_hp xMw_15 ?_
            refine a_hp (show _ = xM h n (mDS n t f g i).1 (mDg n t i (mDS n t f g i).1 (mDS n t f g i).2) by unfold mDg; first | (rw [if_neg (fun z => absurd z.1 (Int32.not_le.mpr c27))]; done) | (rw [if_neg (fun z => c46 z.2)]; done) | (rw [if_pos ⟨Int32.not_lt.mp c27, c46⟩]; unfold xacd; rw [ew]; done)) ?_
            refine a_iload_n (i := 3) C dX7_passDay_93 rfl rfl ?_
            refine a_if_eq (tgt := 163) C dX7_passDay_94 (by decide) (fun z => absurd z (by decide)) (fun _ => ?_)
            refine a_aload_n (i := 0) C dX7_passDay_97 rfl rfl ?_
            refine a_iload_n (i := 1) C dX7_passDay_98 rfl rfl ?_
            refine a_callV C dX7_passDay_99 cv_X7_isReminded tb1081 (m_X7_isReminded hflags (i := i) (by omega)) rfl rfl xM_0 rfl (Nat.le_of_ble_eq_true rfl) ⟨Nat.le_of_ble_eq_true rfl, Nat.le_of_ble_eq_true rfl⟩ ⟨Nat.le_of_ble_eq_true rfl, Nat.le_of_ble_eq_true rfl⟩ (fun _ h => h.elim) xav_no (fun _ _ h => h.elim) (fun r99 hp99 hq99 => ?_)
            obtain ⟨rfl, rfl⟩ := hq99
            refine a_if_eq (tgt := 163) C dX7_passDay_102 (by decide) (fun c102 => ?_) (fun c102 => ?_)
            · refine a_hp (show _ = xM h n (mDS n t f g (i + 1)).1 (mDS n t f g (i + 1)).2 by show _ = xM h n (mDf n i (mDS n t f g i).1) (mDg n t i (mDS n t f g i).1 (mDS n t f g i).2); unfold mDf; first | (rw [if_neg (fun z => absurd z.1 (Int32.not_le.mpr c27))]; done) | (rw [if_neg (fun z => b0 c102 z.2.1)]; done) | (rw [if_neg (fun z => absurd z.2.2 (by rw [ew]; exact Int32.not_le.mpr c115))]; done) | (rw [if_pos ⟨Int32.not_lt.mp c27, bn c102, by rw [ew]; exact Int32.not_lt.mp c115⟩, if_neg c143]; done) | (rw [if_pos ⟨Int32.not_lt.mp c27, bn c102, by rw [ew]; exact Int32.not_lt.mp c115⟩, if_pos c143]; exact congrArg (fun z => xM h n z _) mD_fin)) ?_
              refine a_iinc (i := 1) (v := nI (i + 1)) C dX7_passDay_163 rfl (nI_1 i) (by decide) ?_
              refine a_goto (tgt := 2) C dX7_passDay_166 (by decide) ?_
              refine a_loc _ ?_ (ih (i + 1) (by omega) (by omega))
              exact xsub_cons rfl (xsub_cons rfl (xsub_nil))
            · refine a_aload_n (i := 0) C dX7_passDay_105 rfl rfl ?_
              refine a_get C dX7_passDay_106 fl_X7_112 xM_0 rfl ?_
              refine a_aload_n (i := 0) C dX7_passDay_109 rfl rfl ?_
              refine a_get C dX7_passDay_110 fl_X7_19 xM_0 rfl ?_
              refine a_iload_n (i := 2) C dX7_passDay_113 rfl rfl ?_
              refine a_ialdI C dX7_passDay_114 xM_9 ⟨by omega, by omega⟩ ?_
              refine a_icmp_lt (tgt := 163) C dX7_passDay_115 (by decide) (fun c115 => ?_) (fun c115 => ?_)
              · refine a_hp (show _ = xM h n (mDS n t f g (i + 1)).1 (mDS n t f g (i + 1)).2 by show _ = xM h n (mDf n i (mDS n t f g i).1) (mDg n t i (mDS n t f g i).1 (mDS n t f g i).2); unfold mDf; first | (rw [if_neg (fun z => absurd z.1 (Int32.not_le.mpr c27))]; done) | (rw [if_neg (fun z => b0 c102 z.2.1)]; done) | (rw [if_neg (fun z => absurd z.2.2 (by rw [ew]; exact Int32.not_le.mpr c115))]; done) | (rw [if_pos ⟨Int32.not_lt.mp c27, bn c102, by rw [ew]; exact Int32.not_lt.mp c115⟩, if_neg c143]; done) | (rw [if_pos ⟨Int32.not_lt.mp c27, bn c102, by rw [ew]; exact Int32.not_lt.mp c115⟩, if_pos c143]; exact congrArg (fun z => xM h n z _) mD_fin)) ?_
                refine a_iinc (i := 1) (v := nI (i + 1)) C dX7_passDay_163 rfl (nI_1 i) (by decide) ?_
                refine a_goto (tgt := 2) C dX7_passDay_166 (by decide) ?_
                refine a_loc _ ?_ (ih (i + 1) (by omega) (by omega))
                exact xsub_cons rfl (xsub_cons rfl (xsub_nil))
              · refine a_aload_n (i := 0) C dX7_passDay_118 rfl rfl ?_
                refine a_get C dX7_passDay_119 fl_X7_48 xM_0 rfl ?_
                refine a_iload_n (i := 1) C dX7_passDay_122 rfl rfl ?_
                refine a_dup2 C dX7_passDay_123 rfl rfl ?_
                refine a_ialdI C dX7_passDay_124 xM_18 ⟨by omega, by omega⟩ ?_
                refine a_iconst (v := 1) C dX7_passDay_125 (by decide) ?_
                refine a_iadd C dX7_passDay_126 ?_
                refine a_iastI C dX7_passDay_127 xM_18 ⟨by omega, by omega⟩ ?_
                refine a_hp xMw_18 ?_
                refine a_aload_n (i := 0) C dX7_passDay_128 rfl rfl ?_
                refine a_get C dX7_passDay_129 fl_X7_48 xM_0 rfl ?_
                refine a_iload_n (i := 1) C dX7_passDay_132 rfl rfl ?_
                refine a_ialdV C ((mDS n t f g i).1 18 i + 1) dX7_passDay_133 xM_18 ⟨by omega, by omega⟩ xupd_i ?_
                refine a_aload_n (i := 0) C dX7_passDay_134 rfl rfl ?_
                refine a_get C dX7_passDay_135 fl_X7_45 xM_0 rfl ?_
                refine a_iload_n (i := 1) C dX7_passDay_138 rfl rfl ?_
                refine a_ialdI C dX7_passDay_139 xM_17 ⟨by omega, by omega⟩ ?_
                refine a_callS C dX7_passDay_140 cs_X7_patience tb1085 (m_X7_patience hflags) rfl rfl (Nat.le_of_ble_eq_true rfl) ⟨Nat.le_of_ble_eq_true rfl, Nat.le_of_ble_eq_true rfl⟩ ⟨Nat.le_of_ble_eq_true rfl, Nat.le_of_ble_eq_true rfl⟩ (fun _ h => h.elim) xav_no (fun _ _ h => h.elim) (fun r140 hp140 hq140 => ?_)
                obtain ⟨rfl, rfl⟩ := hq140
                refine a_top (xpat ((mDS n t f g i).1 17 i)) rfl ?_
                refine a_icmp_ne (tgt := 163) C dX7_passDay_143 (by decide) (fun c143 => ?_) (fun c143 => ?_)
                · refine a_hp (show _ = xM h n (mDS n t f g (i + 1)).1 (mDS n t f g (i + 1)).2 by show _ = xM h n (mDf n i (mDS n t f g i).1) (mDg n t i (mDS n t f g i).1 (mDS n t f g i).2); unfold mDf; first | (rw [if_neg (fun z => absurd z.1 (Int32.not_le.mpr c27))]; done) | (rw [if_neg (fun z => b0 c102 z.2.1)]; done) | (rw [if_neg (fun z => absurd z.2.2 (by rw [ew]; exact Int32.not_le.mpr c115))]; done) | (rw [if_pos ⟨Int32.not_lt.mp c27, bn c102, by rw [ew]; exact Int32.not_lt.mp c115⟩, if_neg c143]; done) | (rw [if_pos ⟨Int32.not_lt.mp c27, bn c102, by rw [ew]; exact Int32.not_lt.mp c115⟩, if_pos c143]; exact congrArg (fun z => xM h n z _) mD_fin)) ?_
                  refine a_iinc (i := 1) (v := nI (i + 1)) C dX7_passDay_163 rfl (nI_1 i) (by decide) ?_
                  refine a_goto (tgt := 2) C dX7_passDay_166 (by decide) ?_
                  refine a_loc _ ?_ (ih (i + 1) (by omega) (by omega))
                  exact xsub_cons rfl (xsub_cons rfl (xsub_nil))
                · refine a_aload_n (i := 0) C dX7_passDay_146 rfl rfl ?_
                  refine a_get C dX7_passDay_147 fl_X7_45 xM_0 rfl ?_
                  refine a_iload_n (i := 1) C dX7_passDay_150 rfl rfl ?_
                  refine a_dup2 C dX7_passDay_151 rfl rfl ?_
                  refine a_ialdI C dX7_passDay_152 xM_17 ⟨by omega, by omega⟩ ?_
                  refine a_iconst (v := 1) C dX7_passDay_153 (by decide) ?_
                  refine a_iadd C dX7_passDay_154 ?_
                  refine a_iastI C dX7_passDay_155 xM_17 ⟨by omega, by omega⟩ ?_
                  refine a_hp xMw_17 ?_
                  refine a_aload_n (i := 0) C dX7_passDay_156 rfl rfl ?_
                  refine a_get C dX7_passDay_157 fl_X7_48 xM_0 rfl ?_
                  refine a_iload_n (i := 1) C dX7_passDay_160 rfl rfl ?_
                  refine a_iconst (v := 0) C dX7_passDay_161 (by decide) ?_
                  refine a_iastI C dX7_passDay_162 xM_18 ⟨by omega, by omega⟩ ?_
                  refine a_hp xMw_18 ?_
                  refine a_hp (show _ = xM h n (mDS n t f g (i + 1)).1 (mDS n t f g (i + 1)).2 by show _ = xM h n (mDf n i (mDS n t f g i).1) (mDg n t i (mDS n t f g i).1 (mDS n t f g i).2); unfold mDf; first | (rw [if_neg (fun z => absurd z.1 (Int32.not_le.mpr c27))]; done) | (rw [if_neg (fun z => b0 c102 z.2.1)]; done) | (rw [if_neg (fun z => absurd z.2.2 (by rw [ew]; exact Int32.not_le.mpr c115))]; done) | (rw [if_pos ⟨Int32.not_lt.mp c27, bn c102, by rw [ew]; exact Int32.not_lt.mp c115⟩, if_neg c143]; done) | (rw [if_pos ⟨Int32.not_lt.mp c27, bn c102, by rw [ew]; exact Int32.not_lt.mp c115⟩, if_pos c143]; exact congrArg (fun z => xM h n z _) mD_fin)) ?_
                  refine a_iinc (i := 1) (v := nI (i + 1)) C dX7_passDay_163 rfl (nI_1 i) (by decide) ?_
                  refine a_goto (tgt := 2) C dX7_passDay_166 (by decide) ?_
                  refine a_loc _ ?_ (ih (i + 1) (by omega) (by omega))
                  exact xsub_cons rfl (xsub_cons rfl (xsub_nil))
  refine a_iconst (v := 0) C dX7_passDay_0 (by decide) ?_
  refine a_istore_n (i := 1) C dX7_passDay_1 rfl (by decide) ?_
  refine a_loc _ ?_ (loop (ni + 1) 0 (Nat.zero_le _) (by omega))
  exact xsub_cons rfl (xsub_cons rfl (xsub_nil))
set_option maxRecDepth 100000 in
set_option maxHeartbeats 4000000 in
theorem m_X7_passDays {l : Launch} {N0 : Nat} {D : va_G} {dT : Nat → ClassId} (hflags : l.stackTraces = false) {h : xH} {n : Nat → Int32} {f : Nat → Nat → Int32} {g : Nat → Nat → Int64} {nc ni np nl : Nat} (hI : xI n nc ni np nl) {d : Int32} {t : Nat} (hO : ∀ i, i < ni → ∃ k, k < 6 ∧ f 10 i = nI k) (ht : n 1 = nI t) (ht2 : t ≤ 1460)  : xMet l N0 D dT yX7_passDays cX7_passDays 3 (some FieldType.int) 4 0 0 [.ref 200, .int d] (xM h n f g) xNo (mP h (o_passDays ni d n f g)) xNX := by
  refine xMet_of hflags (by decide +kernel) (fun _ _ h => h) (Nat.le_of_ble_eq_true rfl) ?_
  intro E C I hret hthr
  refine a_loc [(0, .ref 200), (1, .int d)] (xsub_cons rfl (xsub_cons rfl (xsub_nil))) ?_
  obtain ⟨hc, hi, hpy, hln, hc6, hi24, hp24, hlm⟩ := id hI
  refine a_aload_n (i := 0) C dX7_passDays_0 rfl rfl ?_
  refine a_iload_n (i := 1) C dX7_passDays_1 rfl rfl ?_
  refine a_iconst (v := 1) C dX7_passDays_2 (by decide) ?_
  refine a_sipush (v := 400) C dX7_passDays_3 (by decide) ?_
  refine a_callS C dX7_passDays_6 cs_X7_within tb1029 (m_X7_within hflags) rfl rfl (Nat.le_of_ble_eq_true rfl) ⟨Nat.le_of_ble_eq_true rfl, Nat.le_of_ble_eq_true rfl⟩ ⟨Nat.le_of_ble_eq_true rfl, Nat.le_of_ble_eq_true rfl⟩ (fun _ h => h.elim) xav_no (fun _ _ h => h.elim) (fun r6 hp6 hq6 => ?_)
  obtain ⟨rfl, rfl⟩ := hq6
  refine a_if_ne (tgt := 16) C dX7_passDays_9 (by decide) (fun c9 => ?_) (fun c9 => ?_)
  · have e6 := bn c9
    refine a_aload_n (i := 0) C dX7_passDays_16 rfl rfl ?_
    refine a_get C dX7_passDays_17 fl_X7_112 xM_0 rfl ?_
    refine a_iload_n (i := 1) C dX7_passDays_20 rfl rfl ?_
    refine a_iadd C dX7_passDays_21 ?_
    refine a_sipush (v := 1460) C dX7_passDays_22 (by decide) ?_
    refine a_icmp_le (tgt := 32) C dX7_passDays_25 (by decide) (fun c25 => ?_) (fun c25 => ?_)
    · have e7 : n 1 + d ≤ 1460 := c25
      refine a_iconst (v := 0) C dX7_passDays_32 (by decide) ?_
      refine a_callV C dX7_passDays_33 cv_X7_refused tb1032 (m_X7_refused0 hflags) rfl rfl xM_0 rfl (Nat.le_of_ble_eq_true rfl) ⟨Nat.le_of_ble_eq_true rfl, Nat.le_of_ble_eq_true rfl⟩ ⟨Nat.le_of_ble_eq_true rfl, Nat.le_of_ble_eq_true rfl⟩ (fun _ h => h.elim) xav_no (fun _ _ h => h.elim) (fun r33 hp33 hq33 => ?_)
      obtain ⟨rfl, rfl⟩ := hq33
      refine a_if_eq (tgt := 41) C dX7_passDays_36 (by decide) (fun _ => ?_) (fun z => absurd (by decide) z)
      obtain ⟨dd, hdd, rfl⟩ := nI_of2 (n := 400) (by decide) (Int32.not_lt.mpr (Int32.le_trans (by decide) e6.1)) e6.2
      have hsm : t + dd ≤ 1460 := (xle (a := t + dd) (b := 1460) (by omega) (by omega)).mp (by rw [← nI_add, ← ht]; exact e7)
      have loop : ∀ (k i : Nat), i ≤ dd → dd < i + k → aW E 0 0 (xM h (mDays ni t (nup n 0 0, f, g) i).1 (mDays ni t (nup n 0 0, f, g) i).2.1 (mDays ni t (nup n 0 0, f, g) i).2.2) 43 [(0, .ref 200), (1, .int (nI dd)), (2, .int (nI i))] [] := by
        intro k
        induction k with
        | zero => intro i h1 h2; exact absurd h2 (by omega)
        | succ k ih =>
          intro i h1 h2
          refine a_iload_n (i := 2) C dX7_passDays_43 rfl rfl ?_
          refine a_iload_n (i := 1) C dX7_passDays_44 rfl rfl ?_
          refine a_icmp_ge (tgt := 58) C dX7_passDays_45 (by decide) (fun c45 => ?_) (fun c45 => ?_)
          · have hie : i = dd := by
              have := (xle (by omega) (by omega)).mp c45
              omega
            rw [hie]
            refine a_aload_n (i := 0) C dX7_passDays_58 rfl rfl ?_
            refine a_get C dX7_passDays_59 fl_X7_112 xM_0 (congrArg (fun z => some (Value.int z)) (mDays_t (ni := ni) (s := (nup n 0 0, f, g)) ht dd)) ?_
            exact a_iret C dX7_passDays_62 (Nat.le_of_ble_eq_true rfl) (Nat.le_of_ble_eq_true rfl) (hret _ _ (by unfold mP o_passDays; first | (rw [if_pos e6]; exact ⟨rfl, rfl⟩) | (rw [if_neg (fun z => z e6), if_pos e7]; exact ⟨rfl, rfl⟩) | (rw [if_neg (fun z => z e6), if_neg (fun z => z e7), nI_clamp (by omega), ht, nI_clamp (by omega)]; exact ⟨rfl, rfl⟩)))
          · have hlt : i < dd := by
              rcases Nat.lt_or_ge i dd with q | q
              · exact q
              · exact absurd ((xle (by omega) (by omega)).mpr q) c45
            refine a_aload_n (i := 0) C dX7_passDays_48 rfl rfl ?_
            refine a_callV C dX7_passDays_49 cv_X7_passDay tb1064 (m_X7_passDay hflags (mDays_I (ni := ni) (t := t) (s := (nup n 0 0, f, g)) (xI_0 hI) i) (t := t + i) (fun j hj => by rw [mDays_o (by decide) (by decide)]; exact hO j hj) (mDays_t ht i) (by omega)) rfl rfl xM_0 rfl (Nat.le_of_ble_eq_true rfl) ⟨Nat.le_of_ble_eq_true rfl, Nat.le_of_ble_eq_true rfl⟩ ⟨Nat.le_of_ble_eq_true rfl, Nat.le_of_ble_eq_true rfl⟩ (fun _ h => h.elim) xav_no (fun _ _ h => h.elim) (fun r49 hp49 hq49 => ?_)
            obtain ⟨rfl, rfl⟩ := hq49
            refine a_iinc (i := 2) (v := nI (i + 1)) C dX7_passDays_52 rfl (nI_1 i) (by decide) ?_
            refine a_goto (tgt := 43) C dX7_passDays_55 (by decide) ?_
            refine a_loc _ ?_ (ih (i + 1) (by omega) (by omega))
            exact xsub_cons rfl (xsub_cons rfl (xsub_cons rfl (xsub_nil)))
      refine a_iconst (v := 0) C dX7_passDays_41 (by decide) ?_
      refine a_istore_n (i := 2) C dX7_passDays_42 rfl (by decide) ?_
      refine a_loc _ ?_ (loop (dd + 1) 0 (Nat.zero_le _) (by omega))
      exact xsub_cons rfl (xsub_cons rfl (xsub_cons rfl (xsub_nil)))
    · have e7 : ¬ n 1 + d ≤ 1460 := c25
      refine a_iconst (v := 2) C dX7_passDays_28 (by decide) ?_
      refine a_goto (tgt := 33) C dX7_passDays_29 (by decide) ?_
      refine a_callV C dX7_passDays_33 cv_X7_refused tb1032 (m_X7_refused1 hflags (by decide)) rfl rfl xM_0 rfl (Nat.le_of_ble_eq_true rfl) ⟨Nat.le_of_ble_eq_true rfl, Nat.le_of_ble_eq_true rfl⟩ ⟨Nat.le_of_ble_eq_true rfl, Nat.le_of_ble_eq_true rfl⟩ (fun _ h => h.elim) xav_no (fun _ _ h => h.elim) (fun r33 hp33 hq33 => ?_)
      obtain ⟨rfl, rfl⟩ := hq33
      refine a_if_eq (tgt := 41) C dX7_passDays_36 (by decide) (fun z => absurd z (by decide)) (fun _ => ?_)
      refine a_iconst (v := 0) C dX7_passDays_39 (by decide) ?_
      exact a_iret C dX7_passDays_40 (Nat.le_of_ble_eq_true rfl) (Nat.le_of_ble_eq_true rfl) (hret _ _ (by unfold mP o_passDays; first | (rw [if_pos e6]; exact ⟨rfl, rfl⟩) | (rw [if_neg (fun z => z e6), if_pos e7]; exact ⟨rfl, rfl⟩) | (rw [if_neg (fun z => z e6), if_neg (fun z => z e7), nI_clamp (by omega), ht, nI_clamp (by omega)]; exact ⟨rfl, rfl⟩)))
  · have e6 := b0 c9
    refine a_iconst (v := 1) C dX7_passDays_12 (by decide) ?_
    refine a_goto (tgt := 33) C dX7_passDays_13 (by decide) ?_
    refine a_callV C dX7_passDays_33 cv_X7_refused tb1032 (m_X7_refused1 hflags (by decide)) rfl rfl xM_0 rfl (Nat.le_of_ble_eq_true rfl) ⟨Nat.le_of_ble_eq_true rfl, Nat.le_of_ble_eq_true rfl⟩ ⟨Nat.le_of_ble_eq_true rfl, Nat.le_of_ble_eq_true rfl⟩ (fun _ h => h.elim) xav_no (fun _ _ h => h.elim) (fun r33 hp33 hq33 => ?_)
    obtain ⟨rfl, rfl⟩ := hq33
    refine a_if_eq (tgt := 41) C dX7_passDays_36 (by decide) (fun z => absurd z (by decide)) (fun _ => ?_)
    refine a_iconst (v := 0) C dX7_passDays_39 (by decide) ?_
    exact a_iret C dX7_passDays_40 (Nat.le_of_ble_eq_true rfl) (Nat.le_of_ble_eq_true rfl) (hret _ _ (by unfold mP o_passDays; first | (rw [if_pos e6]; exact ⟨rfl, rfl⟩) | (rw [if_neg (fun z => z e6), if_pos e7]; exact ⟨rfl, rfl⟩) | (rw [if_neg (fun z => z e6), if_neg (fun z => z e7), nI_clamp (by omega), ht, nI_clamp (by omega)]; exact ⟨rfl, rfl⟩)))
