/-- the weights of a customer's clear amounts -/
def xwg (f : Nat → Nat → Int32) (c : Int32) (w : Nat → Int32) (i : Nat) : Nat → Int32 := fun q => if q < i ∧ f 10 q = c then f 13 q - f 14 q else w q
theorem xwg_0 {f : Nat → Nat → Int32} {c : Int32} {w : Nat → Int32} : xwg f c w 0 = w := by
  funext q
  exact if_neg (fun z => absurd z.1 (Nat.not_lt_zero q))
theorem xwg_t {f : Nat → Nat → Int32} {c : Int32} {w : Nat → Int32} {i : Nat} (h : f 10 i = c) : upd (xwg f c w i) i (f 13 i - f 14 i) = xwg f c w (i + 1) := by
  funext q
  by_cases hq : q = i
  · subst hq
    rw [xupd_i]
    exact (if_pos ⟨Nat.lt_succ_self q, h⟩).symm
  · rw [xud hq]
    unfold xwg
    have : (q < i ∧ f 10 q = c) ↔ (q < i + 1 ∧ f 10 q = c) := by
      constructor
      · exact fun z => ⟨by omega, z.2⟩
      · exact fun z => ⟨by omega, z.2⟩
    simp only [this]
theorem xwg_f {f : Nat → Nat → Int32} {c : Int32} {w : Nat → Int32} {i : Nat} (h : ¬ f 10 i = c) : xwg f c w i = xwg f c w (i + 1) := by
  funext q
  unfold xwg
  have : (q < i ∧ f 10 q = c) ↔ (q < i + 1 ∧ f 10 q = c) := by
    constructor
    · exact fun z => ⟨by omega, z.2⟩
    · intro z
      refine ⟨?_, z.2⟩
      rcases Nat.lt_or_ge q i with y | y
      · exact y
      · have : q = i := by omega
        exact absurd (this ▸ z.2) h
  simp only [this]
def xZ3 (jc : Nat → Nat → Int32) : Nat → Nat → Int32 := fup (fup jc 3 (xpre (fun _ => 0) (jc 3) 24)) 4 (xpre (fun _ => 0) (jc 4) 24)
def xWJ (f : Nat → Nat → Int32) (c : Int32) (jc : Nat → Nat → Int32) (i : Nat) : Nat → Nat → Int32 := fup (xZ3 jc) 3 (xwg f c (xZ3 jc 3) i)
theorem xWJ_0 {f : Nat → Nat → Int32} {c : Int32} {jc : Nat → Nat → Int32} : xWJ f c jc 0 = xZ3 jc := by
  unfold xWJ
  rw [xwg_0, fup_id]
/-- the oldest that wants a part -/
def cold (f : Nat → Nat → Int32) (jc : Nat → Nat → Int32) : Nat → Int32 × Int32
  | 0 => (-1, 0)
  | k + 1 => if (0 < jc 3 k ∧ jc 4 k = 0) ∧ ((cold f jc k).1 < 0 ∨ f 12 k < (cold f jc k).2) then (nI k, f 12 k) else cold f jc k
theorem cold_s {f : Nat → Nat → Int32} {jc : Nat → Nat → Int32} {k : Nat} : cold f jc (k + 1) = if (0 < jc 3 k ∧ jc 4 k = 0) ∧ ((cold f jc k).1 < 0 ∨ f 12 k < (cold f jc k).2) then (nI k, f 12 k) else cold f jc k := rfl
theorem cold_rng (f : Nat → Nat → Int32) (jc : Nat → Nat → Int32) : ∀ i, (cold f jc i).1 = -1 ∨ ∃ j, j < i ∧ (cold f jc i).1 = nI j := by
  intro i
  induction i with
  | zero => exact Or.inl rfl
  | succ i ih =>
    rw [cold_s]
    split
    · exact Or.inr ⟨i, Nat.lt_succ_self i, rfl⟩
    · rcases ih with h | ⟨j, h1, h2⟩
      · exact Or.inl h
      · exact Or.inr ⟨j, Nat.lt_succ_of_lt h1, h2⟩
abbrev cmn (w r : Int32) : Int32 := if r < w then r else w
/-- a part for the oldest -/
def cS1 (ni : Nat) (f : Nat → Nat → Int32) (jc : Nat → Nat → Int32) (s : (Nat → Int32) × Int32) : (Nat → Int32) × Int32 := if 0 < s.2 ∧ ¬ (cold f (fup jc 4 s.1) ni).1 < 0 then (upd s.1 (cold f (fup jc 4 s.1) ni).1.toNatClampNeg (cmn (jc 3 (cold f (fup jc 4 s.1) ni).1.toNatClampNeg) s.2), s.2 - cmn (jc 3 (cold f (fup jc 4 s.1) ni).1.toNatClampNeg) s.2) else s
def cSh (ni : Nat) (f : Nat → Nat → Int32) (jc : Nat → Nat → Int32) (a : Int32) : Nat → (Nat → Int32) × Int32
  | 0 => (jc 4, a)
  | k + 1 => cS1 ni f jc (cSh ni f jc a k)
theorem cSh_end {ni : Nat} {f : Nat → Nat → Int32} {jc : Nat → Nat → Int32} {a : Int32} {i : Nat} (h : cS1 ni f jc (cSh ni f jc a i) = cSh ni f jc a i) : ∀ m, i ≤ m → cSh ni f jc a m = cSh ni f jc a i := by
  intro m
  induction m with
  | zero => intro hm; rw [show i = 0 by omega]
  | succ m ih =>
    intro hm
    rcases Nat.lt_or_ge m i with z | z
    · rw [show i = m + 1 by omega]
    · show cS1 ni f jc (cSh ni f jc a m) = _
      rw [ih z, h]
theorem cS1_n {ni : Nat} {f : Nat → Nat → Int32} {jc : Nat → Nat → Int32} {s : (Nat → Int32) × Int32} (h : ¬ (0 < s.2 ∧ ¬ (cold f (fup jc 4 s.1) ni).1 < 0)) : cS1 ni f jc s = s := if_neg h
set_option maxRecDepth 100000 in
set_option maxHeartbeats 4000000 in
theorem m_X6_weighClearAmounts {l : Launch} {N0 : Nat} {D : va_G} {dT : Nat → ClassId} (hflags : l.stackTraces = false) {h : xH} {nc ni np nl : Nat} {n : Nat → Int32} {f : Nat → Nat → Int32} {g : Nat → Nat → Int64} {jc : Nat → Nat → Int32} {jr : Nat → Int64} (hB : nc ≤ 6 ∧ ni ≤ 24 ∧ np ≤ 24 ∧ nl ≤ 16000) {j : Nat} (hj : j < nc) (hO : ∀ i, i < ni → ∃ k, k < nc ∧ f 10 i = nI k)  : xMet l N0 D dT yX6_weighClearAmounts cX6_weighClearAmounts 4 none 4 0 0 [.ref 0, .ref (16 + j)] (xC h nc ni np nl (n 1) f g jc jr) xNo (fun r h' => r = none ∧ h' = xC h nc ni np nl (n 1) f g (xWJ f (nI j) jc ni) jr) xNX := by
  refine xMet_of hflags (by decide +kernel) (fun _ _ h => h) (Nat.le_of_ble_eq_true rfl) ?_
  intro E C I hret hthr
  refine a_loc [(0, .ref 0), (1, .ref (16 + j))] (xsub_cons rfl (xsub_cons rfl (xsub_nil))) ?_
  obtain ⟨hc6, hi24, hp24, hl16⟩ := id hB
  have loop : ∀ (k i : Nat), i ≤ ni → ni < i + k → aW E 0 0 (xC h nc ni np nl (n 1) f g (xWJ f (nI j) jc i) jr) 9 [(0, .ref 0), (1, .ref (16 + j)), (2, .int (nI i))] [] := by
    intro k
    induction k with
    | zero => intro i h1 h2; exact absurd h2 (by omega)
    | succ k ih =>
      intro i h1 h2
      refine a_iload_n (i := 2) C dX6_weighClearAmounts_9 rfl rfl ?_
      refine a_aload_n (i := 0) C dX6_weighClearAmounts_10 rfl rfl ?_
      refine a_get C dX6_weighClearAmounts_11 fl_X6_16 xC_0 rfl ?_
      refine a_callV C dX6_weighClearAmounts_14 cv_Jx4a65c_size_8abf5 tb142 (m_Jx4a65c_size_8abf5 hflags xC_2) rfl rfl xC_2 rfl (Nat.le_of_ble_eq_true rfl) ⟨Nat.le_of_ble_eq_true rfl, Nat.le_of_ble_eq_true rfl⟩ ⟨Nat.le_of_ble_eq_true rfl, Nat.le_of_ble_eq_true rfl⟩ (fun _ h => h.elim) xav_no (fun _ _ h => h.elim) (fun r14 hp14 hq14 => ?_)
      obtain ⟨rfl, rfl⟩ := hq14
      refine a_icmp_ge (tgt := 58) C dX6_weighClearAmounts_17 (by decide) (fun c17 => ?_) (fun c17 => ?_)
      · have hie : i = ni := by
          have := (xle (by omega) (by omega)).mp c17
          omega
        rw [hie]
        exact a_vret C dX6_weighClearAmounts_58 (Nat.le_of_ble_eq_true rfl) (Nat.le_of_ble_eq_true rfl) (hret _ _ ⟨rfl, rfl⟩)
      · have hlt : i < ni := by
          rcases Nat.lt_or_ge i ni with q | q
          · exact q
          · exact absurd ((xle (by omega) (by omega)).mpr q) c17
        refine a_aload_n (i := 0) C dX6_weighClearAmounts_20 rfl rfl ?_
        refine a_get C dX6_weighClearAmounts_21 fl_X6_16 xC_0 rfl ?_
        refine a_iload_n (i := 2) C dX6_weighClearAmounts_24 rfl rfl ?_
        refine a_callV C dX6_weighClearAmounts_25 cv_Jx4a65c_get_915e3 tb372 (m_Jx4a65c_get_915e3 hflags xC_2 (xC_l2 (by omega)) (by omega) (aCap_ge (by omega)) (Nat.lt_of_le_of_lt (aCap_le _) (by decide)) (xLr_lt (by omega))) rfl rfl xC_2 rfl (Nat.le_of_ble_eq_true rfl) ⟨Nat.le_of_ble_eq_true rfl, Nat.le_of_ble_eq_true rfl⟩ ⟨Nat.le_of_ble_eq_true rfl, Nat.le_of_ble_eq_true rfl⟩ (fun _ h => h.elim) xav_no (fun _ _ h => h.elim) (fun r25 hp25 hq25 => ?_)
        obtain ⟨rfl, rfl⟩ := hq25
        refine a_castS C dX6_weighClearAmounts_28 tb409 (xC_in (by omega) (by omega)) rfl rfl ?_
        refine a_astore_n (i := 3) C dX6_weighClearAmounts_31 rfl (by decide) ?_
        refine a_aload_n (i := 3) C dX6_weighClearAmounts_32 rfl rfl ?_
        refine a_get C dX6_weighClearAmounts_33 fl_X6_127 (xC_in (by omega) (by omega)) rfl ?_
        refine a_aload_n (i := 1) C dX6_weighClearAmounts_36 rfl rfl ?_
        refine a_acmp_ne (tgt := 52) C dX6_weighClearAmounts_37 (by decide) (xC_cu (xow_lt hO hc6 i hlt) hc6) (xC_cu hj hc6) (fun c37 => ?_) (fun c37 => ?_)
        · first
          | (refine a_hp (show _ = xC h nc ni np nl (n 1) f g (xWJ f (nI j) jc (i + 1)) jr by unfold xWJ; rw [fup_ff]; exact congrArg (fun z => xC h nc ni np nl (n 1) f g (fup (xZ3 jc) 3 z) jr) (xwg_t ((own_iff hO hc6 hlt hj).mp c37))) ?_)
          | (refine a_hp (show _ = xC h nc ni np nl (n 1) f g (xWJ f (nI j) jc (i + 1)) jr by unfold xWJ; rw [← xwg_f (fun z => c37 ((own_iff hO hc6 hlt hj).mpr z))]) ?_)
          refine a_iinc (i := 2) (v := nI (i + 1)) C dX6_weighClearAmounts_52 rfl (nI_1 i) (by decide) ?_
          refine a_goto (tgt := 9) C dX6_weighClearAmounts_55 (by decide) ?_
          refine a_loc _ ?_ (ih (i + 1) (by omega) (by omega))
          exact xsub_cons rfl (xsub_cons rfl (xsub_cons rfl (xsub_nil)))
        · refine a_aload_n (i := 0) C dX6_weighClearAmounts_40 rfl rfl ?_
          refine a_get C dX6_weighClearAmounts_41 fl_X6_32 xC_0 rfl ?_
          refine a_iload_n (i := 2) C dX6_weighClearAmounts_44 rfl rfl ?_
          refine a_aload_n (i := 3) C dX6_weighClearAmounts_45 rfl rfl ?_
          refine a_callV C dX6_weighClearAmounts_46 cv_X2_clearAmount tb587 (m_X2_clearAmount hflags hB hlt) rfl rfl (xC_in (by omega) (by omega)) rfl (Nat.le_of_ble_eq_true rfl) ⟨Nat.le_of_ble_eq_true rfl, Nat.le_of_ble_eq_true rfl⟩ ⟨Nat.le_of_ble_eq_true rfl, Nat.le_of_ble_eq_true rfl⟩ (fun _ h => h.elim) xav_no (fun _ _ h => h.elim) (fun r46 hp46 hq46 => ?_)
          obtain ⟨rfl, rfl⟩ := hq46
          refine a_callV C dX6_weighClearAmounts_49 cv_X5_setWeight tb588 (m_X5_setWeight hflags hB (i := i) (by omega)) rfl rfl xC_10 rfl (Nat.le_of_ble_eq_true rfl) ⟨Nat.le_of_ble_eq_true rfl, Nat.le_of_ble_eq_true rfl⟩ ⟨Nat.le_of_ble_eq_true rfl, Nat.le_of_ble_eq_true rfl⟩ (fun _ h => h.elim) xav_no (fun _ _ h => h.elim) (fun r49 hp49 hq49 => ?_)
          obtain ⟨rfl, rfl⟩ := hq49
          first
          | (refine a_hp (show _ = xC h nc ni np nl (n 1) f g (xWJ f (nI j) jc (i + 1)) jr by unfold xWJ; rw [fup_ff]; exact congrArg (fun z => xC h nc ni np nl (n 1) f g (fup (xZ3 jc) 3 z) jr) (xwg_t ((own_iff hO hc6 hlt hj).mp c37))) ?_)
          | (refine a_hp (show _ = xC h nc ni np nl (n 1) f g (xWJ f (nI j) jc (i + 1)) jr by unfold xWJ; rw [← xwg_f (fun z => c37 ((own_iff hO hc6 hlt hj).mpr z))]) ?_)
          refine a_iinc (i := 2) (v := nI (i + 1)) C dX6_weighClearAmounts_52 rfl (nI_1 i) (by decide) ?_
          refine a_goto (tgt := 9) C dX6_weighClearAmounts_55 (by decide) ?_
          refine a_loc _ ?_ (ih (i + 1) (by omega) (by omega))
          exact xsub_cons rfl (xsub_cons rfl (xsub_cons rfl (xsub_nil)))
  refine a_aload_n (i := 0) C dX6_weighClearAmounts_0 rfl rfl ?_
  refine a_get C dX6_weighClearAmounts_1 fl_X6_32 xC_0 rfl ?_
  refine a_callV C dX6_weighClearAmounts_4 cv_X5_reset tb580 (m_X5_reset hflags hB) rfl rfl xC_10 rfl (Nat.le_of_ble_eq_true rfl) ⟨Nat.le_of_ble_eq_true rfl, Nat.le_of_ble_eq_true rfl⟩ ⟨Nat.le_of_ble_eq_true rfl, Nat.le_of_ble_eq_true rfl⟩ (fun _ h => h.elim) xav_no (fun _ _ h => h.elim) (fun r4 hp4 hq4 => ?_)
  obtain ⟨rfl, rfl⟩ := hq4
  refine a_iconst (v := 0) C dX6_weighClearAmounts_7 (by decide) ?_
  refine a_istore_n (i := 2) C dX6_weighClearAmounts_8 rfl (by decide) ?_
  refine a_hp (show _ = xC h nc ni np nl (n 1) f g (xWJ f (nI j) jc 0) jr by rw [xWJ_0]; rfl) ?_
  refine a_loc _ ?_ (loop (ni + 1) 0 (Nat.zero_le _) (by omega))
  exact xsub_cons rfl (xsub_cons rfl (xsub_cons rfl (xsub_nil)))
set_option maxRecDepth 100000 in
set_option maxHeartbeats 4000000 in
theorem m_X6_oldestWithoutPart {l : Launch} {N0 : Nat} {D : va_G} {dT : Nat → ClassId} (hflags : l.stackTraces = false) {h : xH} {nc ni np nl : Nat} {n : Nat → Int32} {f : Nat → Nat → Int32} {g : Nat → Nat → Int64} {jc : Nat → Nat → Int32} {jr : Nat → Int64} (hB : nc ≤ 6 ∧ ni ≤ 24 ∧ np ≤ 24 ∧ nl ≤ 16000)   : xMet l N0 D dT yX6_oldestWithoutPart cX6_oldestWithoutPart 5 (some FieldType.int) 4 0 0 [.ref 0] (xC h nc ni np nl (n 1) f g jc jr) xNo (fun r h' => r = some (.int (cold f jc ni).1) ∧ h' = xC h nc ni np nl (n 1) f g jc jr) xNX := by
  refine xMet_of hflags (by decide +kernel) (fun _ _ h => h) (Nat.le_of_ble_eq_true rfl) ?_
  intro E C I hret hthr
  refine a_loc [(0, .ref 0)] (xsub_cons rfl (xsub_nil)) ?_
  obtain ⟨hc6, hi24, hp24, hl16⟩ := id hB
  have loop : ∀ (k i : Nat), i ≤ ni → ni < i + k → aW E 0 0 (xC h nc ni np nl (n 1) f g jc jr) 6 [(0, .ref 0), (1, .int (cold f jc i).1), (2, .int (cold f jc i).2), (3, .int (nI i))] [] := by
    intro k
    induction k with
    | zero => intro i h1 h2; exact absurd h2 (by omega)
    | succ k ih =>
      intro i h1 h2
      refine a_iload_n (i := 3) C dX6_oldestWithoutPart_6 rfl rfl ?_
      refine a_aload_n (i := 0) C dX6_oldestWithoutPart_7 rfl rfl ?_
      refine a_get C dX6_oldestWithoutPart_8 fl_X6_16 xC_0 rfl ?_
      refine a_callV C dX6_oldestWithoutPart_11 cv_Jx4a65c_size_8abf5 tb142 (m_Jx4a65c_size_8abf5 hflags xC_2) rfl rfl xC_2 rfl (Nat.le_of_ble_eq_true rfl) ⟨Nat.le_of_ble_eq_true rfl, Nat.le_of_ble_eq_true rfl⟩ ⟨Nat.le_of_ble_eq_true rfl, Nat.le_of_ble_eq_true rfl⟩ (fun _ h => h.elim) xav_no (fun _ _ h => h.elim) (fun r11 hp11 hq11 => ?_)
      obtain ⟨rfl, rfl⟩ := hq11
      refine a_icmp_ge (tgt := 65) C dX6_oldestWithoutPart_14 (by decide) (fun c14 => ?_) (fun c14 => ?_)
      · have hie : i = ni := by
          have := (xle (by omega) (by omega)).mp c14
          omega
        rw [hie]
        refine a_iload_n (i := 1) C dX6_oldestWithoutPart_65 rfl rfl ?_
        exact a_iret C dX6_oldestWithoutPart_66 (Nat.le_of_ble_eq_true rfl) (Nat.le_of_ble_eq_true rfl) (hret _ _ ⟨rfl, rfl⟩)
      · have hlt : i < ni := by
          rcases Nat.lt_or_ge i ni with q | q
          · exact q
          · exact absurd ((xle (by omega) (by omega)).mpr q) c14
        refine a_aload_n (i := 0) C dX6_oldestWithoutPart_17 rfl rfl ?_
        refine a_get C dX6_oldestWithoutPart_18 fl_X6_16 xC_0 rfl ?_
        refine a_iload_n (i := 3) C dX6_oldestWithoutPart_21 rfl rfl ?_
        refine a_callV C dX6_oldestWithoutPart_22 cv_Jx4a65c_get_915e3 tb372 (m_Jx4a65c_get_915e3 hflags xC_2 (xC_l2 (by omega)) (by omega) (aCap_ge (by omega)) (Nat.lt_of_le_of_lt (aCap_le _) (by decide)) (xLr_lt (by omega))) rfl rfl xC_2 rfl (Nat.le_of_ble_eq_true rfl) ⟨Nat.le_of_ble_eq_true rfl, Nat.le_of_ble_eq_true rfl⟩ ⟨Nat.le_of_ble_eq_true rfl, Nat.le_of_ble_eq_true rfl⟩ (fun _ h => h.elim) xav_no (fun _ _ h => h.elim) (fun r22 hp22 hq22 => ?_)
        obtain ⟨rfl, rfl⟩ := hq22
        refine a_castS C dX6_oldestWithoutPart_25 tb409 (xC_in (by omega) (by omega)) rfl rfl ?_
        refine a_get C dX6_oldestWithoutPart_28 fl_X6_186 (xC_in (by omega) (by omega)) rfl ?_
        refine a_istore (i := 4) C dX6_oldestWithoutPart_31 (by decide) ?_
        refine a_aload_n (i := 0) C dX6_oldestWithoutPart_33 rfl rfl ?_
        refine a_get C dX6_oldestWithoutPart_34 fl_X6_32 xC_0 rfl ?_
        refine a_iload_n (i := 3) C dX6_oldestWithoutPart_37 rfl rfl ?_
        refine a_callV C dX6_oldestWithoutPart_38 cv_X5_wantsPart tb604 (m_X5_wantsPart hflags hB (i := i) (by omega)) rfl rfl xC_10 rfl (Nat.le_of_ble_eq_true rfl) ⟨Nat.le_of_ble_eq_true rfl, Nat.le_of_ble_eq_true rfl⟩ ⟨Nat.le_of_ble_eq_true rfl, Nat.le_of_ble_eq_true rfl⟩ (fun _ h => h.elim) xav_no (fun _ _ h => h.elim) (fun r38 hp38 hq38 => ?_)
        obtain ⟨rfl, rfl⟩ := hq38
        refine a_if_eq (tgt := 59) C dX6_oldestWithoutPart_41 (by decide) (fun c41 => ?_) (fun c41 => ?_)
        · first
          | (have ez : cold f jc (i + 1) = (nI i, f 12 i) := if_pos eb9
             refine a_loc [(0, .ref 0), (1, .int (cold f jc (i + 1)).1), (2, .int (cold f jc (i + 1)).2), (3, .int (nI i))] (by rw [ez]; exact xsub_cons rfl (xsub_cons rfl (xsub_cons rfl (xsub_cons rfl (xsub_nil))))) ?_)
          | (have ez : cold f jc (i + 1) = cold f jc i := by
               rw [cold_s]
               apply if_neg
               intro z
               first
               | exact absurd z.1 (b0 c41)
               | exact z.2.elim c45 (Int32.not_lt.mpr c51)
             refine a_loc [(0, .ref 0), (1, .int (cold f jc (i + 1)).1), (2, .int (cold f jc (i + 1)).2), (3, .int (nI i))] (by rw [ez]; exact xsub_cons rfl (xsub_cons rfl (xsub_cons rfl (xsub_cons rfl (xsub_nil))))) ?_)
          refine a_iinc (i := 3) (v := nI (i + 1)) C dX6_oldestWithoutPart_59 rfl (nI_1 i) (by decide) ?_
          refine a_goto (tgt := 6) C dX6_oldestWithoutPart_62 (by decide) ?_
          refine a_loc _ ?_ (ih (i + 1) (by omega) (by omega))
          exact xsub_cons rfl (xsub_cons rfl (xsub_cons rfl (xsub_cons rfl (xsub_nil))))
        · refine a_iload_n (i := 1) C dX6_oldestWithoutPart_44 rfl rfl ?_
          refine a_if_lt (tgt := 54) C dX6_oldestWithoutPart_45 (by decide) (fun c45 => ?_) (fun c45 => ?_)
          · have eb9 : (0 < jc 3 i ∧ jc 4 i = 0) ∧ ((cold f jc i).1 < 0 ∨ f 12 i < (cold f jc i).2) := by
              refine ⟨bn c41, ?_⟩
              first
              | exact Or.inr (Int32.not_le.mp c51)
              | exact Or.inl c45
            refine a_iload_n (i := 3) C dX6_oldestWithoutPart_54 rfl rfl ?_
            refine a_istore_n (i := 1) C dX6_oldestWithoutPart_55 rfl (by decide) ?_
            refine a_iload (i := 4) C dX6_oldestWithoutPart_56 rfl ?_
            refine a_istore_n (i := 2) C dX6_oldestWithoutPart_58 rfl (by decide) ?_
            first
            | (have ez : cold f jc (i + 1) = (nI i, f 12 i) := if_pos eb9
               refine a_loc [(0, .ref 0), (1, .int (cold f jc (i + 1)).1), (2, .int (cold f jc (i + 1)).2), (3, .int (nI i))] (by rw [ez]; exact xsub_cons rfl (xsub_cons rfl (xsub_cons rfl (xsub_cons rfl (xsub_nil))))) ?_)
            | (have ez : cold f jc (i + 1) = cold f jc i := by
                 rw [cold_s]
                 apply if_neg
                 intro z
                 first
                 | exact absurd z.1 (b0 c41)
                 | exact z.2.elim c45 (Int32.not_lt.mpr c51)
               refine a_loc [(0, .ref 0), (1, .int (cold f jc (i + 1)).1), (2, .int (cold f jc (i + 1)).2), (3, .int (nI i))] (by rw [ez]; exact xsub_cons rfl (xsub_cons rfl (xsub_cons rfl (xsub_cons rfl (xsub_nil))))) ?_)
            refine a_iinc (i := 3) (v := nI (i + 1)) C dX6_oldestWithoutPart_59 rfl (nI_1 i) (by decide) ?_
            refine a_goto (tgt := 6) C dX6_oldestWithoutPart_62 (by decide) ?_
            refine a_loc _ ?_ (ih (i + 1) (by omega) (by omega))
            exact xsub_cons rfl (xsub_cons rfl (xsub_cons rfl (xsub_cons rfl (xsub_nil))))
          · refine a_iload (i := 4) C dX6_oldestWithoutPart_48 rfl ?_
            refine a_iload_n (i := 2) C dX6_oldestWithoutPart_50 rfl rfl ?_
            refine a_icmp_ge (tgt := 59) C dX6_oldestWithoutPart_51 (by decide) (fun c51 => ?_) (fun c51 => ?_)
            · first
              | (have ez : cold f jc (i + 1) = (nI i, f 12 i) := if_pos eb9
                 refine a_loc [(0, .ref 0), (1, .int (cold f jc (i + 1)).1), (2, .int (cold f jc (i + 1)).2), (3, .int (nI i))] (by rw [ez]; exact xsub_cons rfl (xsub_cons rfl (xsub_cons rfl (xsub_cons rfl (xsub_nil))))) ?_)
              | (have ez : cold f jc (i + 1) = cold f jc i := by
                   rw [cold_s]
                   apply if_neg
                   intro z
                   first
                   | exact absurd z.1 (b0 c41)
                   | exact z.2.elim c45 (Int32.not_lt.mpr c51)
                 refine a_loc [(0, .ref 0), (1, .int (cold f jc (i + 1)).1), (2, .int (cold f jc (i + 1)).2), (3, .int (nI i))] (by rw [ez]; exact xsub_cons rfl (xsub_cons rfl (xsub_cons rfl (xsub_cons rfl (xsub_nil))))) ?_)
              refine a_iinc (i := 3) (v := nI (i + 1)) C dX6_oldestWithoutPart_59 rfl (nI_1 i) (by decide) ?_
              refine a_goto (tgt := 6) C dX6_oldestWithoutPart_62 (by decide) ?_
              refine a_loc _ ?_ (ih (i + 1) (by omega) (by omega))
              exact xsub_cons rfl (xsub_cons rfl (xsub_cons rfl (xsub_cons rfl (xsub_nil))))
            · have eb9 : (0 < jc 3 i ∧ jc 4 i = 0) ∧ ((cold f jc i).1 < 0 ∨ f 12 i < (cold f jc i).2) := by
                refine ⟨bn c41, ?_⟩
                first
                | exact Or.inr (Int32.not_le.mp c51)
                | exact Or.inl c45
              refine a_iload_n (i := 3) C dX6_oldestWithoutPart_54 rfl rfl ?_
              refine a_istore_n (i := 1) C dX6_oldestWithoutPart_55 rfl (by decide) ?_
              refine a_iload (i := 4) C dX6_oldestWithoutPart_56 rfl ?_
              refine a_istore_n (i := 2) C dX6_oldestWithoutPart_58 rfl (by decide) ?_
              first
              | (have ez : cold f jc (i + 1) = (nI i, f 12 i) := if_pos eb9
                 refine a_loc [(0, .ref 0), (1, .int (cold f jc (i + 1)).1), (2, .int (cold f jc (i + 1)).2), (3, .int (nI i))] (by rw [ez]; exact xsub_cons rfl (xsub_cons rfl (xsub_cons rfl (xsub_cons rfl (xsub_nil))))) ?_)
              | (have ez : cold f jc (i + 1) = cold f jc i := by
                   rw [cold_s]
                   apply if_neg
                   intro z
                   first
                   | exact absurd z.1 (b0 c41)
                   | exact z.2.elim c45 (Int32.not_lt.mpr c51)
                 refine a_loc [(0, .ref 0), (1, .int (cold f jc (i + 1)).1), (2, .int (cold f jc (i + 1)).2), (3, .int (nI i))] (by rw [ez]; exact xsub_cons rfl (xsub_cons rfl (xsub_cons rfl (xsub_cons rfl (xsub_nil))))) ?_)
              refine a_iinc (i := 3) (v := nI (i + 1)) C dX6_oldestWithoutPart_59 rfl (nI_1 i) (by decide) ?_
              refine a_goto (tgt := 6) C dX6_oldestWithoutPart_62 (by decide) ?_
              refine a_loc _ ?_ (ih (i + 1) (by omega) (by omega))
              exact xsub_cons rfl (xsub_cons rfl (xsub_cons rfl (xsub_cons rfl (xsub_nil))))
  refine a_iconst (v := (-1)) C dX6_oldestWithoutPart_0 (by decide) ?_
  refine a_istore_n (i := 1) C dX6_oldestWithoutPart_1 rfl (by decide) ?_
  refine a_iconst (v := 0) C dX6_oldestWithoutPart_2 (by decide) ?_
  refine a_istore_n (i := 2) C dX6_oldestWithoutPart_3 rfl (by decide) ?_
  refine a_iconst (v := 0) C dX6_oldestWithoutPart_4 (by decide) ?_
  refine a_istore_n (i := 3) C dX6_oldestWithoutPart_5 rfl (by decide) ?_
  refine a_loc _ ?_ (loop (ni + 1) 0 (Nat.zero_le _) (by omega))
  exact xsub_cons rfl (xsub_cons rfl (xsub_cons rfl (xsub_cons rfl (xsub_nil))))
set_option maxRecDepth 100000 in
set_option maxHeartbeats 4000000 in
theorem m_X6_shareOldestFirst {l : Launch} {N0 : Nat} {D : va_G} {dT : Nat → ClassId} (hflags : l.stackTraces = false) {h : xH} {nc ni np nl : Nat} {n : Nat → Int32} {f : Nat → Nat → Int32} {g : Nat → Nat → Int64} {jc : Nat → Nat → Int32} {jr : Nat → Int64} (hB : nc ≤ 6 ∧ ni ≤ 24 ∧ np ≤ 24 ∧ nl ≤ 16000) {a : Int32}  : xMet l N0 D dT yX6_shareOldestFirst cX6_shareOldestFirst 5 none 5 0 0 [.ref 0, .int a] (xC h nc ni np nl (n 1) f g jc jr) xNo (fun r h' => r = none ∧ h' = xC h nc ni np nl (n 1) f g (fup jc 4 (cSh ni f jc a ni).1) jr) xNX := by
  refine xMet_of hflags (by decide +kernel) (fun _ _ h => h) (Nat.le_of_ble_eq_true rfl) ?_
  intro E C I hret hthr
  refine a_loc [(0, .ref 0), (1, .int a)] (xsub_cons rfl (xsub_cons rfl (xsub_nil))) ?_
  obtain ⟨hc6, hi24, hp24, hl16⟩ := id hB
  have loop : ∀ (k i : Nat), i ≤ ni → ni < i + k → aW E 0 0 (xC h nc ni np nl (n 1) f g (fup jc 4 (cSh ni f jc a i).1) jr) 4 [(0, .ref 0), (2, .int (cSh ni f jc a i).2), (3, .int (nI i))] [] := by
    intro k
    induction k with
    | zero => intro i h1 h2; exact absurd h2 (by omega)
    | succ k ih =>
      intro i h1 h2
      refine a_iload_n (i := 3) C dX6_shareOldestFirst_4 rfl rfl ?_
      refine a_aload_n (i := 0) C dX6_shareOldestFirst_5 rfl rfl ?_
      refine a_get C dX6_shareOldestFirst_6 fl_X6_16 xC_0 rfl ?_
      refine a_callV C dX6_shareOldestFirst_9 cv_Jx4a65c_size_8abf5 tb142 (m_Jx4a65c_size_8abf5 hflags xC_2) rfl rfl xC_2 rfl (Nat.le_of_ble_eq_true rfl) ⟨Nat.le_of_ble_eq_true rfl, Nat.le_of_ble_eq_true rfl⟩ ⟨Nat.le_of_ble_eq_true rfl, Nat.le_of_ble_eq_true rfl⟩ (fun _ h => h.elim) xav_no (fun _ _ h => h.elim) (fun r9 hp9 hq9 => ?_)
      obtain ⟨rfl, rfl⟩ := hq9
      refine a_icmp_ge (tgt := 50) C dX6_shareOldestFirst_12 (by decide) (fun c12 => ?_) (fun c12 => ?_)
      · exact a_vret C dX6_shareOldestFirst_50 (Nat.le_of_ble_eq_true rfl) (Nat.le_of_ble_eq_true rfl) (hret _ _ (by first | exact ⟨rfl, by rw [show i = ni by (have := (xle (by omega) (by omega)).mp c12; omega)]⟩ | exact ⟨rfl, by rw [cSh_end (i := i) (cS1_n (fun z => absurd z.1 (Int32.not_lt.mpr c16))) ni h1]⟩))
      · have hlt : i < ni := by
          rcases Nat.lt_or_ge i ni with q | q
          · exact q
          · exact absurd ((xle (by omega) (by omega)).mpr q) c12
        refine a_iload_n (i := 2) C dX6_shareOldestFirst_15 rfl rfl ?_
        refine a_if_le (tgt := 50) C dX6_shareOldestFirst_16 (by decide) (fun c16 => ?_) (fun c16 => ?_)
        · exact a_vret C dX6_shareOldestFirst_50 (Nat.le_of_ble_eq_true rfl) (Nat.le_of_ble_eq_true rfl) (hret _ _ (by first | exact ⟨rfl, by rw [show i = ni by (have := (xle (by omega) (by omega)).mp c12; omega)]⟩ | exact ⟨rfl, by rw [cSh_end (i := i) (cS1_n (fun z => absurd z.1 (Int32.not_lt.mpr c16))) ni h1]⟩))
        · refine a_aload_n (i := 0) C dX6_shareOldestFirst_19 rfl rfl ?_
          refine a_callV C dX6_shareOldestFirst_20 cv_X6_oldestWithoutPart tb600 (m_X6_oldestWithoutPart hflags hB) rfl rfl xC_0 rfl (Nat.le_of_ble_eq_true rfl) ⟨Nat.le_of_ble_eq_true rfl, Nat.le_of_ble_eq_true rfl⟩ ⟨Nat.le_of_ble_eq_true rfl, Nat.le_of_ble_eq_true rfl⟩ (fun _ h => h.elim) xav_no (fun _ _ h => h.elim) (fun r20 hp20 hq20 => ?_)
          obtain ⟨rfl, rfl⟩ := hq20
          refine a_istore (i := 4) C dX6_shareOldestFirst_23 (by decide) ?_
          refine a_iload (i := 4) C dX6_shareOldestFirst_25 rfl ?_
          refine a_if_ge (tgt := 31) C dX6_shareOldestFirst_27 (by decide) (fun c27 => ?_) (fun c27 => ?_)
          · have hcr := cold_rng f (fup jc 4 (cSh ni f jc a i).1) ni
            obtain ⟨q, hq, eq⟩ := hcr.resolve_left (fun z => by rw [z] at c27; exact absurd c27 (by decide))
            have ecl : (cold f (fup jc 4 (cSh ni f jc a i).1) ni).1.toNatClampNeg = q := by rw [eq, nI_clamp (by omega)]
            have hstep : cSh ni f jc a (i + 1) = (upd (cSh ni f jc a i).1 q (cmn (jc 3 q) (cSh ni f jc a i).2), (cSh ni f jc a i).2 - cmn (jc 3 q) (cSh ni f jc a i).2) := by
              show cS1 ni f jc (cSh ni f jc a i) = _
              unfold cS1
              rw [if_pos ⟨Int32.not_le.mp c16, Int32.not_lt.mpr c27⟩, ecl]
            refine a_iload_n (i := 2) C dX6_shareOldestFirst_31 rfl rfl ?_
            refine a_aload_n (i := 0) C dX6_shareOldestFirst_32 rfl rfl ?_
            refine a_get C dX6_shareOldestFirst_33 fl_X6_32 xC_0 rfl ?_
            refine a_iload (i := 4) C dX6_shareOldestFirst_36 rfl ?_
            refine a_top (nI q) eq ?_
            refine a_iload_n (i := 2) C dX6_shareOldestFirst_38 rfl rfl ?_
            refine a_callV C dX6_shareOldestFirst_39 cv_X5_fill tb608 (m_X5_fill hflags hB (i := q) (by omega)) rfl rfl xC_10 rfl (Nat.le_of_ble_eq_true rfl) ⟨Nat.le_of_ble_eq_true rfl, Nat.le_of_ble_eq_true rfl⟩ ⟨Nat.le_of_ble_eq_true rfl, Nat.le_of_ble_eq_true rfl⟩ (fun _ h => h.elim) xav_no (fun _ _ h => h.elim) (fun r39 hp39 hq39 => ?_)
            obtain ⟨rfl, rfl⟩ := hq39
            refine a_isub C dX6_shareOldestFirst_42 ?_
            refine a_istore_n (i := 2) C dX6_shareOldestFirst_43 rfl (by decide) ?_
            refine a_loc [(0, .ref 0), (2, .int (cSh ni f jc a (i + 1)).2), (3, .int (nI i))] (by rw [hstep]; exact xsub_cons rfl (xsub_cons rfl (xsub_cons rfl (xsub_nil)))) ?_
            refine a_hp (show _ = xC h nc ni np nl (n 1) f g (fup jc 4 (cSh ni f jc a (i + 1)).1) jr by rw [hstep, fup_ff]; rfl) ?_
            refine a_iinc (i := 3) (v := nI (i + 1)) C dX6_shareOldestFirst_44 rfl (nI_1 i) (by decide) ?_
            refine a_goto (tgt := 4) C dX6_shareOldestFirst_47 (by decide) ?_
            refine a_loc _ ?_ (ih (i + 1) (by omega) (by omega))
            exact xsub_cons rfl (xsub_cons rfl (xsub_cons rfl (xsub_nil)))
          · exact a_vret C dX6_shareOldestFirst_30 (Nat.le_of_ble_eq_true rfl) (Nat.le_of_ble_eq_true rfl) (hret _ _ ⟨rfl, by rw [cSh_end (i := i) (cS1_n (fun z => z.2 (Int32.not_le.mp c27))) ni h1]⟩)
  refine a_iload_n (i := 1) C dX6_shareOldestFirst_0 rfl rfl ?_
  refine a_istore_n (i := 2) C dX6_shareOldestFirst_1 rfl (by decide) ?_
  refine a_iconst (v := 0) C dX6_shareOldestFirst_2 (by decide) ?_
  refine a_istore_n (i := 3) C dX6_shareOldestFirst_3 rfl (by decide) ?_
  refine a_hp (show _ = xC h nc ni np nl (n 1) f g (fup jc 4 (cSh ni f jc a 0).1) jr by show _ = xC h nc ni np nl (n 1) f g (fup jc 4 (jc 4)) jr; rw [fup_id]) ?_
  refine a_loc _ ?_ (loop (ni + 1) 0 (Nat.zero_le _) (by omega))
  exact xsub_cons rfl (xsub_cons rfl (xsub_cons rfl (xsub_nil)))
