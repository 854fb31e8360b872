def cAc (n : Nat → Int32) (t : Nat) (f : Nat → Nat → Int32) (g : Nat → Nat → Int64) : Nat → Nat → Nat → Int64
  | 0 => g
  | k + 1 => mDg n t k f (cAc n t f g k)
def cWt (n : Nat → Int32) (f : Nat → Nat → Int32) : Nat → Nat → Nat → Int32
  | 0 => f
  | k + 1 => mDf n k (cWt n f k)
theorem cWt_o {n : Nat → Int32} {f : Nat → Nat → Int32} {j : Nat} (h1 : j ≠ 17) (h2 : j ≠ 18) : ∀ k, cWt n f k j = f j := by
  intro k
  induction k with
  | zero => rfl
  | succ k ih =>
    show mDf n k (cWt n f k) j = f j
    rw [mDf_o h1 h2, ih]
theorem mDg_c {n : Nat → Int32} {t i : Nat} {f f' : Nat → Nat → Int32} {g : Nat → Nat → Int64} (h : ∀ j, j ≠ 17 → j ≠ 18 → f' j = f j) : mDg n t i f' g = mDg n t i f g := by
  unfold mDg xacd xow
  rw [h 12 (by decide) (by decide), h 16 (by decide) (by decide), h 13 (by decide) (by decide), h 14 (by decide) (by decide), h 8 (by decide) (by decide), h 7 (by decide) (by decide), h 10 (by decide) (by decide)]
theorem mDS_c {n : Nat → Int32} {t : Nat} {f : Nat → Nat → Int32} {g : Nat → Nat → Int64} : ∀ k, mDS n t f g k = (cWt n f k, cAc n t f g k) := by
  intro k
  induction k with
  | zero => rfl
  | succ k ih =>
    show (mDf n k (mDS n t f g k).1, mDg n t k (mDS n t f g k).1 (mDS n t f g k).2) = _
    rw [ih]
    show (mDf n k (cWt n f k), mDg n t k (cWt n f k) (cAc n t f g k)) = _
    rw [mDg_c (fun j h1 h2 => cWt_o h1 h2 k)]
    rfl
theorem mDf_ne {n : Nat → Int32} {i k : Nat} {f : Nat → Nat → Int32} (h : i ≠ k) (j : Nat) : mDf n k f j i = f j i := by
  unfold mDf
  split
  · split
    · by_cases h1 : j = 17
      · subst h1
        show upd _ k _ i = _
        exact xud h
      · rw [fup_n h1]
        by_cases h2 : j = 18
        · subst h2
          show upd _ k _ i = _
          exact xud h
        · rw [fup_n h2]
    · by_cases h2 : j = 18
      · subst h2
        show upd _ k _ i = _
        exact xud h
      · rw [fup_n h2]
  · rfl
theorem cWt_ge {n : Nat → Int32} {f : Nat → Nat → Int32} {i : Nat} : ∀ k, k ≤ i → ∀ j, cWt n f k j i = f j i := by
  intro k
  induction k with
  | zero => intro _ j; rfl
  | succ k ih =>
    intro h j
    show mDf n k (cWt n f k) j i = f j i
    rw [mDf_ne (by omega), ih (by omega)]
def xpn (m : Int32) : Nat := if m = 0 then 7 else if m = 3 then 21 else 14
theorem xpn_eq (m : Int32) : xpat m = nI (xpn m) := by
  unfold xpat xpn
  split
  · rfl
  · split <;> rfl
theorem xpn_le (m : Int32) : 7 ≤ xpn m ∧ xpn m ≤ 21 := by
  unfold xpn
  split
  · omega
  · split <;> omega
/-- who still waits has waited less than its level asks -/
def xWok (ni : Nat) (f : Nat → Nat → Int32) : Prop := ∀ i, i < ni → f 17 i < 4 → ∃ k, f 18 i = nI k ∧ k < xpn (f 17 i)
theorem xW_hwt {ni i : Nat} {f : Nat → Nat → Int32} (h : xWok ni f) (hi : i < ni) : f 17 i < 4 → f 18 i + 1 ≤ xpat (f 17 i) := fun h4 => by
  obtain ⟨k, h1, h2⟩ := h i hi h4
  have := xpn_le (f 17 i)
  rw [h1, nI_1, xpn_eq]
  exact (xle (by omega) (by omega)).mpr h2
theorem xW_step {ni k : Nat} {n : Nat → Int32} {f : Nat → Nat → Int32} (h : xWok ni f) : xWok ni (mDf n k f) := by
  intro i hi
  by_cases hik : i = k
  · subst hik
    unfold mDf
    by_cases hd : mDw n f i
    · rw [if_pos hd]
      obtain ⟨q, h1, h2⟩ := h i hi hd.2.1.1
      have hq := xpn_le (f 17 i)
      by_cases he : f 18 i + 1 = xpat (f 17 i)
      · rw [if_pos he]
        intro _
        refine ⟨0, xupd_i, ?_⟩
        have := xpn_le (fup (fup f 18 (upd (f 18) i 0)) 17 (upd (f 17) i (f 17 i + 1)) 17 i)
        omega
      · rw [if_neg he]
        intro _
        refine ⟨q + 1, (xupd_i (f := f 18)).trans (by rw [h1, nI_1]), ?_⟩
        show q + 1 < xpn (f 17 i)
        rcases Nat.lt_or_ge (q + 1) (xpn (f 17 i)) with z | z
        · exact z
        · exact absurd (by rw [h1, nI_1, xpn_eq, show q + 1 = xpn (f 17 i) by omega]) he
    · rw [if_neg hd]
      exact h i hi
  · rw [mDf_ne hik, mDf_ne hik]
    exact h i hi
theorem cWt_W {ni : Nat} {n : Nat → Int32} {f : Nat → Nat → Int32} (h : xWok ni f) : ∀ k, xWok ni (cWt n f k) := by
  intro k
  induction k with
  | zero => exact h
  | succ k ih => exact xW_step ih
theorem mDays_W {ni t : Nat} {s : mS} {m : Nat} (h : xWok m s.2.1) : ∀ k, xWok m (mDays ni t s k).2.1 := by
  intro k
  induction k with
  | zero => exact h
  | succ k ih =>
    show xWok m (mDS _ _ _ _ ni).1
    rw [mDS_c]
    exact cWt_W ih ni
theorem mDays_0 {ni t : Nat} {n : Nat → Int32} {f : Nat → Nat → Int32} {g : Nat → Nat → Int64} : ∀ k, (mDays ni t (nup n 0 0, f, g) k).1 0 = 0 := by
  intro k
  induction k with
  | zero => rfl
  | succ k ih => exact ih
set_option maxRecDepth 100000 in
set_option maxHeartbeats 4000000 in
theorem m_X6_passOneDay {l : Launch} {N0 : Nat} {D : va_G} {dT : Nat → ClassId} (hflags : l.stackTraces = false) {h : xH} {nc ni np nl : Nat} {n : Nat → Int32} {f : Nat → Nat → Int32} {g : Nat → Nat → Int64} {jc : Nat → Nat → Int32} {jr : Nat → Int64} (hB : nc ≤ 6 ∧ ni ≤ 24 ∧ np ≤ 24 ∧ nl ≤ 16000) {t0 : Nat} (hO : ∀ i, i < ni → xow f i < nc) (hW : xWok ni f) (ht : n 1 = nI t0) (ht2 : t0 < 1460)  : xMet l N0 D dT yX6_passOneDay cX6_passOneDay 2 none 5 0 0 [.ref 0] (xC h nc ni np nl (n 1) f g jc jr) xNo (fun r h' => r = none ∧ h' = xC h nc ni np nl ((mDay ni t0 (n, f, g)).1 1) (mDay ni t0 (n, f, g)).2.1 (mDay ni t0 (n, f, g)).2.2 jc jr) xNX := by
  refine xMet_of hflags (by decide +kernel) (fun _ _ h => h) (Nat.le_of_ble_eq_true rfl) ?_
  intro E C I hret hthr
  refine a_loc [(0, .ref 0)] (xsub_cons rfl (xsub_nil)) ?_
  obtain ⟨hc6, hi24, hp24, hl16⟩ := id hB
  have loop2 : ∀ (k i : Nat), i ≤ ni → ni < i + k → aW E 0 0 (xC h nc ni np nl (n 1) (cWt n f i) (cAc n t0 f g ni) jc jr) 39 [(0, .ref 0), (1, .int (nI i))] [] := by
    intro k
    induction k with
    | zero => intro i h1 h2; exact absurd h2 (by omega)
    | succ k ih =>
      intro i h1 h2
      refine a_iload_n (i := 1) C dX6_passOneDay_39 rfl rfl ?_
      refine a_aload_n (i := 0) C dX6_passOneDay_40 rfl rfl ?_
      refine a_get C dX6_passOneDay_41 fl_X6_16 xC_0 rfl ?_
      refine a_callV C dX6_passOneDay_44 cv_Jx4a65c_size_8abf5 tb142 (m_Jx4a65c_size_8abf5 hflags xC_2) rfl rfl xC_2 rfl (Nat.le_of_ble_eq_true rfl) ⟨Nat.le_of_ble_eq_true rfl, Nat.le_of_ble_eq_true rfl⟩ ⟨Nat.le_of_ble_eq_true rfl, Nat.le_of_ble_eq_true rfl⟩ (fun _ h => h.elim) xav_no (fun _ _ h => h.elim) (fun r44 hp44 hq44 => ?_)
      obtain ⟨rfl, rfl⟩ := hq44
      refine a_icmp_ge (tgt := 74) C dX6_passOneDay_47 (by decide) (fun c47 => ?_) (fun c47 => ?_)
      · have hie : i = ni := by
          have := (xle (by omega) (by omega)).mp c47
          omega
        rw [hie]
        refine a_aload_n (i := 0) C dX6_passOneDay_74 rfl rfl ?_
        refine a_dup C dX6_passOneDay_75 rfl ?_
        refine a_get C dX6_passOneDay_76 fl_X6_36 xC_0 rfl ?_
        refine a_iconst (v := 1) C dX6_passOneDay_79 (by decide) ?_
        refine a_iadd C dX6_passOneDay_80 ?_
        refine a_top (nI (t0 + 1)) (by rw [ht]; exact nI_1 t0) ?_
        refine a_put C dX6_passOneDay_81 fl_X6_36 xC_0 (Nat.le_of_ble_eq_true rfl) rfl rfl ?_
        refine a_hp xCb_1 ?_
        exact a_vret C dX6_passOneDay_84 (Nat.le_of_ble_eq_true rfl) (Nat.le_of_ble_eq_true rfl) (hret _ _ ⟨rfl, by show _ = xC h nc ni np nl (nup n 1 (nI (t0 + 1)) 1) (mDS n t0 f g ni).1 (mDS n t0 f g ni).2 jc jr; rw [mDS_c]; rfl⟩)
      · have hlt : i < ni := by
          rcases Nat.lt_or_ge i ni with q | q
          · exact q
          · exact absurd ((xle (by omega) (by omega)).mpr q) c47
        refine a_aload_n (i := 0) C dX6_passOneDay_50 rfl rfl ?_
        refine a_get C dX6_passOneDay_51 fl_X6_16 xC_0 rfl ?_
        refine a_iload_n (i := 1) C dX6_passOneDay_54 rfl rfl ?_
        refine a_callV C dX6_passOneDay_55 cv_Jx4a65c_get_915e3 tb372 (m_Jx4a65c_get_915e3 hflags xC_2 (xC_l2 (by omega)) (by omega) (aCap_ge (by omega)) (Nat.lt_of_le_of_lt (aCap_le _) (by decide)) (xLr_lt (by omega))) rfl rfl xC_2 rfl (Nat.le_of_ble_eq_true rfl) ⟨Nat.le_of_ble_eq_true rfl, Nat.le_of_ble_eq_true rfl⟩ ⟨Nat.le_of_ble_eq_true rfl, Nat.le_of_ble_eq_true rfl⟩ (fun _ h => h.elim) xav_no (fun _ _ h => h.elim) (fun r55 hp55 hq55 => ?_)
        obtain ⟨rfl, rfl⟩ := hq55
        refine a_castS C dX6_passOneDay_58 tb409 (xC_in (by omega) (by omega)) rfl rfl ?_
        refine a_aload_n (i := 0) C dX6_passOneDay_61 rfl rfl ?_
        refine a_get C dX6_passOneDay_62 fl_X6_36 xC_0 rfl ?_
        refine a_callV C dX6_passOneDay_65 cv_X2_waitOn tb434 (m_X2_waitOn hflags hB hlt (show xow (cWt n f i) i < nc by unfold xow; rw [cWt_o (by decide) (by decide)]; exact hO i hlt) (xW_hwt (cWt_W hW i) hlt)) rfl rfl (xC_in (by omega) (by omega)) rfl (Nat.le_of_ble_eq_true rfl) ⟨Nat.le_of_ble_eq_true rfl, Nat.le_of_ble_eq_true rfl⟩ ⟨Nat.le_of_ble_eq_true rfl, Nat.le_of_ble_eq_true rfl⟩ (fun _ h => h.elim) xav_no (fun _ _ h => h.elim) (fun r65 hp65 hq65 => ?_)
        obtain ⟨rfl, rfl⟩ := hq65
        refine a_iinc (i := 1) (v := nI (i + 1)) C dX6_passOneDay_68 rfl (nI_1 i) (by decide) ?_
        refine a_goto (tgt := 39) C dX6_passOneDay_71 (by decide) ?_
        refine a_loc _ ?_ (ih (i + 1) (by omega) (by omega))
        exact xsub_cons rfl (xsub_cons rfl (xsub_nil))
  have loop : ∀ (k i : Nat), i ≤ ni → ni < i + k → aW E 0 0 (xC h nc ni np nl (n 1) f (cAc n t0 f g i) jc jr) 2 [(0, .ref 0), (1, .int (nI i))] [] := by
    intro k
    induction k with
    | zero => intro i h1 h2; exact absurd h2 (by omega)
    | succ k ih =>
      intro i h1 h2
      refine a_iload_n (i := 1) C dX6_passOneDay_2 rfl rfl ?_
      refine a_aload_n (i := 0) C dX6_passOneDay_3 rfl rfl ?_
      refine a_get C dX6_passOneDay_4 fl_X6_16 xC_0 rfl ?_
      refine a_callV C dX6_passOneDay_7 cv_Jx4a65c_size_8abf5 tb142 (m_Jx4a65c_size_8abf5 hflags xC_2) rfl rfl xC_2 rfl (Nat.le_of_ble_eq_true rfl) ⟨Nat.le_of_ble_eq_true rfl, Nat.le_of_ble_eq_true rfl⟩ ⟨Nat.le_of_ble_eq_true rfl, Nat.le_of_ble_eq_true rfl⟩ (fun _ h => h.elim) xav_no (fun _ _ h => h.elim) (fun r7 hp7 hq7 => ?_)
      obtain ⟨rfl, rfl⟩ := hq7
      refine a_icmp_ge (tgt := 37) C dX6_passOneDay_10 (by decide) (fun c10 => ?_) (fun c10 => ?_)
      · have hie : i = ni := by
          have := (xle (by omega) (by omega)).mp c10
          omega
        rw [hie]
        refine a_iconst (v := 0) C dX6_passOneDay_37 (by decide) ?_
        refine a_istore_n (i := 1) C dX6_passOneDay_38 rfl (by decide) ?_
        refine a_loc _ ?_ (loop2 (ni + 1) 0 (Nat.zero_le _) (by omega))
        exact xsub_cons rfl (xsub_cons rfl (xsub_nil))
      · have hlt : i < ni := by
          rcases Nat.lt_or_ge i ni with q | q
          · exact q
          · exact absurd ((xle (by omega) (by omega)).mpr q) c10
        refine a_aload_n (i := 0) C dX6_passOneDay_13 rfl rfl ?_
        refine a_get C dX6_passOneDay_14 fl_X6_16 xC_0 rfl ?_
        refine a_iload_n (i := 1) C dX6_passOneDay_17 rfl rfl ?_
        refine a_callV C dX6_passOneDay_18 cv_Jx4a65c_get_915e3 tb372 (m_Jx4a65c_get_915e3 hflags xC_2 (xC_l2 (by omega)) (by omega) (aCap_ge (by omega)) (Nat.lt_of_le_of_lt (aCap_le _) (by decide)) (xLr_lt (by omega))) rfl rfl xC_2 rfl (Nat.le_of_ble_eq_true rfl) ⟨Nat.le_of_ble_eq_true rfl, Nat.le_of_ble_eq_true rfl⟩ ⟨Nat.le_of_ble_eq_true rfl, Nat.le_of_ble_eq_true rfl⟩ (fun _ h => h.elim) xav_no (fun _ _ h => h.elim) (fun r18 hp18 hq18 => ?_)
        obtain ⟨rfl, rfl⟩ := hq18
        refine a_castS C dX6_passOneDay_21 tb409 (xC_in (by omega) (by omega)) rfl rfl ?_
        refine a_aload_n (i := 0) C dX6_passOneDay_24 rfl rfl ?_
        refine a_get C dX6_passOneDay_25 fl_X6_36 xC_0 (congrArg (fun z => some (Value.int z)) ht) ?_
        refine a_callV C dX6_passOneDay_28 cv_X2_accrueOn tb410 (m_X2_accrueOn hflags hB hlt (hO i hlt) ht ht2) rfl rfl (xC_in (by omega) (by omega)) rfl (Nat.le_of_ble_eq_true rfl) ⟨Nat.le_of_ble_eq_true rfl, Nat.le_of_ble_eq_true rfl⟩ ⟨Nat.le_of_ble_eq_true rfl, Nat.le_of_ble_eq_true rfl⟩ (fun _ h => h.elim) xav_no (fun _ _ h => h.elim) (fun r28 hp28 hq28 => ?_)
        obtain ⟨rfl, rfl⟩ := hq28
        refine a_iinc (i := 1) (v := nI (i + 1)) C dX6_passOneDay_31 rfl (nI_1 i) (by decide) ?_
        refine a_goto (tgt := 2) C dX6_passOneDay_34 (by decide) ?_
        refine a_loc _ ?_ (ih (i + 1) (by omega) (by omega))
        exact xsub_cons rfl (xsub_cons rfl (xsub_nil))
  refine a_iconst (v := 0) C dX6_passOneDay_0 (by decide) ?_
  refine a_istore_n (i := 1) C dX6_passOneDay_1 rfl (by decide) ?_
  refine a_loc _ ?_ (loop (ni + 1) 0 (Nat.zero_le _) (by omega))
  exact xsub_cons rfl (xsub_cons rfl (xsub_nil))
set_option maxRecDepth 100000 in
set_option maxHeartbeats 4000000 in
theorem m_X6_passDays {l : Launch} {N0 : Nat} {D : va_G} {dT : Nat → ClassId} (hflags : l.stackTraces = false) {h : xH} {nc ni np nl : Nat} {n : Nat → Int32} {f : Nat → Nat → Int32} {g : Nat → Nat → Int64} {jc : Nat → Nat → Int32} {jr : Nat → Int64} (hB : nc ≤ 6 ∧ ni ≤ 24 ∧ np ≤ 24 ∧ nl ≤ 16000) {d : Int32} {t0 : Nat} (hO : ∀ i, i < ni → xow f i < nc) (hW : xWok ni f) (ht : n 1 = nI t0) (ht2 : t0 ≤ 1460)  : xMet l N0 D dT yX6_passDays cX6_passDays 3 (some FieldType.int) 9 2 12 [.ref 0, .int d] (xC h nc ni np nl (n 1) f g jc jr) xNo (cP h nc ni np nl (o_passDays ni d n f g)) (cX (xC h nc ni np nl (n 1) f g jc jr) [("java/lang/IllegalArgumentException", (1 : Int32)), ("java/lang/IllegalStateException", (2 : Int32))] (o_passDays ni d n f g)) := by
  refine xMet_of hflags (by decide +kernel) (fun _ _ h => h) (Nat.le_of_ble_eq_true rfl) ?_
  intro E C I hret hthr
  refine a_loc [(0, .ref 0), (1, .int d)] (xsub_cons rfl (xsub_cons rfl (xsub_nil))) ?_
  obtain ⟨hc6, hi24, hp24, hl16⟩ := id hB
  refine a_iload_n (i := 1) C dX6_passDays_0 rfl rfl ?_
  refine a_iconst (v := 1) C dX6_passDays_1 (by decide) ?_
  refine a_sipush (v := 400) C dX6_passDays_2 (by decide) ?_
  refine a_callS C dX6_passDays_5 cs_X6_requireRange tb168 (m_X6_requireRange hflags) rfl rfl (Nat.le_of_ble_eq_true rfl) ⟨Nat.le_of_ble_eq_true rfl, Nat.le_of_ble_eq_true rfl⟩ ⟨Nat.le_of_ble_eq_true rfl, Nat.le_of_ble_eq_true rfl⟩ (fun _ h => h.elim) xav_no (fun _ _ ⟨e1, e2, e3⟩ => by subst e1; subst e2; exact a_out C (fun _ h => nomatch h) (hthr _ _ ⟨rfl, by unfold o_passDays; rw [if_pos e3]; exact (List.Mem.head _)⟩) (Nat.le_of_ble_eq_true rfl) (Nat.le_of_ble_eq_true rfl)) (fun r5 hp5 hq5 => ?_)
  obtain ⟨rfl, rfl, hx⟩ := hq5
  refine a_aload_n (i := 0) C dX6_passDays_8 rfl rfl ?_
  refine a_get C dX6_passDays_9 fl_X6_36 xC_0 rfl ?_
  refine a_iload_n (i := 1) C dX6_passDays_12 rfl rfl ?_
  refine a_iadd C dX6_passDays_13 ?_
  refine a_sipush (v := 1460) C dX6_passDays_14 (by decide) ?_
  refine a_icmp_gt (tgt := 24) C dX6_passDays_17 (by decide) (fun c17 => ?_) (fun c17 => ?_)
  · refine a_iconst (v := 0) C dX6_passDays_24 (by decide) ?_
    refine a_callS C dX6_passDays_25 cs_X6_requireState tb401 (m_X6_requireState0 hflags) rfl rfl (Nat.le_of_ble_eq_true rfl) ⟨Nat.le_of_ble_eq_true rfl, Nat.le_of_ble_eq_true rfl⟩ ⟨Nat.le_of_ble_eq_true rfl, Nat.le_of_ble_eq_true rfl⟩ (fun _ h => h.elim) xav_no (fun _ _ ⟨e1, e2⟩ => by subst e1; subst e2; exact a_out C (fun _ h => nomatch h) (hthr _ _ ⟨rfl, by unfold o_passDays; rw [if_neg (fun z => z hx), if_pos (Int32.not_le.mpr c17)]; exact (List.Mem.tail _ (List.Mem.head _))⟩) (Nat.le_of_ble_eq_true rfl) (Nat.le_of_ble_eq_true rfl)) (fun r25 hp25 hq25 => ?_)
    exact hq25.elim
  · have e7 : n 1 + d ≤ 1460 := Int32.not_lt.mp c17
    obtain ⟨dd, hdd, rfl⟩ := nI_of2 (n := 400) (by decide) (Int32.not_lt.mpr (Int32.le_trans (by decide) hx.1)) hx.2
    have hsm : t0 + dd ≤ 1460 := (xle (a := t0 + dd) (b := 1460) (by omega) (by omega)).mp (by rw [← nI_add, ← ht]; exact e7)
    refine a_iconst (v := 1) C dX6_passDays_20 (by decide) ?_
    refine a_goto (tgt := 25) C dX6_passDays_21 (by decide) ?_
    refine a_callS C dX6_passDays_25 cs_X6_requireState tb401 (m_X6_requireState1 hflags) rfl rfl (Nat.le_of_ble_eq_true rfl) ⟨Nat.le_of_ble_eq_true rfl, Nat.le_of_ble_eq_true rfl⟩ ⟨Nat.le_of_ble_eq_true rfl, Nat.le_of_ble_eq_true rfl⟩ (fun _ h => h.elim) xav_no (fun _ _ h => h.elim) (fun r25 hp25 hq25 => ?_)
    obtain ⟨rfl, rfl⟩ := hq25
    have loop : ∀ (k i : Nat), i ≤ dd → dd < i + k → aW E 1 6 (xC h nc ni np nl ((mDays ni t0 (nup n 0 0, f, g) i).1 1) (mDays ni t0 (nup n 0 0, f, g) i).2.1 (mDays ni t0 (nup n 0 0, f, g) i).2.2 jc jr) 30 [(0, .ref 0), (1, .int (nI dd)), (2, .int (nI i))] [] := by
      intro k
      induction k with
      | zero => intro i h1 h2; exact absurd h2 (by omega)
      | succ k ih =>
        intro i h1 h2
        refine a_iload_n (i := 2) C dX6_passDays_30 rfl rfl ?_
        refine a_iload_n (i := 1) C dX6_passDays_31 rfl rfl ?_
        refine a_icmp_ge (tgt := 45) C dX6_passDays_32 (by decide) (fun c32 => ?_) (fun c32 => ?_)
        · have hie : i = dd := by
            have := (xle (by omega) (by omega)).mp c32
            omega
          rw [hie]
          refine a_aload_n (i := 0) C dX6_passDays_45 rfl rfl ?_
          refine a_get C dX6_passDays_46 fl_X6_36 xC_0 (congrArg (fun z => some (Value.int z)) (mDays_t (ni := ni) (s := (nup n 0 0, f, g)) ht dd)) ?_
          exact a_iret C dX6_passDays_49 (Nat.le_of_ble_eq_true rfl) (Nat.le_of_ble_eq_true rfl) (hret _ _ (by unfold cP o_passDays; rw [if_neg (fun z => z hx), if_neg (fun z => z e7), nI_clamp (by omega), ht, nI_clamp (by omega)]; exact ⟨mDays_0 dd, rfl, jc, jr, rfl⟩))
        · have hlt : i < dd := by
            rcases Nat.lt_or_ge i dd with q | q
            · exact q
            · exact absurd ((xle (by omega) (by omega)).mpr q) c32
          refine a_aload_n (i := 0) C dX6_passDays_35 rfl rfl ?_
          refine a_callV C dX6_passDays_36 cv_X6_passOneDay tb405 (m_X6_passOneDay hflags hB (t0 := t0 + i) (fun j hj => by unfold xow; rw [mDays_o (by decide) (by decide)]; exact hO j hj) (mDays_W hW i) (mDays_t (s := (nup n 0 0, f, g)) ht i) (by omega)) rfl rfl xC_0 rfl (Nat.le_of_ble_eq_true rfl) ⟨Nat.le_of_ble_eq_true rfl, Nat.le_of_ble_eq_true rfl⟩ ⟨Nat.le_of_ble_eq_true rfl, Nat.le_of_ble_eq_true rfl⟩ (fun _ h => h.elim) xav_no (fun _ _ h => h.elim) (fun r36 hp36 hq36 => ?_)
          obtain ⟨rfl, rfl⟩ := hq36
          refine a_iinc (i := 2) (v := nI (i + 1)) C dX6_passDays_39 rfl (nI_1 i) (by decide) ?_
          refine a_goto (tgt := 30) C dX6_passDays_42 (by decide) ?_
          refine a_loc _ ?_ (ih (i + 1) (by omega) (by omega))
          exact xsub_cons rfl (xsub_cons rfl (xsub_cons rfl (xsub_nil)))
    refine a_iconst (v := 0) C dX6_passDays_28 (by decide) ?_
    refine a_istore_n (i := 2) C dX6_passDays_29 rfl (by decide) ?_
    refine a_loc _ ?_ (loop (dd + 1) 0 (Nat.zero_le _) (by omega))
    exact xsub_cons rfl (xsub_cons rfl (xsub_cons rfl (xsub_nil)))
set_option maxRecDepth 100000 in
set_option maxHeartbeats 4000000 in
theorem m_X6_dispute {l : Launch} {N0 : Nat} {D : va_G} {dT : Nat → ClassId} (hflags : l.stackTraces = false) {h : xH} {nc ni np nl : Nat} {n : Nat → Int32} {f : Nat → Nat → Int32} {g : Nat → Nat → Int64} {jc : Nat → Nat → Int32} {jr : Nat → Int64} (hB : nc ≤ 6 ∧ ni ≤ 24 ∧ np ≤ 24 ∧ nl ≤ 16000) {w a : Int32}  : xMet l N0 D dT yX6_dispute cX6_dispute 4 (some FieldType.int) 9 3 18 [.ref 0, .int w, .int a] (xC h nc ni np nl (n 1) f g jc jr) xNo (cP h nc ni np nl (o_dispute ni w a n f g)) (cX (xC h nc ni np nl (n 1) f g jc jr) [("java/lang/IndexOutOfBoundsException", (1 : Int32)), ("java/lang/IllegalArgumentException", (2 : Int32)), ("java/lang/IllegalStateException", (3 : Int32))] (o_dispute ni w a n f g)) := by
  refine xMet_of hflags (by decide +kernel) (fun _ _ h => h) (Nat.le_of_ble_eq_true rfl) ?_
  intro E C I hret hthr
  refine a_loc [(0, .ref 0), (1, .int w), (2, .int a)] (xsub_cons rfl (xsub_cons rfl (xsub_cons rfl (xsub_nil)))) ?_
  obtain ⟨hc6, hi24, hp24, hl16⟩ := id hB
  refine a_aload_n (i := 0) C dX6_dispute_0 rfl rfl ?_
  refine a_iload_n (i := 1) C dX6_dispute_1 rfl rfl ?_
  refine a_callV C dX6_dispute_2 cv_X6_invoiceAt tb535 (m_X6_invoiceAt hflags hB) rfl rfl xC_0 rfl (Nat.le_of_ble_eq_true rfl) ⟨Nat.le_of_ble_eq_true rfl, Nat.le_of_ble_eq_true rfl⟩ ⟨Nat.le_of_ble_eq_true rfl, Nat.le_of_ble_eq_true rfl⟩ (fun _ h => h.elim) xav_no (fun _ _ ⟨e1, e2, e3⟩ => by subst e1; subst e2; exact a_out C (fun _ h => nomatch h) (hthr _ _ ⟨rfl, by unfold o_dispute; rw [if_pos e3]; exact (List.Mem.head _)⟩) (Nat.le_of_ble_eq_true rfl) (Nat.le_of_ble_eq_true rfl)) (fun r2 hp2 hq2 => ?_)
  obtain ⟨j, hj, rfl, rfl, rfl⟩ := hq2
  refine a_astore_n (i := 3) C dX6_dispute_5 rfl (by decide) ?_
  refine a_iload_n (i := 2) C dX6_dispute_6 rfl rfl ?_
  refine a_callS C dX6_dispute_7 cs_X6_requireCent tb539 (m_X6_requireCent hflags) rfl rfl (Nat.le_of_ble_eq_true rfl) ⟨Nat.le_of_ble_eq_true rfl, Nat.le_of_ble_eq_true rfl⟩ ⟨Nat.le_of_ble_eq_true rfl, Nat.le_of_ble_eq_true rfl⟩ (fun _ h => h.elim) xav_no (fun _ _ ⟨e1, e2, e3⟩ => by subst e1; subst e2; exact a_out C (fun _ h => nomatch h) (hthr _ _ ⟨rfl, by unfold o_dispute; rw [if_neg (fun z => z (xin_of hj (by omega))), if_pos e3]; exact (List.Mem.tail _ (List.Mem.head _))⟩) (Nat.le_of_ble_eq_true rfl) (Nat.le_of_ble_eq_true rfl)) (fun r7 hp7 hq7 => ?_)
  obtain ⟨rfl, rfl, hx⟩ := hq7
  refine a_iload_n (i := 2) C dX6_dispute_10 rfl rfl ?_
  refine a_aload_n (i := 3) C dX6_dispute_11 rfl rfl ?_
  refine a_callV C dX6_dispute_12 cv_X2_clearAmount tb587 (m_X2_clearAmount hflags hB hj) rfl rfl (xC_in (by omega) (by omega)) rfl (Nat.le_of_ble_eq_true rfl) ⟨Nat.le_of_ble_eq_true rfl, Nat.le_of_ble_eq_true rfl⟩ ⟨Nat.le_of_ble_eq_true rfl, Nat.le_of_ble_eq_true rfl⟩ (fun _ h => h.elim) xav_no (fun _ _ h => h.elim) (fun r12 hp12 hq12 => ?_)
  obtain ⟨rfl, rfl⟩ := hq12
  refine a_icmp_gt (tgt := 22) C dX6_dispute_15 (by decide) (fun c15 => ?_) (fun c15 => ?_)
  · refine a_iconst (v := 0) C dX6_dispute_22 (by decide) ?_
    refine a_callS C dX6_dispute_23 cs_X6_requireState tb401 (m_X6_requireState0 hflags) rfl rfl (Nat.le_of_ble_eq_true rfl) ⟨Nat.le_of_ble_eq_true rfl, Nat.le_of_ble_eq_true rfl⟩ ⟨Nat.le_of_ble_eq_true rfl, Nat.le_of_ble_eq_true rfl⟩ (fun _ h => h.elim) xav_no (fun _ _ ⟨e1, e2⟩ => by subst e1; subst e2; exact a_out C (fun _ h => nomatch h) (hthr _ _ ⟨rfl, by unfold o_dispute; rw [if_neg (fun z => z (xin_of hj (by omega))), if_neg hx, nI_clamp (by omega), if_pos c15]; exact (List.Mem.tail _ (List.Mem.tail _ (List.Mem.head _)))⟩) (Nat.le_of_ble_eq_true rfl) (Nat.le_of_ble_eq_true rfl)) (fun r23 hp23 hq23 => ?_)
    exact hq23.elim
  · refine a_iconst (v := 1) C dX6_dispute_18 (by decide) ?_
    refine a_goto (tgt := 23) C dX6_dispute_19 (by decide) ?_
    refine a_callS C dX6_dispute_23 cs_X6_requireState tb401 (m_X6_requireState1 hflags) rfl rfl (Nat.le_of_ble_eq_true rfl) ⟨Nat.le_of_ble_eq_true rfl, Nat.le_of_ble_eq_true rfl⟩ ⟨Nat.le_of_ble_eq_true rfl, Nat.le_of_ble_eq_true rfl⟩ (fun _ h => h.elim) xav_no (fun _ _ h => h.elim) (fun r23 hp23 hq23 => ?_)
    obtain ⟨rfl, rfl⟩ := hq23
    refine a_aload_n (i := 3) C dX6_dispute_26 rfl rfl ?_
    refine a_dup C dX6_dispute_27 rfl ?_
    refine a_get C dX6_dispute_28 fl_X6_205 (xC_in (by omega) (by omega)) rfl ?_
    refine a_iload_n (i := 2) C dX6_dispute_31 rfl rfl ?_
    refine a_iadd C dX6_dispute_32 ?_
    refine a_put C dX6_dispute_33 fl_X6_205 (xC_in (by omega) (by omega)) (Nat.le_of_ble_eq_true rfl) rfl rfl ?_
    refine a_hp (xCi_14 (by omega) (by omega)) ?_
    refine a_aload_n (i := 3) C dX6_dispute_36 rfl rfl ?_
    refine a_get C dX6_dispute_37 fl_X6_205 (xC_in (by omega) (by omega)) (congrArg (fun z => some (Value.int z)) xupd_i) ?_
    exact a_iret C dX6_dispute_40 (Nat.le_of_ble_eq_true rfl) (Nat.le_of_ble_eq_true rfl) (hret _ _ (by unfold cP o_dispute; rw [if_neg (fun z => z (xin_of hj (by omega))), if_neg hx, nI_clamp (by omega), if_neg c15]; exact ⟨rfl, rfl, jc, jr, rfl⟩))
set_option maxRecDepth 100000 in
set_option maxHeartbeats 4000000 in
theorem m_X6_accruedOfAll {l : Launch} {N0 : Nat} {D : va_G} {dT : Nat → ClassId} (hflags : l.stackTraces = false) {h : xH} {nc ni np nl : Nat} {n : Nat → Int32} {f : Nat → Nat → Int32} {g : Nat → Nat → Int64} {jc : Nat → Nat → Int32} {jr : Nat → Int64} (hB : nc ≤ 6 ∧ ni ≤ 24 ∧ np ≤ 24 ∧ nl ≤ 16000) {j : Nat} (hj : j < nc) (hO : ∀ i, i < ni → ∃ k, k < nc ∧ f 10 i = nI k)  : xMet l N0 D dT yX6_accruedOfAll cX6_accruedOfAll 5 (some FieldType.int) 4 0 0 [.ref 0, .ref (16 + j)] (xC h nc ni np nl (n 1) f g jc jr) xNo (fun r h' => r = some (.int (xsum (xacs f g (nI j)) ni)) ∧ h' = xC h nc ni np nl (n 1) f g jc jr) xNX := by
  refine xMet_of hflags (by decide +kernel) (fun _ _ h => h) (Nat.le_of_ble_eq_true rfl) ?_
  intro E C I hret hthr
  refine a_loc [(0, .ref 0), (1, .ref (16 + j))] (xsub_cons rfl (xsub_cons rfl (xsub_nil))) ?_
  obtain ⟨hc6, hi24, hp24, hl16⟩ := id hB
  have loop : ∀ (k i : Nat), i ≤ ni → ni < i + k → aW E 0 0 (xC h nc ni np nl (n 1) f g jc jr) 4 [(0, .ref 0), (1, .ref (16 + j)), (2, .int (xsum (xacs f g (nI j)) i)), (3, .int (nI i))] [] := by
    intro k
    induction k with
    | zero => intro i h1 h2; exact absurd h2 (by omega)
    | succ k ih =>
      intro i h1 h2
      refine a_iload_n (i := 3) C dX6_accruedOfAll_4 rfl rfl ?_
      refine a_aload_n (i := 0) C dX6_accruedOfAll_5 rfl rfl ?_
      refine a_get C dX6_accruedOfAll_6 fl_X6_16 xC_0 rfl ?_
      refine a_callV C dX6_accruedOfAll_9 cv_Jx4a65c_size_8abf5 tb142 (m_Jx4a65c_size_8abf5 hflags xC_2) rfl rfl xC_2 rfl (Nat.le_of_ble_eq_true rfl) ⟨Nat.le_of_ble_eq_true rfl, Nat.le_of_ble_eq_true rfl⟩ ⟨Nat.le_of_ble_eq_true rfl, Nat.le_of_ble_eq_true rfl⟩ (fun _ h => h.elim) xav_no (fun _ _ h => h.elim) (fun r9 hp9 hq9 => ?_)
      obtain ⟨rfl, rfl⟩ := hq9
      refine a_icmp_ge (tgt := 51) C dX6_accruedOfAll_12 (by decide) (fun c12 => ?_) (fun c12 => ?_)
      · have hie : i = ni := by
          have := (xle (by omega) (by omega)).mp c12
          omega
        rw [hie]
        refine a_iload_n (i := 2) C dX6_accruedOfAll_51 rfl rfl ?_
        exact a_iret C dX6_accruedOfAll_52 (Nat.le_of_ble_eq_true rfl) (Nat.le_of_ble_eq_true rfl) (hret _ _ ⟨rfl, rfl⟩)
      · have hlt : i < ni := by
          rcases Nat.lt_or_ge i ni with q | q
          · exact q
          · exact absurd ((xle (by omega) (by omega)).mpr q) c12
        refine a_aload_n (i := 0) C dX6_accruedOfAll_15 rfl rfl ?_
        refine a_get C dX6_accruedOfAll_16 fl_X6_16 xC_0 rfl ?_
        refine a_iload_n (i := 3) C dX6_accruedOfAll_19 rfl rfl ?_
        refine a_callV C dX6_accruedOfAll_20 cv_Jx4a65c_get_915e3 tb372 (m_Jx4a65c_get_915e3 hflags xC_2 (xC_l2 (by omega)) (by omega) (aCap_ge (by omega)) (Nat.lt_of_le_of_lt (aCap_le _) (by decide)) (xLr_lt (by omega))) rfl rfl xC_2 rfl (Nat.le_of_ble_eq_true rfl) ⟨Nat.le_of_ble_eq_true rfl, Nat.le_of_ble_eq_true rfl⟩ ⟨Nat.le_of_ble_eq_true rfl, Nat.le_of_ble_eq_true rfl⟩ (fun _ h => h.elim) xav_no (fun _ _ h => h.elim) (fun r20 hp20 hq20 => ?_)
        obtain ⟨rfl, rfl⟩ := hq20
        refine a_castS C dX6_accruedOfAll_23 tb409 (xC_in (by omega) (by omega)) rfl rfl ?_
        refine a_astore (i := 4) C dX6_accruedOfAll_26 (by decide) ?_
        refine a_aload (i := 4) C dX6_accruedOfAll_28 rfl ?_
        refine a_get C dX6_accruedOfAll_30 fl_X6_127 (xC_in (by omega) (by omega)) rfl ?_
        refine a_aload_n (i := 1) C dX6_accruedOfAll_33 rfl rfl ?_
        refine a_acmp_ne (tgt := 45) C dX6_accruedOfAll_34 (by decide) (xC_cu (xow_lt hO hc6 i hlt) hc6) (xC_cu hj hc6) (fun c34 => ?_) (fun c34 => ?_)
        · first
          | (refine a_loc [(0, .ref 0), (1, .ref (16 + j)), (2, .int (xsum (xacs f g (nI j)) (i + 1))), (3, .int (nI i))] (by rw [xsum_t (show xacs f g (nI j) i = xac f g i from if_pos ((own_iff hO hc6 hlt hj).mp c34))]; exact xsub_cons rfl (xsub_cons rfl (xsub_cons rfl (xsub_cons rfl (xsub_nil))))) ?_)
          | (refine a_loc [(0, .ref 0), (1, .ref (16 + j)), (2, .int (xsum (xacs f g (nI j)) (i + 1))), (3, .int (nI i))] (by rw [xsum_0 (show xacs f g (nI j) i = 0 from if_neg (fun z => c34 ((own_iff hO hc6 hlt hj).mpr z)))]; exact xsub_cons rfl (xsub_cons rfl (xsub_cons rfl (xsub_cons rfl (xsub_nil))))) ?_)
          refine a_iinc (i := 3) (v := nI (i + 1)) C dX6_accruedOfAll_45 rfl (nI_1 i) (by decide) ?_
          refine a_goto (tgt := 4) C dX6_accruedOfAll_48 (by decide) ?_
          refine a_loc _ ?_ (ih (i + 1) (by omega) (by omega))
          exact xsub_cons rfl (xsub_cons rfl (xsub_cons rfl (xsub_cons rfl (xsub_nil))))
        · refine a_iload_n (i := 2) C dX6_accruedOfAll_37 rfl rfl ?_
          refine a_aload (i := 4) C dX6_accruedOfAll_38 rfl ?_
          refine a_callV C dX6_accruedOfAll_40 cv_X2_accruedCents tb693 (m_X2_accruedCents hflags hB hlt (xow_lt hO hc6 i hlt)) rfl rfl (xC_in (by omega) (by omega)) rfl (Nat.le_of_ble_eq_true rfl) ⟨Nat.le_of_ble_eq_true rfl, Nat.le_of_ble_eq_true rfl⟩ ⟨Nat.le_of_ble_eq_true rfl, Nat.le_of_ble_eq_true rfl⟩ (fun _ h => h.elim) xav_no (fun _ _ h => h.elim) (fun r40 hp40 hq40 => ?_)
          obtain ⟨rfl, rfl⟩ := hq40
          refine a_iadd C dX6_accruedOfAll_43 ?_
          refine a_istore_n (i := 2) C dX6_accruedOfAll_44 rfl (by decide) ?_
          first
          | (refine a_loc [(0, .ref 0), (1, .ref (16 + j)), (2, .int (xsum (xacs f g (nI j)) (i + 1))), (3, .int (nI i))] (by rw [xsum_t (show xacs f g (nI j) i = xac f g i from if_pos ((own_iff hO hc6 hlt hj).mp c34))]; exact xsub_cons rfl (xsub_cons rfl (xsub_cons rfl (xsub_cons rfl (xsub_nil))))) ?_)
          | (refine a_loc [(0, .ref 0), (1, .ref (16 + j)), (2, .int (xsum (xacs f g (nI j)) (i + 1))), (3, .int (nI i))] (by rw [xsum_0 (show xacs f g (nI j) i = 0 from if_neg (fun z => c34 ((own_iff hO hc6 hlt hj).mpr z)))]; exact xsub_cons rfl (xsub_cons rfl (xsub_cons rfl (xsub_cons rfl (xsub_nil))))) ?_)
          refine a_iinc (i := 3) (v := nI (i + 1)) C dX6_accruedOfAll_45 rfl (nI_1 i) (by decide) ?_
          refine a_goto (tgt := 4) C dX6_accruedOfAll_48 (by decide) ?_
          refine a_loc _ ?_ (ih (i + 1) (by omega) (by omega))
          exact xsub_cons rfl (xsub_cons rfl (xsub_cons rfl (xsub_cons rfl (xsub_nil))))
  refine a_iconst (v := 0) C dX6_accruedOfAll_0 (by decide) ?_
  refine a_istore_n (i := 2) C dX6_accruedOfAll_1 rfl (by decide) ?_
  refine a_iconst (v := 0) C dX6_accruedOfAll_2 (by decide) ?_
  refine a_istore_n (i := 3) C dX6_accruedOfAll_3 rfl (by decide) ?_
  refine a_loc _ ?_ (loop (ni + 1) 0 (Nat.zero_le _) (by omega))
  exact xsub_cons rfl (xsub_cons rfl (xsub_cons rfl (xsub_cons rfl (xsub_nil))))
