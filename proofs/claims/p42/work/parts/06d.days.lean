section XCP
variable {h : xH} {nc ni np nl : Nat} {t : Int32} {f : Nat → Nat → Int32} {g : Nat → Nat → Int64} {jc : Nat → Nat → Int32} {jr : Nat → Int64}
theorem xr_7 {a b c : Int32} : a - c - (b - c) = a - b := by grind
theorem xCp_4 {p : Nat} {v : Int32} (hp : p < np) (h2 : np ≤ 24) (h3 : f 21 p = 0) : xup (xC h nc ni np nl t f g jc jr) (64 + p) (.inr (4, (xPo f jc p).set 4 (.int (xsp f jc p + v)))) = xC h nc ni np nl t (fup f 20 (upd (f 20) p (f 20 p - v))) g jc jr := by
  refine xC_up ?_ ?_ ?_ ?_ ?_ ?_ ?_ ?_
  · rw [xC_pa hp h2]
    have e : xsp (fup f 20 (upd (f 20) p (f 20 p - v))) jc p = xsp f jc p + v := by
      unfold xsp
      show (if f 21 p = 0 then jc 1 p - upd (f 20) p (f 20 p - v) p else jc 2 p) = _
      rw [if_pos h3, if_pos h3, xupd_i, xr_6]
    show some (Sum.inr (4, (xPo f jc p).set 4 (.int (xsp (fup f 20 (upd (f 20) p (f 20 p - v))) jc p)))) = _
    rw [e]
  · exact fun k _ h1 h2 => xC_ox h1 h2
  · exact fun k h1 h2 => xC_fx h1
  · exact fun i h1 _ => xC_cx h1
  · exact fun i h1 _ => xC_ix h1
  · intro j h1 h4
    have hj : j ≠ p := fun z => h4 (by rw [z])
    have e : xsp (fup f 20 (upd (f 20) p (f 20 p - v))) jc j = xsp f jc j := by
      unfold xsp
      show (if f 21 j = 0 then jc 1 j - upd (f 20) p (f 20 p - v) j else jc 2 j) = _
      rw [xud hj]
    rw [xC_px h1]
    unfold xCp
    show _ = (bif Nat.ble (j + 1) np then some (Sum.inr (4, (xPo f jc j).set 4 (.int (xsp (fup f 20 (upd (f 20) p (f 20 p - v))) jc j)))) else none)
    rw [e]
    rfl
  · exact fun i h1 _ => xC_ax h1
  · exact fun i h1 _ => xC_rx h1
theorem xCp_1 {p : Nat} (hp : p < np) (h2 : np ≤ 24) : xup (xC h nc ni np nl t f g jc jr) (64 + p) (.inr (4, (xPo f jc p).set 1 (.int 1))) = xC h nc ni np nl t (fup (fup f 20 (upd (f 20) p 0)) 21 (upd (f 21) p 1)) g (fup jc 2 (upd (jc 2) p (xsp f jc p))) jr := by
  refine xC_up ?_ ?_ ?_ ?_ ?_ ?_ ?_ ?_
  · rw [xC_pa hp h2]
    have e : xsp (fup (fup f 20 (upd (f 20) p 0)) 21 (upd (f 21) p 1)) (fup jc 2 (upd (jc 2) p (xsp f jc p))) p = xsp f jc p := by
      show (if upd (f 21) p 1 p = 0 then jc 1 p - upd (f 20) p 0 p else upd (jc 2) p (xsp f jc p) p) = _
      rw [xupd_i, xupd_i, if_neg (by decide), xupd_i]
    show some (Sum.inr (4, ((xPo f jc p).set 4 (.int (xsp (fup (fup f 20 (upd (f 20) p 0)) 21 (upd (f 21) p 1)) (fup jc 2 (upd (jc 2) p (xsp f jc p))) p))).set 1 (.int (upd (f 21) p 1 p)))) = _
    rw [e, xupd_i]
    rfl
  · exact fun k _ h1 h2 => xC_ox h1 h2
  · exact fun k h1 h2 => xC_fx h1
  · exact fun i h1 _ => xC_cx h1
  · exact fun i h1 _ => xC_ix h1
  · intro j h1 h4
    have hj : j ≠ p := fun z => h4 (by rw [z])
    have e : xsp (fup (fup f 20 (upd (f 20) p 0)) 21 (upd (f 21) p 1)) (fup jc 2 (upd (jc 2) p (xsp f jc p))) j = xsp f jc j := by
      show (if upd (f 21) p 1 j = 0 then jc 1 j - upd (f 20) p 0 j else upd (jc 2) p (xsp f jc p) j) = _
      rw [xud hj, xud hj, xud hj]
      rfl
    rw [xC_px h1]
    unfold xCp
    show _ = (bif Nat.ble (j + 1) np then some (Sum.inr (4, ((xPo f jc j).set 4 (.int (xsp (fup (fup f 20 (upd (f 20) p 0)) 21 (upd (f 21) p 1)) (fup jc 2 (upd (jc 2) p (xsp f jc p))) j))).set 1 (.int (upd (f 21) p 1 j)))) else none)
    rw [e, xud hj]
    rfl
  · exact fun i h1 _ => xC_ax h1
  · exact fun i h1 _ => xC_rx h1
theorem xCa_22 {p i : Nat} {v : Int32} (hp : p < np) (h2 : np ≤ 24) (hi : i < 24) : xup (xC h nc ni np nl t f g jc jr) (96 + p) (.inl (0, 24, .inl (upd (xPr f p) i v))) = xC h nc ni np nl t (fup f 22 (upd (f 22) (24 * p + i) v)) g jc jr := by
  refine xC_up ?_ ?_ ?_ ?_ ?_ ?_ ?_ ?_
  · rw [xC_pr hp h2]
    have e : xPr (fup f 22 (upd (f 22) (24 * p + i) v)) p = upd (xPr f p) i v := by
      funext q
      by_cases hq : q = i
      · subst hq
        rw [xupd_i]
        unfold xPr
        rw [if_pos hi]
        exact xupd_i
      · rw [xud hq]
        unfold xPr
        by_cases h4 : q < 24
        · rw [if_pos h4, if_pos h4]
          exact xud (by omega)
        · rw [if_neg h4, if_neg h4]
    rw [e]
  · exact fun k _ h1 h2 => xC_ox h1 h2
  · exact fun k h1 h2 => xC_fx h1
  · exact fun i h1 _ => xC_cx h1
  · exact fun i h1 _ => xC_ix h1
  · exact fun i h1 _ => xC_px h1
  · intro j h1 h4
    have hj : j ≠ p := fun z => h4 (by rw [z])
    have e : xPr (fup f 22 (upd (f 22) (24 * p + i) v)) j = xPr f j := by
      funext q
      unfold xPr
      by_cases h5 : q < 24
      · rw [if_pos h5, if_pos h5]
        exact xud (by omega)
      · rw [if_neg h5, if_neg h5]
    rw [xC_ax h1]
    unfold xCa
    rw [e]
  · exact fun i h1 _ => xC_rx h1
end XCP
theorem c_len : ∀ y, y < 4 → ∀ m, m < 12 → nI (t_len (m + 1) (2001 + y)) = if y = 3 ∧ m = 1 then xMonths m + 1 else xMonths m := by decide +kernel
theorem c_yr : ∀ d, d < 1461 → (if (3 : Int32) < nI d / 365 then (3 : Int32) else nI d / 365) = nI ((t_y 3 2001 d).1 - 2001) ∧ nI d - nI ((t_y 3 2001 d).1 - 2001) * 365 = nI (t_y 3 2001 d).2 ∧ 2001 ≤ (t_y 3 2001 d).1 ∧ (t_y 3 2001 d).1 ≤ 2004 ∧ (t_y 3 2001 d).2 < 392 ∧ (t_m (t_y 3 2001 d).1 14 1 (t_y 3 2001 d).2).1 ≤ 12 ∧ (t_m (t_y 3 2001 d).1 14 1 (t_y 3 2001 d).2).2 < 31 := by decide +kernel
theorem t_m_ge (y : Nat) : ∀ (k m l : Nat), m ≤ (t_m y k m l).1 := by
  intro k
  induction k with
  | zero => intro m l; exact Nat.le_refl _
  | succ k ih =>
    intro m l
    show m ≤ (if t_len m y ≤ l then t_m y k (m + 1) (l - t_len m y) else (m, l)).1
    split
    · exact Nat.le_trans (Nat.le_succ m) (ih _ _)
    · exact Nat.le_refl _
theorem c_fin (yy m x : Nat) : 360 * nI yy + 30 * nI m + nI x = nI (360 * (2001 + yy) + 30 * (m + 1) + x) - 720390 := by
  rw [← t_fin, ← nI_add, ← nI_add]
  show _ = 360 * ((2001 : Int32) + nI yy) + 30 * (nI m + (1 : Int32)) + nI x - 720390
  grind
theorem c_min {l : Nat} (h : l < 31) : (if (30 : Int32) < nI l + 1 then (30 : Int32) else nI l + 1) = nI (if l + 1 = 31 then 30 else l + 1) := by
  have : ∀ l, l < 31 → (if (30 : Int32) < nI l + 1 then (30 : Int32) else nI l + 1) = nI (if l + 1 = 31 then 30 else l + 1) := by decide +kernel
  exact this l h
set_option maxRecDepth 100000 in
set_option maxHeartbeats 4000000 in
theorem m_X1_daysOfYear {l : Launch} {N0 : Nat} {D : va_G} {dT : Nat → ClassId} (hflags : l.stackTraces = false) {hp : xH} {m : Int32}  : xMet l N0 D dT yX1_daysOfYear cX1_daysOfYear 1 (some FieldType.int) 0 0 0 [.int m] (hp) xNo (fun r h => r = some (.int (if m = 0 then 365 else 360)) ∧ h = hp) xNX := by
  refine xMet_of hflags (by decide +kernel) (fun _ _ h => h) (Nat.le_of_ble_eq_true rfl) ?_
  intro E C I hret hthr
  refine a_loc [(0, .int m)] (xsub_cons rfl (xsub_nil)) ?_
  refine a_iload_n (i := 0) C dX1_daysOfYear_0 rfl rfl ?_
  refine a_if_ne (tgt := 10) C dX1_daysOfYear_1 (by decide) (fun c1 => ?_) (fun c1 => ?_)
  · refine a_sipush (v := 360) C dX1_daysOfYear_10 (by decide) ?_
    exact a_iret C dX1_daysOfYear_13 (Nat.le_of_ble_eq_true rfl) (Nat.le_of_ble_eq_true rfl) (hret _ _ (by first | (rw [if_pos (Classical.not_not.mp c1)]; exact ⟨rfl, rfl⟩) | (rw [if_pos c1]; exact ⟨rfl, rfl⟩) | (rw [if_neg c1]; exact ⟨rfl, rfl⟩)))
  · refine a_sipush (v := 365) C dX1_daysOfYear_4 (by decide) ?_
    refine a_goto (tgt := 13) C dX1_daysOfYear_7 (by decide) ?_
    exact a_iret C dX1_daysOfYear_13 (Nat.le_of_ble_eq_true rfl) (Nat.le_of_ble_eq_true rfl) (hret _ _ (by first | (rw [if_pos (Classical.not_not.mp c1)]; exact ⟨rfl, rfl⟩) | (rw [if_pos c1]; exact ⟨rfl, rfl⟩) | (rw [if_neg c1]; exact ⟨rfl, rfl⟩)))
set_option maxRecDepth 100000 in
set_option maxHeartbeats 4000000 in
theorem m_X1_monthLength {l : Launch} {N0 : Nat} {D : va_G} {dT : Nat → ClassId} (hflags : l.stackTraces = false) {hp : xH} {y m : Nat} (hy : y < 4) (hm : m < 12)  : xMet l N0 D dT yX1_monthLength cX1_monthLength 3 (some FieldType.int) 0 0 0 [.int (nI y), .int (nI m)] (hp) xNo (fun r h => r = some (.int (nI (t_len (m + 1) (2001 + y)))) ∧ h = hp) xNX := by
  refine xMet_of hflags (by decide +kernel) (fun _ _ h => h) (Nat.le_of_ble_eq_true rfl) ?_
  intro E C I hret hthr
  refine a_loc [(0, .int (nI y)), (1, .int (nI m))] (xsub_cons rfl (xsub_cons rfl (xsub_nil))) ?_
  refine a_iload_n (i := 1) C dX1_monthLength_0 rfl rfl ?_
  refine a_if_lt (tgt := 12) C dX1_monthLength_1 (by decide) (fun c1 => ?_) (fun c1 => ?_)
  · exact absurd c1 (Int32.not_lt.mpr ((xle (a := 0) (by omega) (by omega)).mpr (Nat.zero_le m)))
  · refine a_iload_n (i := 1) C dX1_monthLength_4 rfl rfl ?_
    refine a_getsM C dX1_monthLength_5 tb421 ?_
    refine a_monthLen C dX1_monthLength_8 ?_
    refine a_icmp_lt (tgt := 14) C dX1_monthLength_9 (by decide) (fun c9 => ?_) (fun c9 => ?_)
    · refine a_iload_n (i := 0) C dX1_monthLength_14 rfl rfl ?_
      refine a_iconst (v := 3) C dX1_monthLength_15 (by decide) ?_
      refine a_icmp_ne (tgt := 28) C dX1_monthLength_16 (by decide) (fun c16 => ?_) (fun c16 => ?_)
      · refine a_iconst (v := 0) C dX1_monthLength_28 (by decide) ?_
        refine a_istore_n (i := 2) C dX1_monthLength_29 rfl (by decide) ?_
        refine a_iload_n (i := 2) C dX1_monthLength_30 rfl rfl ?_
        refine a_if_eq (tgt := 44) C dX1_monthLength_31 (by decide) (fun _ => ?_) (fun z => absurd (by decide) z)
        refine a_getsM C dX1_monthLength_44 tb421 ?_
        refine a_iload_n (i := 1) C dX1_monthLength_47 rfl rfl ?_
        refine a_monthGet C dX1_monthLength_48 (vp_in_nI hm (by decide)) ?_
        exact a_iret C dX1_monthLength_49 (Nat.le_of_ble_eq_true rfl) (Nat.le_of_ble_eq_true rfl) (hret _ _ ⟨congrArg (fun z => some (Value.int z)) (by rw [c_len y hy m hm, nI_clamp (by omega)]; first | (rw [if_pos ⟨(nI_eq (a := y) (b := 3) (by omega) (by omega)).mp c16, (nI_eq (a := m) (b := 1) (by omega) (by omega)).mp c21⟩]; done) | (rw [if_neg (fun z => c16 (by rw [z.1]; rfl))]; done) | (rw [if_neg (fun z => c21 (by rw [z.2]; rfl))]; done)), rfl⟩)
      · refine a_iload_n (i := 1) C dX1_monthLength_19 rfl rfl ?_
        refine a_iconst (v := 1) C dX1_monthLength_20 (by decide) ?_
        refine a_icmp_ne (tgt := 28) C dX1_monthLength_21 (by decide) (fun c21 => ?_) (fun c21 => ?_)
        · refine a_iconst (v := 0) C dX1_monthLength_28 (by decide) ?_
          refine a_istore_n (i := 2) C dX1_monthLength_29 rfl (by decide) ?_
          refine a_iload_n (i := 2) C dX1_monthLength_30 rfl rfl ?_
          refine a_if_eq (tgt := 44) C dX1_monthLength_31 (by decide) (fun _ => ?_) (fun z => absurd (by decide) z)
          refine a_getsM C dX1_monthLength_44 tb421 ?_
          refine a_iload_n (i := 1) C dX1_monthLength_47 rfl rfl ?_
          refine a_monthGet C dX1_monthLength_48 (vp_in_nI hm (by decide)) ?_
          exact a_iret C dX1_monthLength_49 (Nat.le_of_ble_eq_true rfl) (Nat.le_of_ble_eq_true rfl) (hret _ _ ⟨congrArg (fun z => some (Value.int z)) (by rw [c_len y hy m hm, nI_clamp (by omega)]; first | (rw [if_pos ⟨(nI_eq (a := y) (b := 3) (by omega) (by omega)).mp c16, (nI_eq (a := m) (b := 1) (by omega) (by omega)).mp c21⟩]; done) | (rw [if_neg (fun z => c16 (by rw [z.1]; rfl))]; done) | (rw [if_neg (fun z => c21 (by rw [z.2]; rfl))]; done)), rfl⟩)
        · refine a_iconst (v := 1) C dX1_monthLength_24 (by decide) ?_
          refine a_goto (tgt := 29) C dX1_monthLength_25 (by decide) ?_
          refine a_istore_n (i := 2) C dX1_monthLength_29 rfl (by decide) ?_
          refine a_iload_n (i := 2) C dX1_monthLength_30 rfl rfl ?_
          refine a_if_eq (tgt := 44) C dX1_monthLength_31 (by decide) (fun z => absurd z (by decide)) (fun _ => ?_)
          refine a_getsM C dX1_monthLength_34 tb421 ?_
          refine a_iload_n (i := 1) C dX1_monthLength_37 rfl rfl ?_
          refine a_monthGet C dX1_monthLength_38 (vp_in_nI hm (by decide)) ?_
          refine a_iconst (v := 1) C dX1_monthLength_39 (by decide) ?_
          refine a_iadd C dX1_monthLength_40 ?_
          refine a_goto (tgt := 49) C dX1_monthLength_41 (by decide) ?_
          exact a_iret C dX1_monthLength_49 (Nat.le_of_ble_eq_true rfl) (Nat.le_of_ble_eq_true rfl) (hret _ _ ⟨congrArg (fun z => some (Value.int z)) (by rw [c_len y hy m hm, nI_clamp (by omega)]; first | (rw [if_pos ⟨(nI_eq (a := y) (b := 3) (by omega) (by omega)).mp c16, (nI_eq (a := m) (b := 1) (by omega) (by omega)).mp c21⟩]; done) | (rw [if_neg (fun z => c16 (by rw [z.1]; rfl))]; done) | (rw [if_neg (fun z => c21 (by rw [z.2]; rfl))]; done)), rfl⟩)
    · exact absurd ((nI_ltI (a := m) (b := 12) (by omega) (by omega)).mpr hm) c9
set_option maxRecDepth 100000 in
set_option maxHeartbeats 4000000 in
theorem m_X1_thirtyDayNumber {l : Launch} {N0 : Nat} {D : va_G} {dT : Nat → ClassId} (hflags : l.stackTraces = false) {hp : xH} {d : Nat} (hd : d ≤ 1460)  : xMet l N0 D dT yX1_thirtyDayNumber cX1_thirtyDayNumber 4 (some FieldType.int) 1 0 0 [.int (nI d)] (hp) xNo (fun r h => r = some (.int (nI (t_M d) - 720390)) ∧ h = hp) xNX := by
  refine xMet_of hflags (by decide +kernel) (fun _ _ h => h) (Nat.le_of_ble_eq_true rfl) ?_
  intro E C I hret hthr
  refine a_loc [(0, .int (nI d))] (xsub_cons rfl (xsub_nil)) ?_
  obtain ⟨y1, y2, y3, y4, y5, y6, y7⟩ := c_yr d (by omega)
  have fin : ∀ (m l : Nat), (m + 1, l) = t_m (t_y 3 2001 d).1 14 1 (t_y 3 2001 d).2 → aW E 0 0 hp 53 [(0, .int (nI d)), (1, .int (nI ((t_y 3 2001 d).1 - 2001))), (2, .int (nI l)), (3, .int (nI m))] [] := by
    intro m l e2
    rw [← e2] at y6 y7
    have y8 : l < 31 := y7
    refine a_sipush (v := 360) C dX1_thirtyDayNumber_53 (by decide) ?_
    refine a_iload_n (i := 1) C dX1_thirtyDayNumber_56 rfl rfl ?_
    refine a_imul C dX1_thirtyDayNumber_57 ?_
    refine a_bipush (v := 30) C dX1_thirtyDayNumber_58 (by decide) ?_
    refine a_iload_n (i := 3) C dX1_thirtyDayNumber_60 rfl rfl ?_
    refine a_imul C dX1_thirtyDayNumber_61 ?_
    refine a_iadd C dX1_thirtyDayNumber_62 ?_
    refine a_iload_n (i := 2) C dX1_thirtyDayNumber_63 rfl rfl ?_
    refine a_iconst (v := 1) C dX1_thirtyDayNumber_64 (by decide) ?_
    refine a_iadd C dX1_thirtyDayNumber_65 ?_
    refine a_bipush (v := 30) C dX1_thirtyDayNumber_66 (by decide) ?_
    refine a_min C dX1_thirtyDayNumber_68 tb420 tb332 tb37 tb333 (Nat.le_of_ble_eq_true rfl) (Nat.le_of_ble_eq_true rfl) (Nat.le_of_ble_eq_true rfl) (Nat.le_of_ble_eq_true rfl) (Nat.le_of_ble_eq_true rfl) ?_
    refine a_top _ (c_min y8) ?_
    refine a_iadd C dX1_thirtyDayNumber_71 ?_
    exact a_iret C dX1_thirtyDayNumber_72 (Nat.le_of_ble_eq_true rfl) (Nat.le_of_ble_eq_true rfl) (hret _ _ ⟨congrArg (fun z => some (Value.int z)) (by rw [c_fin]; unfold t_M; rw [← e2, show 2001 + ((t_y 3 2001 d).1 - 2001) = (t_y 3 2001 d).1 by omega]), rfl⟩)
  have mon : ∀ (k m l : Nat), l < 28 * k → m + k ≤ 40 → l < 392 → m ≤ 11 → t_m (t_y 3 2001 d).1 k (m + 1) l = t_m (t_y 3 2001 d).1 14 1 (t_y 3 2001 d).2 → aW E 0 0 hp 20 [(0, .int (nI d)), (1, .int (nI ((t_y 3 2001 d).1 - 2001))), (2, .int (nI l)), (3, .int (nI m))] [] := by
    intro k
    induction k with
    | zero => intro m l h1; exact absurd h1 (by omega)
    | succ k ih =>
      intro m l h1 h2 h3 h4 ht
      have hlen := t_len_ge (m + 1) (t_y 3 2001 d).1
      have hge := t_m_ge (t_y 3 2001 d).1 k (m + 2) (l - t_len (m + 1) (t_y 3 2001 d).1)
      have hs : t_m (t_y 3 2001 d).1 (k + 1) (m + 1) l = if t_len (m + 1) (t_y 3 2001 d).1 ≤ l then t_m (t_y 3 2001 d).1 k (m + 2) (l - t_len (m + 1) (t_y 3 2001 d).1) else (m + 1, l) := rfl
      refine a_iload_n (i := 3) C dX1_thirtyDayNumber_20 rfl rfl ?_
      refine a_getsM C dX1_thirtyDayNumber_21 tb421 ?_
      refine a_monthLen C dX1_thirtyDayNumber_24 ?_
      refine a_iconst (v := 1) C dX1_thirtyDayNumber_25 (by decide) ?_
      refine a_isub C dX1_thirtyDayNumber_26 ?_
      refine a_icmp_ge (tgt := 53) C dX1_thirtyDayNumber_27 (by decide) (fun c27 => ?_) (fun c27 => ?_)
      · have hlt : ¬ t_len (m + 1) (t_y 3 2001 d).1 ≤ l := by
          first
          | exact fun z => absurd ((nI_ltI (by omega) (by omega)).mp c36) (by omega)
          | (have h11 : ¬ m < 11 := fun z => absurd ((xle (a := 11) (b := m) (by omega) (by omega)).mp c27) (by omega)
             intro z
             rw [if_pos z, ht] at hs
             rw [← hs] at hge
             omega)
        rw [if_neg hlt, ht] at hs
        refine a_loc _ ?_ (fin m l hs.symm)
        exact xsub_cons rfl (xsub_cons rfl (xsub_cons rfl (xsub_cons rfl xsub_nil)))
      · have h11 : m < 11 := by
          rcases Nat.lt_or_ge m 11 with q | q
          · exact q
          · exact absurd ((xle (a := 11) (b := m) (by omega) (by omega)).mpr q) c27
        refine a_iload_n (i := 2) C dX1_thirtyDayNumber_30 rfl rfl ?_
        refine a_iload_n (i := 1) C dX1_thirtyDayNumber_31 rfl rfl ?_
        refine a_iload_n (i := 3) C dX1_thirtyDayNumber_32 rfl rfl ?_
        refine a_callS C dX1_thirtyDayNumber_33 cs_X1_monthLength tb423 (m_X1_monthLength hflags (y := ((t_y 3 2001 d).1 - 2001)) (m := m) (by omega) (by omega)) rfl rfl (Nat.le_of_ble_eq_true rfl) ⟨Nat.le_of_ble_eq_true rfl, Nat.le_of_ble_eq_true rfl⟩ ⟨Nat.le_of_ble_eq_true rfl, Nat.le_of_ble_eq_true rfl⟩ (fun _ h => h.elim) xav_no (fun _ _ h => h.elim) (fun r33 hp33 hq33 => ?_)
        obtain ⟨rfl, rfl⟩ := hq33
        refine a_top (nI (t_len (m + 1) (t_y 3 2001 d).1)) (congrArg (fun z => nI (t_len (m + 1) z)) (by omega)) ?_
        refine a_icmp_lt (tgt := 53) C dX1_thirtyDayNumber_36 (by decide) (fun c36 => ?_) (fun c36 => ?_)
        · have hlt : ¬ t_len (m + 1) (t_y 3 2001 d).1 ≤ l := by
            first
            | exact fun z => absurd ((nI_ltI (by omega) (by omega)).mp c36) (by omega)
            | (have h11 : ¬ m < 11 := fun z => absurd ((xle (a := 11) (b := m) (by omega) (by omega)).mp c27) (by omega)
               intro z
               rw [if_pos z, ht] at hs
               rw [← hs] at hge
               omega)
          rw [if_neg hlt, ht] at hs
          refine a_loc _ ?_ (fin m l hs.symm)
          exact xsub_cons rfl (xsub_cons rfl (xsub_cons rfl (xsub_cons rfl xsub_nil)))
        · refine a_iload_n (i := 2) C dX1_thirtyDayNumber_39 rfl rfl ?_
          refine a_iload_n (i := 1) C dX1_thirtyDayNumber_40 rfl rfl ?_
          refine a_iload_n (i := 3) C dX1_thirtyDayNumber_41 rfl rfl ?_
          refine a_callS C dX1_thirtyDayNumber_42 cs_X1_monthLength tb423 (m_X1_monthLength hflags (y := ((t_y 3 2001 d).1 - 2001)) (m := m) (by omega) (by omega)) rfl rfl (Nat.le_of_ble_eq_true rfl) ⟨Nat.le_of_ble_eq_true rfl, Nat.le_of_ble_eq_true rfl⟩ ⟨Nat.le_of_ble_eq_true rfl, Nat.le_of_ble_eq_true rfl⟩ (fun _ h => h.elim) xav_no (fun _ _ h => h.elim) (fun r42 hp42 hq42 => ?_)
          obtain ⟨rfl, rfl⟩ := hq42
          refine a_top (nI (t_len (m + 1) (t_y 3 2001 d).1)) (congrArg (fun z => nI (t_len (m + 1) z)) (by omega)) ?_
          refine a_isub C dX1_thirtyDayNumber_45 ?_
          refine a_istore_n (i := 2) C dX1_thirtyDayNumber_46 rfl (by decide) ?_
          refine a_iinc (i := 3) (v := nI (m + 1)) C dX1_thirtyDayNumber_47 rfl (nI_1 m) (by decide) ?_
          refine a_goto (tgt := 20) C dX1_thirtyDayNumber_50 (by decide) ?_
          have hle : t_len (m + 1) (t_y 3 2001 d).1 ≤ l := by
            rcases Nat.lt_or_ge l (t_len (m + 1) (t_y 3 2001 d).1) with q | q
            · exact absurd ((nI_ltI (by omega) (by omega)).mpr q) c36
            · exact q
          rw [if_pos hle] at hs
          refine a_loc [(0, .int (nI d)), (1, .int (nI ((t_y 3 2001 d).1 - 2001))), (2, .int (nI (l - t_len (m + 1) (t_y 3 2001 d).1))), (3, .int (nI (m + 1)))] (xsub_cons rfl (xsub_cons rfl (xsub_cons (by rw [← pk_sub hle]; rfl) (xsub_cons rfl xsub_nil)))) ?_
          exact ih (m + 1) (l - t_len (m + 1) (t_y 3 2001 d).1) (by omega) (by omega) (by omega) (by omega) (by rw [← hs]; exact ht)
  refine a_iload_n (i := 0) C dX1_thirtyDayNumber_0 rfl rfl ?_
  refine a_sipush (v := 365) C dX1_thirtyDayNumber_1 (by decide) ?_
  refine a_idiv C dX1_thirtyDayNumber_4 (by decide) ?_
  refine a_iconst (v := 3) C dX1_thirtyDayNumber_5 (by decide) ?_
  refine a_min C dX1_thirtyDayNumber_6 tb420 tb332 tb37 tb333 (Nat.le_of_ble_eq_true rfl) (Nat.le_of_ble_eq_true rfl) (Nat.le_of_ble_eq_true rfl) (Nat.le_of_ble_eq_true rfl) (Nat.le_of_ble_eq_true rfl) ?_
  refine a_top _ y1 ?_
  refine a_istore_n (i := 1) C dX1_thirtyDayNumber_9 rfl (by decide) ?_
  refine a_iload_n (i := 0) C dX1_thirtyDayNumber_10 rfl rfl ?_
  refine a_iload_n (i := 1) C dX1_thirtyDayNumber_11 rfl rfl ?_
  refine a_sipush (v := 365) C dX1_thirtyDayNumber_12 (by decide) ?_
  refine a_imul C dX1_thirtyDayNumber_15 ?_
  refine a_isub C dX1_thirtyDayNumber_16 ?_
  refine a_top _ y2 ?_
  refine a_istore_n (i := 2) C dX1_thirtyDayNumber_17 rfl (by decide) ?_
  refine a_iconst (v := 0) C dX1_thirtyDayNumber_18 (by decide) ?_
  refine a_istore_n (i := 3) C dX1_thirtyDayNumber_19 rfl (by decide) ?_
  refine a_loc _ ?_ (mon 14 0 (t_y 3 2001 d).2 (by omega) (by omega) y5 (by omega) rfl)
  exact xsub_cons rfl (xsub_cons rfl (xsub_cons rfl (xsub_cons rfl xsub_nil)))
set_option maxRecDepth 100000 in
set_option maxHeartbeats 4000000 in
theorem m_X1_daysBetween {l : Launch} {N0 : Nat} {D : va_G} {dT : Nat → ClassId} (hflags : l.stackTraces = false) {hp : xH} {conv : Int32} {a b : Nat} (ha : a ≤ 1460) (hb : b ≤ 1460)  : xMet l N0 D dT yX1_daysBetween cX1_daysBetween 3 (some FieldType.int) 2 0 0 [.int conv, .int (nI a), .int (nI b)] (hp) xNo (fun r h => r = some (.int (xbt conv a b)) ∧ h = hp) xNX := by
  refine xMet_of hflags (by decide +kernel) (fun _ _ h => h) (Nat.le_of_ble_eq_true rfl) ?_
  intro E C I hret hthr
  refine a_loc [(0, .int conv), (1, .int (nI a)), (2, .int (nI b))] (xsub_cons rfl (xsub_cons rfl (xsub_cons rfl (xsub_nil)))) ?_
  refine a_iload_n (i := 0) C dX1_daysBetween_0 rfl rfl ?_
  refine a_iconst (v := 2) C dX1_daysBetween_1 (by decide) ?_
  refine a_icmp_ne (tgt := 15) C dX1_daysBetween_2 (by decide) (fun c2 => ?_) (fun c2 => ?_)
  · refine a_iload_n (i := 2) C dX1_daysBetween_15 rfl rfl ?_
    refine a_iload_n (i := 1) C dX1_daysBetween_16 rfl rfl ?_
    refine a_isub C dX1_daysBetween_17 ?_
    exact a_iret C dX1_daysBetween_18 (Nat.le_of_ble_eq_true rfl) (Nat.le_of_ble_eq_true rfl) (hret _ _ (by unfold xbt; first | (rw [if_pos c2]; exact ⟨congrArg (fun z => some (Value.int z)) xr_7, rfl⟩) | (rw [if_neg c2]; exact ⟨rfl, rfl⟩)))
  · refine a_iload_n (i := 2) C dX1_daysBetween_5 rfl rfl ?_
    refine a_callS C dX1_daysBetween_6 cs_X1_thirtyDayNumber tb417 (m_X1_thirtyDayNumber hflags hb) rfl rfl (Nat.le_of_ble_eq_true rfl) ⟨Nat.le_of_ble_eq_true rfl, Nat.le_of_ble_eq_true rfl⟩ ⟨Nat.le_of_ble_eq_true rfl, Nat.le_of_ble_eq_true rfl⟩ (fun _ h => h.elim) xav_no (fun _ _ h => h.elim) (fun r6 hp6 hq6 => ?_)
    obtain ⟨rfl, rfl⟩ := hq6
    refine a_iload_n (i := 1) C dX1_daysBetween_9 rfl rfl ?_
    refine a_callS C dX1_daysBetween_10 cs_X1_thirtyDayNumber tb417 (m_X1_thirtyDayNumber hflags ha) rfl rfl (Nat.le_of_ble_eq_true rfl) ⟨Nat.le_of_ble_eq_true rfl, Nat.le_of_ble_eq_true rfl⟩ ⟨Nat.le_of_ble_eq_true rfl, Nat.le_of_ble_eq_true rfl⟩ (fun _ h => h.elim) xav_no (fun _ _ h => h.elim) (fun r10 hp10 hq10 => ?_)
    obtain ⟨rfl, rfl⟩ := hq10
    refine a_isub C dX1_daysBetween_13 ?_
    exact a_iret C dX1_daysBetween_14 (Nat.le_of_ble_eq_true rfl) (Nat.le_of_ble_eq_true rfl) (hret _ _ (by unfold xbt; first | (rw [if_pos c2]; exact ⟨congrArg (fun z => some (Value.int z)) xr_7, rfl⟩) | (rw [if_neg c2]; exact ⟨rfl, rfl⟩)))
