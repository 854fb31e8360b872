/-! What the reference's calls do, as functions of its state: the answer, the new state (its refusal at n 0). -/
abbrev mS : Type := (Nat → Int32) × (Nat → Nat → Int32) × (Nat → Nat → Int64)
def mP (h : xH) (o : Int32 × mS) : Option Value → xH → Prop := fun r h' => r = some (.int o.1) ∧ h' = xM h o.2.1 o.2.2.1 o.2.2.2
def oNo (why : Int32) (n : Nat → Int32) (f : Nat → Nat → Int32) (g : Nat → Nat → Int64) : Int32 × mS := (0, nup n 0 why, f, g)
def oRd (p : Prop) [Decidable p] (v : Int32) (n : Nat → Int32) (f : Nat → Nat → Int32) (g : Nat → Nat → Int64) : Int32 × mS := if p then (v, nup n 0 0, f, g) else oNo 1 n f g
theorem mP_rt {p : Prop} [Decidable p] {v : Int32} {h : xH} {n : Nat → Int32} {f : Nat → Nat → Int32} {g : Nat → Nat → Int64} (hp : p) {w : Int32} (e : w = v) : mP h (oRd p v n f g) (some (.int w)) (xM h (nup n 0 0) f g) := by
  unfold mP oRd
  rw [if_pos hp, e]
  exact ⟨rfl, rfl⟩
theorem mP_rf {p : Prop} [Decidable p] {v : Int32} {h : xH} {n : Nat → Int32} {f : Nat → Nat → Int32} {g : Nat → Nat → Int64} (hp : ¬ p) : mP h (oRd p v n f g) (some (.int 0)) (xM h (nup n 0 1) f g) := by
  unfold mP oRd
  rw [if_neg hp]
  exact ⟨rfl, rfl⟩
/-- the customer of an invoice, of a payment -/
def xow (f : Nat → Nat → Int32) (i : Nat) : Nat := (f 10 i).toNatClampNeg
def xun (m : Int32) : Int64 := 10000 * (if m = 0 then (365 : Int32) else 360).toInt64
theorem xun_ne (m : Int32) : ¬ xun m = 0 := by
  unfold xun
  split <;> decide
/-- the accrued cents of an invoice -/
def xac (f : Nat → Nat → Int32) (g : Nat → Nat → Int64) (i : Nat) : Int32 := (g 15 i / xun (f 7 (xow f i))).toInt32
theorem xow_eq {f : Nat → Nat → Int32} {i k : Nat} (h : f 10 i = nI k) (hk : k < 2 ^ 31) : xow f i = k := by
  unfold xow
  rw [h, nI_clamp hk]
abbrev xokR (rule : Int32) : Prop := 0 ≤ rule ∧ rule ≤ 2
abbrev xokT (rate : Int32) : Prop := 0 ≤ rate ∧ rate ≤ 3000
abbrev xokD (term : Int32) : Prop := 0 ≤ term ∧ term ≤ 120
abbrev xokA (amount : Int32) : Prop := 1 ≤ amount ∧ amount ≤ 10000000
def o_setRule (nc : Nat) (c rule : Int32) (n : Nat → Int32) (f : Nat → Nat → Int32) (g : Nat → Nat → Int64) : Int32 × mS := if ¬ xin c nc then oNo 1 n f g else if ¬ xokR rule then oNo 2 n f g else (f 6 c.toNatClampNeg, nup n 0 0, fup f 6 (upd (f 6) c.toNatClampNeg rule), g)
def o_setRate (nc : Nat) (c rate : Int32) (n : Nat → Int32) (f : Nat → Nat → Int32) (g : Nat → Nat → Int64) : Int32 × mS := if ¬ xin c nc then oNo 1 n f g else if ¬ xokT rate then oNo 2 n f g else (f 8 c.toNatClampNeg, nup n 0 0, fup f 8 (upd (f 8) c.toNatClampNeg rate), g)
def o_pause (nc : Nat) (c days : Int32) (n : Nat → Int32) (f : Nat → Nat → Int32) (g : Nat → Nat → Int64) : Int32 × mS := if ¬ xin c nc then oNo 1 n f g else if ¬ (0 ≤ days ∧ days ≤ 200) then oNo 2 n f g else (n 1 + days, nup n 0 0, fup f 9 (upd (f 9) c.toNatClampNeg (n 1 + days)), g)
def o_addCustomer (nc : Nat) (rule conv rate : Int32) (n : Nat → Int32) (f : Nat → Nat → Int32) (g : Nat → Nat → Int64) : Int32 × mS := if ¬ (xokR rule ∧ xokR conv ∧ xokT rate) then oNo 1 n f g else if nc = 6 then oNo 2 n f g else (nI nc, nup (nup n 0 0) 2 (nI (nc + 1)), fup (fup (fup f 6 (upd (f 6) nc rule)) 7 (upd (f 7) nc conv)) 8 (upd (f 8) nc rate), g)
def mWr (nl : Nat) (i : Nat) (a : Int32) (n : Nat → Int32) (f : Nat → Nat → Int32) : (Nat → Int32) × (Nat → Nat → Int32) := if a = 0 then (n, f) else (nup n 5 (nI (nl + 1)), fup (fup f 23 (upd (f 23) nl (nI i))) 24 (upd (f 24) nl a))
set_option maxRecDepth 100000 in
set_option maxHeartbeats 4000000 in
theorem m_X7_amountOf {l : Launch} {N0 : Nat} {D : va_G} {dT : Nat → ClassId} (hflags : l.stackTraces = false) {h : xH} {n : Nat → Int32} {f : Nat → Nat → Int32} {g : Nat → Nat → Int64} {nc ni np nl : Nat} (hI : xI n nc ni np nl) {w : Int32}   : xMet l N0 D dT yX7_amountOf cX7_amountOf 2 (some FieldType.int) 3 0 0 [.ref 200, .int w] (xM h n f g) xNo (mP h (oRd (xin w ni) (f 11 w.toNatClampNeg) n f g)) xNX := by
  refine xMet_of hflags (by decide +kernel) (fun _ _ h => h) (Nat.le_of_ble_eq_true rfl) ?_
  intro E C I hret hthr
  refine a_loc [(0, .ref 200), (1, .int w)] (xsub_cons rfl (xsub_cons rfl (xsub_nil))) ?_
  obtain ⟨hc, hi, hpy, hln, hc6, hi24, hp24, hlm⟩ := id hI
  refine a_aload_n (i := 0) C dX7_amountOf_0 rfl rfl ?_
  refine a_iload_n (i := 1) C dX7_amountOf_1 rfl rfl ?_
  refine a_callV C dX7_amountOf_2 cv_X7_noInvoice tb1193 (m_X7_noInvoice hflags hI) rfl rfl xM_0 rfl (Nat.le_of_ble_eq_true rfl) ⟨Nat.le_of_ble_eq_true rfl, Nat.le_of_ble_eq_true rfl⟩ ⟨Nat.le_of_ble_eq_true rfl, Nat.le_of_ble_eq_true rfl⟩ (fun _ h => h.elim) xav_no (fun _ _ h => h.elim) (fun r2 hp2 hq2 => ?_)
  obtain ⟨rfl, rfl⟩ := hq2
  refine a_if_eq (tgt := 12) C dX7_amountOf_5 (by decide) (fun c5 => ?_) (fun c5 => ?_)
  · have e5 := bN0 c5
    obtain ⟨i, hiw, rfl⟩ := xin_nI e5 (by omega)
    refine a_aload_n (i := 0) C dX7_amountOf_12 rfl rfl ?_
    refine a_get C dX7_amountOf_13 fl_X7_25 xM_0 rfl ?_
    refine a_iload_n (i := 1) C dX7_amountOf_16 rfl rfl ?_
    refine a_ialdI C dX7_amountOf_17 xM_11 ⟨by omega, by omega⟩ ?_
    exact a_iret C dX7_amountOf_18 (Nat.le_of_ble_eq_true rfl) (Nat.le_of_ble_eq_true rfl) (hret _ _ (by first | (rw [bI_t (bNn c5)]; exact mP_rf (bNn c5)) | (rw [bI_f (fun z => z e5)]; exact mP_rt e5 (by rw [nI_clamp (by omega)]))))
  · refine a_iconst (v := 0) C dX7_amountOf_8 (by decide) ?_
    refine a_goto (tgt := 18) C dX7_amountOf_9 (by decide) ?_
    exact a_iret C dX7_amountOf_18 (Nat.le_of_ble_eq_true rfl) (Nat.le_of_ble_eq_true rfl) (hret _ _ (by first | (rw [bI_t (bNn c5)]; exact mP_rf (bNn c5)) | (rw [bI_f (fun z => z e5)]; exact mP_rt e5 (by rw [nI_clamp (by omega)]))))
set_option maxRecDepth 100000 in
set_option maxHeartbeats 4000000 in
theorem m_X7_dueDay {l : Launch} {N0 : Nat} {D : va_G} {dT : Nat → ClassId} (hflags : l.stackTraces = false) {h : xH} {n : Nat → Int32} {f : Nat → Nat → Int32} {g : Nat → Nat → Int64} {nc ni np nl : Nat} (hI : xI n nc ni np nl) {w : Int32}   : xMet l N0 D dT yX7_dueDay cX7_dueDay 2 (some FieldType.int) 3 0 0 [.ref 200, .int w] (xM h n f g) xNo (mP h (oRd (xin w ni) (f 12 w.toNatClampNeg) n f g)) xNX := by
  refine xMet_of hflags (by decide +kernel) (fun _ _ h => h) (Nat.le_of_ble_eq_true rfl) ?_
  intro E C I hret hthr
  refine a_loc [(0, .ref 200), (1, .int w)] (xsub_cons rfl (xsub_cons rfl (xsub_nil))) ?_
  obtain ⟨hc, hi, hpy, hln, hc6, hi24, hp24, hlm⟩ := id hI
  refine a_aload_n (i := 0) C dX7_dueDay_0 rfl rfl ?_
  refine a_iload_n (i := 1) C dX7_dueDay_1 rfl rfl ?_
  refine a_callV C dX7_dueDay_2 cv_X7_noInvoice tb1193 (m_X7_noInvoice hflags hI) rfl rfl xM_0 rfl (Nat.le_of_ble_eq_true rfl) ⟨Nat.le_of_ble_eq_true rfl, Nat.le_of_ble_eq_true rfl⟩ ⟨Nat.le_of_ble_eq_true rfl, Nat.le_of_ble_eq_true rfl⟩ (fun _ h => h.elim) xav_no (fun _ _ h => h.elim) (fun r2 hp2 hq2 => ?_)
  obtain ⟨rfl, rfl⟩ := hq2
  refine a_if_eq (tgt := 12) C dX7_dueDay_5 (by decide) (fun c5 => ?_) (fun c5 => ?_)
  · have e5 := bN0 c5
    obtain ⟨i, hiw, rfl⟩ := xin_nI e5 (by omega)
    refine a_aload_n (i := 0) C dX7_dueDay_12 rfl rfl ?_
    refine a_get C dX7_dueDay_13 fl_X7_28 xM_0 rfl ?_
    refine a_iload_n (i := 1) C dX7_dueDay_16 rfl rfl ?_
    refine a_ialdI C dX7_dueDay_17 xM_12 ⟨by omega, by omega⟩ ?_
    exact a_iret C dX7_dueDay_18 (Nat.le_of_ble_eq_true rfl) (Nat.le_of_ble_eq_true rfl) (hret _ _ (by first | (rw [bI_t (bNn c5)]; exact mP_rf (bNn c5)) | (rw [bI_f (fun z => z e5)]; exact mP_rt e5 (by rw [nI_clamp (by omega)]))))
  · refine a_iconst (v := 0) C dX7_dueDay_8 (by decide) ?_
    refine a_goto (tgt := 18) C dX7_dueDay_9 (by decide) ?_
    exact a_iret C dX7_dueDay_18 (Nat.le_of_ble_eq_true rfl) (Nat.le_of_ble_eq_true rfl) (hret _ _ (by first | (rw [bI_t (bNn c5)]; exact mP_rf (bNn c5)) | (rw [bI_f (fun z => z e5)]; exact mP_rt e5 (by rw [nI_clamp (by omega)]))))
set_option maxRecDepth 100000 in
set_option maxHeartbeats 4000000 in
theorem m_X7_openOf {l : Launch} {N0 : Nat} {D : va_G} {dT : Nat → ClassId} (hflags : l.stackTraces = false) {h : xH} {n : Nat → Int32} {f : Nat → Nat → Int32} {g : Nat → Nat → Int64} {nc ni np nl : Nat} (hI : xI n nc ni np nl) {w : Int32}   : xMet l N0 D dT yX7_openOf cX7_openOf 2 (some FieldType.int) 3 0 0 [.ref 200, .int w] (xM h n f g) xNo (mP h (oRd (xin w ni) (f 13 w.toNatClampNeg) n f g)) xNX := by
  refine xMet_of hflags (by decide +kernel) (fun _ _ h => h) (Nat.le_of_ble_eq_true rfl) ?_
  intro E C I hret hthr
  refine a_loc [(0, .ref 200), (1, .int w)] (xsub_cons rfl (xsub_cons rfl (xsub_nil))) ?_
  obtain ⟨hc, hi, hpy, hln, hc6, hi24, hp24, hlm⟩ := id hI
  refine a_aload_n (i := 0) C dX7_openOf_0 rfl rfl ?_
  refine a_iload_n (i := 1) C dX7_openOf_1 rfl rfl ?_
  refine a_callV C dX7_openOf_2 cv_X7_noInvoice tb1193 (m_X7_noInvoice hflags hI) rfl rfl xM_0 rfl (Nat.le_of_ble_eq_true rfl) ⟨Nat.le_of_ble_eq_true rfl, Nat.le_of_ble_eq_true rfl⟩ ⟨Nat.le_of_ble_eq_true rfl, Nat.le_of_ble_eq_true rfl⟩ (fun _ h => h.elim) xav_no (fun _ _ h => h.elim) (fun r2 hp2 hq2 => ?_)
  obtain ⟨rfl, rfl⟩ := hq2
  refine a_if_eq (tgt := 12) C dX7_openOf_5 (by decide) (fun c5 => ?_) (fun c5 => ?_)
  · have e5 := bN0 c5
    obtain ⟨i, hiw, rfl⟩ := xin_nI e5 (by omega)
    refine a_aload_n (i := 0) C dX7_openOf_12 rfl rfl ?_
    refine a_get C dX7_openOf_13 fl_X7_31 xM_0 rfl ?_
    refine a_iload_n (i := 1) C dX7_openOf_16 rfl rfl ?_
    refine a_ialdI C dX7_openOf_17 xM_13 ⟨by omega, by omega⟩ ?_
    exact a_iret C dX7_openOf_18 (Nat.le_of_ble_eq_true rfl) (Nat.le_of_ble_eq_true rfl) (hret _ _ (by first | (rw [bI_t (bNn c5)]; exact mP_rf (bNn c5)) | (rw [bI_f (fun z => z e5)]; exact mP_rt e5 (by rw [nI_clamp (by omega)]))))
  · refine a_iconst (v := 0) C dX7_openOf_8 (by decide) ?_
    refine a_goto (tgt := 18) C dX7_openOf_9 (by decide) ?_
    exact a_iret C dX7_openOf_18 (Nat.le_of_ble_eq_true rfl) (Nat.le_of_ble_eq_true rfl) (hret _ _ (by first | (rw [bI_t (bNn c5)]; exact mP_rf (bNn c5)) | (rw [bI_f (fun z => z e5)]; exact mP_rt e5 (by rw [nI_clamp (by omega)]))))
set_option maxRecDepth 100000 in
set_option maxHeartbeats 4000000 in
theorem m_X7_disputedOf {l : Launch} {N0 : Nat} {D : va_G} {dT : Nat → ClassId} (hflags : l.stackTraces = false) {h : xH} {n : Nat → Int32} {f : Nat → Nat → Int32} {g : Nat → Nat → Int64} {nc ni np nl : Nat} (hI : xI n nc ni np nl) {w : Int32}   : xMet l N0 D dT yX7_disputedOf cX7_disputedOf 2 (some FieldType.int) 3 0 0 [.ref 200, .int w] (xM h n f g) xNo (mP h (oRd (xin w ni) (f 14 w.toNatClampNeg) n f g)) xNX := by
  refine xMet_of hflags (by decide +kernel) (fun _ _ h => h) (Nat.le_of_ble_eq_true rfl) ?_
  intro E C I hret hthr
  refine a_loc [(0, .ref 200), (1, .int w)] (xsub_cons rfl (xsub_cons rfl (xsub_nil))) ?_
  obtain ⟨hc, hi, hpy, hln, hc6, hi24, hp24, hlm⟩ := id hI
  refine a_aload_n (i := 0) C dX7_disputedOf_0 rfl rfl ?_
  refine a_iload_n (i := 1) C dX7_disputedOf_1 rfl rfl ?_
  refine a_callV C dX7_disputedOf_2 cv_X7_noInvoice tb1193 (m_X7_noInvoice hflags hI) rfl rfl xM_0 rfl (Nat.le_of_ble_eq_true rfl) ⟨Nat.le_of_ble_eq_true rfl, Nat.le_of_ble_eq_true rfl⟩ ⟨Nat.le_of_ble_eq_true rfl, Nat.le_of_ble_eq_true rfl⟩ (fun _ h => h.elim) xav_no (fun _ _ h => h.elim) (fun r2 hp2 hq2 => ?_)
  obtain ⟨rfl, rfl⟩ := hq2
  refine a_if_eq (tgt := 12) C dX7_disputedOf_5 (by decide) (fun c5 => ?_) (fun c5 => ?_)
  · have e5 := bN0 c5
    obtain ⟨i, hiw, rfl⟩ := xin_nI e5 (by omega)
    refine a_aload_n (i := 0) C dX7_disputedOf_12 rfl rfl ?_
    refine a_get C dX7_disputedOf_13 fl_X7_34 xM_0 rfl ?_
    refine a_iload_n (i := 1) C dX7_disputedOf_16 rfl rfl ?_
    refine a_ialdI C dX7_disputedOf_17 xM_14 ⟨by omega, by omega⟩ ?_
    exact a_iret C dX7_disputedOf_18 (Nat.le_of_ble_eq_true rfl) (Nat.le_of_ble_eq_true rfl) (hret _ _ (by first | (rw [bI_t (bNn c5)]; exact mP_rf (bNn c5)) | (rw [bI_f (fun z => z e5)]; exact mP_rt e5 (by rw [nI_clamp (by omega)]))))
  · refine a_iconst (v := 0) C dX7_disputedOf_8 (by decide) ?_
    refine a_goto (tgt := 18) C dX7_disputedOf_9 (by decide) ?_
    exact a_iret C dX7_disputedOf_18 (Nat.le_of_ble_eq_true rfl) (Nat.le_of_ble_eq_true rfl) (hret _ _ (by first | (rw [bI_t (bNn c5)]; exact mP_rf (bNn c5)) | (rw [bI_f (fun z => z e5)]; exact mP_rt e5 (by rw [nI_clamp (by omega)]))))
set_option maxRecDepth 100000 in
set_option maxHeartbeats 4000000 in
theorem m_X7_levelOf {l : Launch} {N0 : Nat} {D : va_G} {dT : Nat → ClassId} (hflags : l.stackTraces = false) {h : xH} {n : Nat → Int32} {f : Nat → Nat → Int32} {g : Nat → Nat → Int64} {nc ni np nl : Nat} (hI : xI n nc ni np nl) {w : Int32}   : xMet l N0 D dT yX7_levelOf cX7_levelOf 2 (some FieldType.int) 3 0 0 [.ref 200, .int w] (xM h n f g) xNo (mP h (oRd (xin w ni) (f 17 w.toNatClampNeg) n f g)) xNX := by
  refine xMet_of hflags (by decide +kernel) (fun _ _ h => h) (Nat.le_of_ble_eq_true rfl) ?_
  intro E C I hret hthr
  refine a_loc [(0, .ref 200), (1, .int w)] (xsub_cons rfl (xsub_cons rfl (xsub_nil))) ?_
  obtain ⟨hc, hi, hpy, hln, hc6, hi24, hp24, hlm⟩ := id hI
  refine a_aload_n (i := 0) C dX7_levelOf_0 rfl rfl ?_
  refine a_iload_n (i := 1) C dX7_levelOf_1 rfl rfl ?_
  refine a_callV C dX7_levelOf_2 cv_X7_noInvoice tb1193 (m_X7_noInvoice hflags hI) rfl rfl xM_0 rfl (Nat.le_of_ble_eq_true rfl) ⟨Nat.le_of_ble_eq_true rfl, Nat.le_of_ble_eq_true rfl⟩ ⟨Nat.le_of_ble_eq_true rfl, Nat.le_of_ble_eq_true rfl⟩ (fun _ h => h.elim) xav_no (fun _ _ h => h.elim) (fun r2 hp2 hq2 => ?_)
  obtain ⟨rfl, rfl⟩ := hq2
  refine a_if_eq (tgt := 12) C dX7_levelOf_5 (by decide) (fun c5 => ?_) (fun c5 => ?_)
  · have e5 := bN0 c5
    obtain ⟨i, hiw, rfl⟩ := xin_nI e5 (by omega)
    refine a_aload_n (i := 0) C dX7_levelOf_12 rfl rfl ?_
    refine a_get C dX7_levelOf_13 fl_X7_45 xM_0 rfl ?_
    refine a_iload_n (i := 1) C dX7_levelOf_16 rfl rfl ?_
    refine a_ialdI C dX7_levelOf_17 xM_17 ⟨by omega, by omega⟩ ?_
    exact a_iret C dX7_levelOf_18 (Nat.le_of_ble_eq_true rfl) (Nat.le_of_ble_eq_true rfl) (hret _ _ (by first | (rw [bI_t (bNn c5)]; exact mP_rf (bNn c5)) | (rw [bI_f (fun z => z e5)]; exact mP_rt e5 (by rw [nI_clamp (by omega)]))))
  · refine a_iconst (v := 0) C dX7_levelOf_8 (by decide) ?_
    refine a_goto (tgt := 18) C dX7_levelOf_9 (by decide) ?_
    exact a_iret C dX7_levelOf_18 (Nat.le_of_ble_eq_true rfl) (Nat.le_of_ble_eq_true rfl) (hret _ _ (by first | (rw [bI_t (bNn c5)]; exact mP_rf (bNn c5)) | (rw [bI_f (fun z => z e5)]; exact mP_rt e5 (by rw [nI_clamp (by omega)]))))
set_option maxRecDepth 100000 in
set_option maxHeartbeats 4000000 in
theorem m_X7_isInterest {l : Launch} {N0 : Nat} {D : va_G} {dT : Nat → ClassId} (hflags : l.stackTraces = false) {h : xH} {n : Nat → Int32} {f : Nat → Nat → Int32} {g : Nat → Nat → Int64} {w : Int32}{nc ni np nl : Nat} (hI : xI n nc ni np nl)  : xMet l N0 D dT yX7_isInterest cX7_isInterest 2 (some FieldType.boolean) 3 0 0 [.ref 200, .int w] (xM h n f g) xNo (mP h (oRd (xin w ni) (bI (¬ f 16 w.toNatClampNeg = 0)) n f g)) xNX := by
  refine xMet_of hflags (by decide +kernel) (fun _ _ h => h) (Nat.le_of_ble_eq_true rfl) ?_
  intro E C I hret hthr
  refine a_loc [(0, .ref 200), (1, .int w)] (xsub_cons rfl (xsub_cons rfl (xsub_nil))) ?_
  obtain ⟨hc, hi, hpy, hln, hc6, hi24, hp24, hlm⟩ := id hI
  refine a_aload_n (i := 0) C dX7_isInterest_0 rfl rfl ?_
  refine a_iload_n (i := 1) C dX7_isInterest_1 rfl rfl ?_
  refine a_callV C dX7_isInterest_2 cv_X7_noInvoice tb1193 (m_X7_noInvoice hflags hI) rfl rfl xM_0 rfl (Nat.le_of_ble_eq_true rfl) ⟨Nat.le_of_ble_eq_true rfl, Nat.le_of_ble_eq_true rfl⟩ ⟨Nat.le_of_ble_eq_true rfl, Nat.le_of_ble_eq_true rfl⟩ (fun _ h => h.elim) xav_no (fun _ _ h => h.elim) (fun r2 hp2 hq2 => ?_)
  obtain ⟨rfl, rfl⟩ := hq2
  refine a_if_ne (tgt := 21) C dX7_isInterest_5 (by decide) (fun c5 => ?_) (fun c5 => ?_)
  · refine a_iconst (v := 0) C dX7_isInterest_21 (by decide) ?_
    exact a_zret C dX7_isInterest_22 (by first | rfl | exact bI_nar) (Nat.le_of_ble_eq_true rfl) (Nat.le_of_ble_eq_true rfl) (hret _ _ (by first | (rw [bI_t (bNn c5)]; exact mP_rf (bNn c5)) | (rw [bI_f (p := ¬ xin (nI i) ni) (fun z => z e5)]; refine mP_rt e5 ?_; rw [nI_clamp (by omega)]; first | exact (bI_t c14).symm | exact (bI_f (fun z => z c14)).symm)))
  · have e5 := bN0 c5
    obtain ⟨i, hiw, rfl⟩ := xin_nI e5 (by omega)
    refine a_aload_n (i := 0) C dX7_isInterest_8 rfl rfl ?_
    refine a_get C dX7_isInterest_9 fl_X7_41 xM_0 rfl ?_
    refine a_iload_n (i := 1) C dX7_isInterest_12 rfl rfl ?_
    refine a_zaldI C dX7_isInterest_13 xM_16 ⟨by omega, by omega⟩ ?_
    refine a_if_eq (tgt := 21) C dX7_isInterest_14 (by decide) (fun c14 => ?_) (fun c14 => ?_)
    · refine a_iconst (v := 0) C dX7_isInterest_21 (by decide) ?_
      exact a_zret C dX7_isInterest_22 (by first | rfl | exact bI_nar) (Nat.le_of_ble_eq_true rfl) (Nat.le_of_ble_eq_true rfl) (hret _ _ (by first | (rw [bI_t (bNn c5)]; exact mP_rf (bNn c5)) | (rw [bI_f (p := ¬ xin (nI i) ni) (fun z => z e5)]; refine mP_rt e5 ?_; rw [nI_clamp (by omega)]; first | exact (bI_t c14).symm | exact (bI_f (fun z => z c14)).symm)))
    · refine a_iconst (v := 1) C dX7_isInterest_17 (by decide) ?_
      refine a_goto (tgt := 22) C dX7_isInterest_18 (by decide) ?_
      exact a_zret C dX7_isInterest_22 (by first | rfl | exact bI_nar) (Nat.le_of_ble_eq_true rfl) (Nat.le_of_ble_eq_true rfl) (hret _ _ (by first | (rw [bI_t (bNn c5)]; exact mP_rf (bNn c5)) | (rw [bI_f (p := ¬ xin (nI i) ni) (fun z => z e5)]; refine mP_rt e5 ?_; rw [nI_clamp (by omega)]; first | exact (bI_t c14).symm | exact (bI_f (fun z => z c14)).symm)))
set_option maxRecDepth 100000 in
set_option maxHeartbeats 4000000 in
theorem m_X7_accruedOf {l : Launch} {N0 : Nat} {D : va_G} {dT : Nat → ClassId} (hflags : l.stackTraces = false) {h : xH} {n : Nat → Int32} {f : Nat → Nat → Int32} {g : Nat → Nat → Int64} {i k : Nat} (hi : i < 24) (hk : k < 6) (ho : f 10 i = nI k)  : xMet l N0 D dT yX7_accruedOf cX7_accruedOf 2 (some FieldType.int) 1 0 0 [.ref 200, .int (nI i)] (xM h n f g) xNo (fun r h' => r = some (.int (xac f g i)) ∧ h' = xM h n f g) xNX := by
  refine xMet_of hflags (by decide +kernel) (fun _ _ h => h) (Nat.le_of_ble_eq_true rfl) ?_
  intro E C I hret hthr
  refine a_loc [(0, .ref 200), (1, .int (nI i))] (xsub_cons rfl (xsub_cons rfl (xsub_nil))) ?_
  refine a_aload_n (i := 0) C dX7_accruedOf_0 rfl rfl ?_
  refine a_get C dX7_accruedOf_1 fl_X7_37 xM_0 rfl ?_
  refine a_iload_n (i := 1) C dX7_accruedOf_4 rfl rfl ?_
  refine a_laldI C dX7_accruedOf_5 xM_15 ⟨by omega, by omega⟩ ?_
  refine a_aload_n (i := 0) C dX7_accruedOf_6 rfl rfl ?_
  refine a_get C dX7_accruedOf_7 fl_X7_13 xM_0 rfl ?_
  refine a_aload_n (i := 0) C dX7_accruedOf_10 rfl rfl ?_
  refine a_get C dX7_accruedOf_11 fl_X7_22 xM_0 rfl ?_
  refine a_iload_n (i := 1) C dX7_accruedOf_14 rfl rfl ?_
  refine a_ialdV C (nI k) dX7_accruedOf_15 xM_10 ⟨by omega, by omega⟩ ho ?_
  refine a_ialdI C dX7_accruedOf_16 xM_7 ⟨by omega, by omega⟩ ?_
  refine a_callS C dX7_accruedOf_17 cs_X7_unit tb1185 (m_X7_unit hflags) rfl rfl (Nat.le_of_ble_eq_true rfl) ⟨Nat.le_of_ble_eq_true rfl, Nat.le_of_ble_eq_true rfl⟩ ⟨Nat.le_of_ble_eq_true rfl, Nat.le_of_ble_eq_true rfl⟩ (fun _ h => h.elim) xav_no (fun _ _ h => h.elim) (fun r17 hp17 hq17 => ?_)
  obtain ⟨rfl, rfl⟩ := hq17
  refine a_ldiv C dX7_accruedOf_20 (xun_ne _) ?_
  refine a_l2i C dX7_accruedOf_21 ?_
  exact a_iret C dX7_accruedOf_22 (Nat.le_of_ble_eq_true rfl) (Nat.le_of_ble_eq_true rfl) (hret _ _ ⟨by unfold xac; rw [xow_eq ho (by omega)]; rfl, rfl⟩)
set_option maxRecDepth 100000 in
set_option maxHeartbeats 4000000 in
theorem m_X7_accrued {l : Launch} {N0 : Nat} {D : va_G} {dT : Nat → ClassId} (hflags : l.stackTraces = false) {h : xH} {n : Nat → Int32} {f : Nat → Nat → Int32} {g : Nat → Nat → Int64} {nc ni np nl : Nat} (hI : xI n nc ni np nl) {w : Int32} (hO : ∀ i, i < ni → ∃ k, k < 6 ∧ f 10 i = nI k)  : xMet l N0 D dT yX7_accrued cX7_accrued 2 (some FieldType.int) 3 0 0 [.ref 200, .int w] (xM h n f g) xNo (mP h (oRd (xin w ni) (xac f g w.toNatClampNeg) n f g)) xNX := by
  refine xMet_of hflags (by decide +kernel) (fun _ _ h => h) (Nat.le_of_ble_eq_true rfl) ?_
  intro E C I hret hthr
  refine a_loc [(0, .ref 200), (1, .int w)] (xsub_cons rfl (xsub_cons rfl (xsub_nil))) ?_
  obtain ⟨hc, hi, hpy, hln, hc6, hi24, hp24, hlm⟩ := id hI
  refine a_aload_n (i := 0) C dX7_accrued_0 rfl rfl ?_
  refine a_iload_n (i := 1) C dX7_accrued_1 rfl rfl ?_
  refine a_callV C dX7_accrued_2 cv_X7_noInvoice tb1193 (m_X7_noInvoice hflags hI) rfl rfl xM_0 rfl (Nat.le_of_ble_eq_true rfl) ⟨Nat.le_of_ble_eq_true rfl, Nat.le_of_ble_eq_true rfl⟩ ⟨Nat.le_of_ble_eq_true rfl, Nat.le_of_ble_eq_true rfl⟩ (fun _ h => h.elim) xav_no (fun _ _ h => h.elim) (fun r2 hp2 hq2 => ?_)
  obtain ⟨rfl, rfl⟩ := hq2
  refine a_if_eq (tgt := 12) C dX7_accrued_5 (by decide) (fun c5 => ?_) (fun c5 => ?_)
  · have e5 := bN0 c5
    obtain ⟨i, hiw, rfl⟩ := xin_nI e5 (by omega)
    obtain ⟨k, hk6, hk⟩ := hO i hiw
    refine a_aload_n (i := 0) C dX7_accrued_12 rfl rfl ?_
    refine a_iload_n (i := 1) C dX7_accrued_13 rfl rfl ?_
    refine a_callV C dX7_accrued_14 cv_X7_accruedOf tb1181 (m_X7_accruedOf hflags (i := i) (k := k) (by omega) hk6 hk) rfl rfl xM_0 rfl (Nat.le_of_ble_eq_true rfl) ⟨Nat.le_of_ble_eq_true rfl, Nat.le_of_ble_eq_true rfl⟩ ⟨Nat.le_of_ble_eq_true rfl, Nat.le_of_ble_eq_true rfl⟩ (fun _ h => h.elim) xav_no (fun _ _ h => h.elim) (fun r14 hp14 hq14 => ?_)
    obtain ⟨rfl, rfl⟩ := hq14
    exact a_iret C dX7_accrued_17 (Nat.le_of_ble_eq_true rfl) (Nat.le_of_ble_eq_true rfl) (hret _ _ (by first | (rw [bI_t (bNn c5)]; exact mP_rf (bNn c5)) | (rw [bI_f (fun z => z e5)]; exact mP_rt e5 (by rw [nI_clamp (by omega)]))))
  · refine a_iconst (v := 0) C dX7_accrued_8 (by decide) ?_
    refine a_goto (tgt := 17) C dX7_accrued_9 (by decide) ?_
    exact a_iret C dX7_accrued_17 (Nat.le_of_ble_eq_true rfl) (Nat.le_of_ble_eq_true rfl) (hret _ _ (by first | (rw [bI_t (bNn c5)]; exact mP_rf (bNn c5)) | (rw [bI_f (fun z => z e5)]; exact mP_rt e5 (by rw [nI_clamp (by omega)]))))
set_option maxRecDepth 100000 in
set_option maxHeartbeats 4000000 in
theorem m_X7_bucketOf {l : Launch} {N0 : Nat} {D : va_G} {dT : Nat → ClassId} (hflags : l.stackTraces = false) {h : xH} {n : Nat → Int32} {f : Nat → Nat → Int32} {g : Nat → Nat → Int64} {nc ni np nl : Nat} (hI : xI n nc ni np nl) {w : Int32}   : xMet l N0 D dT yX7_bucketOf cX7_bucketOf 2 (some FieldType.int) 3 0 0 [.ref 200, .int w] (xM h n f g) xNo (mP h (oRd (xin w ni) (xbk (n 1 - f 12 w.toNatClampNeg)) n f g)) xNX := by
  refine xMet_of hflags (by decide +kernel) (fun _ _ h => h) (Nat.le_of_ble_eq_true rfl) ?_
  intro E C I hret hthr
  refine a_loc [(0, .ref 200), (1, .int w)] (xsub_cons rfl (xsub_cons rfl (xsub_nil))) ?_
  obtain ⟨hc, hi, hpy, hln, hc6, hi24, hp24, hlm⟩ := id hI
  refine a_aload_n (i := 0) C dX7_bucketOf_0 rfl rfl ?_
  refine a_iload_n (i := 1) C dX7_bucketOf_1 rfl rfl ?_
  refine a_callV C dX7_bucketOf_2 cv_X7_noInvoice tb1193 (m_X7_noInvoice hflags hI) rfl rfl xM_0 rfl (Nat.le_of_ble_eq_true rfl) ⟨Nat.le_of_ble_eq_true rfl, Nat.le_of_ble_eq_true rfl⟩ ⟨Nat.le_of_ble_eq_true rfl, Nat.le_of_ble_eq_true rfl⟩ (fun _ h => h.elim) xav_no (fun _ _ h => h.elim) (fun r2 hp2 hq2 => ?_)
  obtain ⟨rfl, rfl⟩ := hq2
  refine a_if_eq (tgt := 12) C dX7_bucketOf_5 (by decide) (fun c5 => ?_) (fun c5 => ?_)
  · have e5 := bN0 c5
    obtain ⟨i, hiw, rfl⟩ := xin_nI e5 (by omega)
    refine a_aload_n (i := 0) C dX7_bucketOf_12 rfl rfl ?_
    refine a_iload_n (i := 1) C dX7_bucketOf_13 rfl rfl ?_
    refine a_callV C dX7_bucketOf_14 cv_X7_bucket tb1249 (m_X7_bucket hflags (i := i) (by omega)) rfl rfl xM_0 rfl (Nat.le_of_ble_eq_true rfl) ⟨Nat.le_of_ble_eq_true rfl, Nat.le_of_ble_eq_true rfl⟩ ⟨Nat.le_of_ble_eq_true rfl, Nat.le_of_ble_eq_true rfl⟩ (fun _ h => h.elim) xav_no (fun _ _ h => h.elim) (fun r14 hp14 hq14 => ?_)
    obtain ⟨rfl, rfl⟩ := hq14
    exact a_iret C dX7_bucketOf_17 (Nat.le_of_ble_eq_true rfl) (Nat.le_of_ble_eq_true rfl) (hret _ _ (by first | (rw [bI_t (bNn c5)]; exact mP_rf (bNn c5)) | (rw [bI_f (fun z => z e5)]; exact mP_rt e5 (by rw [nI_clamp (by omega)]; rfl))))
  · refine a_iconst (v := 0) C dX7_bucketOf_8 (by decide) ?_
    refine a_goto (tgt := 17) C dX7_bucketOf_9 (by decide) ?_
    exact a_iret C dX7_bucketOf_17 (Nat.le_of_ble_eq_true rfl) (Nat.le_of_ble_eq_true rfl) (hret _ _ (by first | (rw [bI_t (bNn c5)]; exact mP_rf (bNn c5)) | (rw [bI_f (fun z => z e5)]; exact mP_rt e5 (by rw [nI_clamp (by omega)]; rfl))))
set_option maxRecDepth 100000 in
set_option maxHeartbeats 4000000 in
theorem m_X7_today {l : Launch} {N0 : Nat} {D : va_G} {dT : Nat → ClassId} (hflags : l.stackTraces = false) {h : xH} {n : Nat → Int32} {f : Nat → Nat → Int32} {g : Nat → Nat → Int64}   : xMet l N0 D dT yX7_today cX7_today 1 (some FieldType.int) 1 0 0 [.ref 200] (xM h n f g) xNo (mP h (n 1, nup n 0 0, f, g)) xNX := by
  refine xMet_of hflags (by decide +kernel) (fun _ _ h => h) (Nat.le_of_ble_eq_true rfl) ?_
  intro E C I hret hthr
  refine a_loc [(0, .ref 200)] (xsub_cons rfl (xsub_nil)) ?_
  refine a_aload_n (i := 0) C dX7_today_0 rfl rfl ?_
  refine a_aload_n (i := 0) C dX7_today_1 rfl rfl ?_
  refine a_get C dX7_today_2 fl_X7_112 xM_0 rfl ?_
  refine a_callV C dX7_today_5 cv_X7_told tb1056 (m_X7_told hflags) rfl rfl xM_0 rfl (Nat.le_of_ble_eq_true rfl) ⟨Nat.le_of_ble_eq_true rfl, Nat.le_of_ble_eq_true rfl⟩ ⟨Nat.le_of_ble_eq_true rfl, Nat.le_of_ble_eq_true rfl⟩ (fun _ h => h.elim) xav_no (fun _ _ h => h.elim) (fun r5 hp5 hq5 => ?_)
  obtain ⟨rfl, rfl⟩ := hq5
  exact a_iret C dX7_today_8 (Nat.le_of_ble_eq_true rfl) (Nat.le_of_ble_eq_true rfl) (hret _ _ ⟨rfl, rfl⟩)
set_option maxRecDepth 100000 in
set_option maxHeartbeats 4000000 in
theorem m_X7_customers {l : Launch} {N0 : Nat} {D : va_G} {dT : Nat → ClassId} (hflags : l.stackTraces = false) {h : xH} {n : Nat → Int32} {f : Nat → Nat → Int32} {g : Nat → Nat → Int64}   : xMet l N0 D dT yX7_customers cX7_customers 1 (some FieldType.int) 1 0 0 [.ref 200] (xM h n f g) xNo (mP h (n 2, nup n 0 0, f, g)) xNX := by
  refine xMet_of hflags (by decide +kernel) (fun _ _ h => h) (Nat.le_of_ble_eq_true rfl) ?_
  intro E C I hret hthr
  refine a_loc [(0, .ref 200)] (xsub_cons rfl (xsub_nil)) ?_
  refine a_aload_n (i := 0) C dX7_customers_0 rfl rfl ?_
  refine a_aload_n (i := 0) C dX7_customers_1 rfl rfl ?_
  refine a_get C dX7_customers_2 fl_X7_79 xM_0 rfl ?_
  refine a_callV C dX7_customers_5 cv_X7_told tb1056 (m_X7_told hflags) rfl rfl xM_0 rfl (Nat.le_of_ble_eq_true rfl) ⟨Nat.le_of_ble_eq_true rfl, Nat.le_of_ble_eq_true rfl⟩ ⟨Nat.le_of_ble_eq_true rfl, Nat.le_of_ble_eq_true rfl⟩ (fun _ h => h.elim) xav_no (fun _ _ h => h.elim) (fun r5 hp5 hq5 => ?_)
  obtain ⟨rfl, rfl⟩ := hq5
  exact a_iret C dX7_customers_8 (Nat.le_of_ble_eq_true rfl) (Nat.le_of_ble_eq_true rfl) (hret _ _ ⟨rfl, rfl⟩)
set_option maxRecDepth 100000 in
set_option maxHeartbeats 4000000 in
theorem m_X7_invoices {l : Launch} {N0 : Nat} {D : va_G} {dT : Nat → ClassId} (hflags : l.stackTraces = false) {h : xH} {n : Nat → Int32} {f : Nat → Nat → Int32} {g : Nat → Nat → Int64}   : xMet l N0 D dT yX7_invoices cX7_invoices 1 (some FieldType.int) 1 0 0 [.ref 200] (xM h n f g) xNo (mP h (n 3, nup n 0 0, f, g)) xNX := by
  refine xMet_of hflags (by decide +kernel) (fun _ _ h => h) (Nat.le_of_ble_eq_true rfl) ?_
  intro E C I hret hthr
  refine a_loc [(0, .ref 200)] (xsub_cons rfl (xsub_nil)) ?_
  refine a_aload_n (i := 0) C dX7_invoices_0 rfl rfl ?_
  refine a_aload_n (i := 0) C dX7_invoices_1 rfl rfl ?_
  refine a_get C dX7_invoices_2 fl_X7_86 xM_0 rfl ?_
  refine a_callV C dX7_invoices_5 cv_X7_told tb1056 (m_X7_told hflags) rfl rfl xM_0 rfl (Nat.le_of_ble_eq_true rfl) ⟨Nat.le_of_ble_eq_true rfl, Nat.le_of_ble_eq_true rfl⟩ ⟨Nat.le_of_ble_eq_true rfl, Nat.le_of_ble_eq_true rfl⟩ (fun _ h => h.elim) xav_no (fun _ _ h => h.elim) (fun r5 hp5 hq5 => ?_)
  obtain ⟨rfl, rfl⟩ := hq5
  exact a_iret C dX7_invoices_8 (Nat.le_of_ble_eq_true rfl) (Nat.le_of_ble_eq_true rfl) (hret _ _ ⟨rfl, rfl⟩)
set_option maxRecDepth 100000 in
set_option maxHeartbeats 4000000 in
theorem m_X7_payments {l : Launch} {N0 : Nat} {D : va_G} {dT : Nat → ClassId} (hflags : l.stackTraces = false) {h : xH} {n : Nat → Int32} {f : Nat → Nat → Int32} {g : Nat → Nat → Int64}   : xMet l N0 D dT yX7_payments cX7_payments 1 (some FieldType.int) 1 0 0 [.ref 200] (xM h n f g) xNo (mP h (n 4, nup n 0 0, f, g)) xNX := by
  refine xMet_of hflags (by decide +kernel) (fun _ _ h => h) (Nat.le_of_ble_eq_true rfl) ?_
  intro E C I hret hthr
  refine a_loc [(0, .ref 200)] (xsub_cons rfl (xsub_nil)) ?_
  refine a_aload_n (i := 0) C dX7_payments_0 rfl rfl ?_
  refine a_aload_n (i := 0) C dX7_payments_1 rfl rfl ?_
  refine a_get C dX7_payments_2 fl_X7_89 xM_0 rfl ?_
  refine a_callV C dX7_payments_5 cv_X7_told tb1056 (m_X7_told hflags) rfl rfl xM_0 rfl (Nat.le_of_ble_eq_true rfl) ⟨Nat.le_of_ble_eq_true rfl, Nat.le_of_ble_eq_true rfl⟩ ⟨Nat.le_of_ble_eq_true rfl, Nat.le_of_ble_eq_true rfl⟩ (fun _ h => h.elim) xav_no (fun _ _ h => h.elim) (fun r5 hp5 hq5 => ?_)
  obtain ⟨rfl, rfl⟩ := hq5
  exact a_iret C dX7_payments_8 (Nat.le_of_ble_eq_true rfl) (Nat.le_of_ble_eq_true rfl) (hret _ _ ⟨rfl, rfl⟩)
set_option maxRecDepth 100000 in
set_option maxHeartbeats 4000000 in
theorem m_X7_ledgerLines {l : Launch} {N0 : Nat} {D : va_G} {dT : Nat → ClassId} (hflags : l.stackTraces = false) {h : xH} {n : Nat → Int32} {f : Nat → Nat → Int32} {g : Nat → Nat → Int64}   : xMet l N0 D dT yX7_ledgerLines cX7_ledgerLines 1 (some FieldType.int) 1 0 0 [.ref 200] (xM h n f g) xNo (mP h (n 5, nup n 0 0, f, g)) xNX := by
  refine xMet_of hflags (by decide +kernel) (fun _ _ h => h) (Nat.le_of_ble_eq_true rfl) ?_
  intro E C I hret hthr
  refine a_loc [(0, .ref 200)] (xsub_cons rfl (xsub_nil)) ?_
  refine a_aload_n (i := 0) C dX7_ledgerLines_0 rfl rfl ?_
  refine a_aload_n (i := 0) C dX7_ledgerLines_1 rfl rfl ?_
  refine a_get C dX7_ledgerLines_2 fl_X7_134 xM_0 rfl ?_
  refine a_callV C dX7_ledgerLines_5 cv_X7_told tb1056 (m_X7_told hflags) rfl rfl xM_0 rfl (Nat.le_of_ble_eq_true rfl) ⟨Nat.le_of_ble_eq_true rfl, Nat.le_of_ble_eq_true rfl⟩ ⟨Nat.le_of_ble_eq_true rfl, Nat.le_of_ble_eq_true rfl⟩ (fun _ h => h.elim) xav_no (fun _ _ h => h.elim) (fun r5 hp5 hq5 => ?_)
  obtain ⟨rfl, rfl⟩ := hq5
  exact a_iret C dX7_ledgerLines_8 (Nat.le_of_ble_eq_true rfl) (Nat.le_of_ble_eq_true rfl) (hret _ _ ⟨rfl, rfl⟩)
set_option maxRecDepth 100000 in
set_option maxHeartbeats 4000000 in
theorem m_X7_setRule {l : Launch} {N0 : Nat} {D : va_G} {dT : Nat → ClassId} (hflags : l.stackTraces = false) {h : xH} {n : Nat → Int32} {f : Nat → Nat → Int32} {g : Nat → Nat → Int64} {nc ni np nl : Nat} (hI : xI n nc ni np nl) {c rule : Int32}  : xMet l N0 D dT yX7_setRule cX7_setRule 4 (some FieldType.int) 2 0 0 [.ref 200, .int c, .int rule] (xM h n f g) xNo (mP h (o_setRule nc c rule n f g)) xNX := by
  refine xMet_of hflags (by decide +kernel) (fun _ _ h => h) (Nat.le_of_ble_eq_true rfl) ?_
  intro E C I hret hthr
  refine a_loc [(0, .ref 200), (1, .int c), (2, .int rule)] (xsub_cons rfl (xsub_cons rfl (xsub_cons rfl (xsub_nil)))) ?_
  obtain ⟨hc, hi, hpy, hln, hc6, hi24, hp24, hlm⟩ := id hI
  refine a_aload_n (i := 0) C dX7_setRule_0 rfl rfl ?_
  refine a_aload_n (i := 0) C dX7_setRule_1 rfl rfl ?_
  refine a_iload_n (i := 1) C dX7_setRule_2 rfl rfl ?_
  refine a_callV C dX7_setRule_3 cv_X7_isCustomer tb1040 (m_X7_isCustomer hflags hI) rfl rfl xM_0 rfl (Nat.le_of_ble_eq_true rfl) ⟨Nat.le_of_ble_eq_true rfl, Nat.le_of_ble_eq_true rfl⟩ ⟨Nat.le_of_ble_eq_true rfl, Nat.le_of_ble_eq_true rfl⟩ (fun _ h => h.elim) xav_no (fun _ _ h => h.elim) (fun r3 hp3 hq3 => ?_)
  obtain ⟨rfl, rfl⟩ := hq3
  refine a_if_ne (tgt := 13) C dX7_setRule_6 (by decide) (fun c6 => ?_) (fun c6 => ?_)
  · refine a_iload_n (i := 2) C dX7_setRule_13 rfl rfl ?_
    refine a_iconst (v := 0) C dX7_setRule_14 (by decide) ?_
    refine a_iconst (v := 2) C dX7_setRule_15 (by decide) ?_
    refine a_callS C dX7_setRule_16 cs_X7_within tb1029 (m_X7_within hflags) rfl rfl (Nat.le_of_ble_eq_true rfl) ⟨Nat.le_of_ble_eq_true rfl, Nat.le_of_ble_eq_true rfl⟩ ⟨Nat.le_of_ble_eq_true rfl, Nat.le_of_ble_eq_true rfl⟩ (fun _ h => h.elim) xav_no (fun _ _ h => h.elim) (fun r16 hp16 hq16 => ?_)
    obtain ⟨rfl, rfl⟩ := hq16
    refine a_if_ne (tgt := 26) C dX7_setRule_19 (by decide) (fun c19 => ?_) (fun c19 => ?_)
    · have e6 := bn c6
      have e19 := bn c19
      obtain ⟨i, hiw, rfl⟩ := xin_nI e6 (by omega)
      refine a_iconst (v := 0) C dX7_setRule_26 (by decide) ?_
      refine a_callV C dX7_setRule_27 cv_X7_refused tb1032 (m_X7_refused0 hflags) rfl rfl xM_0 rfl (Nat.le_of_ble_eq_true rfl) ⟨Nat.le_of_ble_eq_true rfl, Nat.le_of_ble_eq_true rfl⟩ ⟨Nat.le_of_ble_eq_true rfl, Nat.le_of_ble_eq_true rfl⟩ (fun _ h => h.elim) xav_no (fun _ _ h => h.elim) (fun r27 hp27 hq27 => ?_)
      obtain ⟨rfl, rfl⟩ := hq27
      refine a_if_eq (tgt := 35) C dX7_setRule_30 (by decide) (fun _ => ?_) (fun z => absurd (by decide) z)
      refine a_aload_n (i := 0) C dX7_setRule_35 rfl rfl ?_
      refine a_get C dX7_setRule_36 fl_X7_7 xM_0 rfl ?_
      refine a_iload_n (i := 1) C dX7_setRule_39 rfl rfl ?_
      refine a_ialdI C dX7_setRule_40 xM_6 ⟨by omega, by omega⟩ ?_
      refine a_istore_n (i := 3) C dX7_setRule_41 rfl (by decide) ?_
      refine a_aload_n (i := 0) C dX7_setRule_42 rfl rfl ?_
      refine a_get C dX7_setRule_43 fl_X7_7 xM_0 rfl ?_
      refine a_iload_n (i := 1) C dX7_setRule_46 rfl rfl ?_
      refine a_iload_n (i := 2) C dX7_setRule_47 rfl rfl ?_
      refine a_iastI C dX7_setRule_48 xM_6 ⟨by omega, by omega⟩ ?_
      refine a_hp xMw_6 ?_
      refine a_iload_n (i := 3) C dX7_setRule_49 rfl rfl ?_
      exact a_iret C dX7_setRule_50 (Nat.le_of_ble_eq_true rfl) (Nat.le_of_ble_eq_true rfl) (hret _ _ (by unfold mP o_setRule; first | (rw [if_pos e6]; exact ⟨rfl, rfl⟩) | (rw [if_neg (fun z => z e6), if_pos e19]; exact ⟨rfl, rfl⟩) | (rw [if_neg (fun z => z e6), if_neg (fun z => z e19), nI_clamp (by omega)]; exact ⟨rfl, rfl⟩)))
    · have e6 := bn c6
      have e19 := b0 c19
      refine a_iconst (v := 2) C dX7_setRule_22 (by decide) ?_
      refine a_goto (tgt := 27) C dX7_setRule_23 (by decide) ?_
      refine a_callV C dX7_setRule_27 cv_X7_refused tb1032 (m_X7_refused1 hflags (by decide)) rfl rfl xM_0 rfl (Nat.le_of_ble_eq_true rfl) ⟨Nat.le_of_ble_eq_true rfl, Nat.le_of_ble_eq_true rfl⟩ ⟨Nat.le_of_ble_eq_true rfl, Nat.le_of_ble_eq_true rfl⟩ (fun _ h => h.elim) xav_no (fun _ _ h => h.elim) (fun r27 hp27 hq27 => ?_)
      obtain ⟨rfl, rfl⟩ := hq27
      refine a_if_eq (tgt := 35) C dX7_setRule_30 (by decide) (fun z => absurd z (by decide)) (fun _ => ?_)
      refine a_iconst (v := 0) C dX7_setRule_33 (by decide) ?_
      exact a_iret C dX7_setRule_34 (Nat.le_of_ble_eq_true rfl) (Nat.le_of_ble_eq_true rfl) (hret _ _ (by unfold mP o_setRule; first | (rw [if_pos e6]; exact ⟨rfl, rfl⟩) | (rw [if_neg (fun z => z e6), if_pos e19]; exact ⟨rfl, rfl⟩) | (rw [if_neg (fun z => z e6), if_neg (fun z => z e19), nI_clamp (by omega)]; exact ⟨rfl, rfl⟩)))
  · have e6 := b0 c6
    refine a_iconst (v := 1) C dX7_setRule_9 (by decide) ?_
    refine a_goto (tgt := 27) C dX7_setRule_10 (by decide) ?_
    refine a_callV C dX7_setRule_27 cv_X7_refused tb1032 (m_X7_refused1 hflags (by decide)) rfl rfl xM_0 rfl (Nat.le_of_ble_eq_true rfl) ⟨Nat.le_of_ble_eq_true rfl, Nat.le_of_ble_eq_true rfl⟩ ⟨Nat.le_of_ble_eq_true rfl, Nat.le_of_ble_eq_true rfl⟩ (fun _ h => h.elim) xav_no (fun _ _ h => h.elim) (fun r27 hp27 hq27 => ?_)
    obtain ⟨rfl, rfl⟩ := hq27
    refine a_if_eq (tgt := 35) C dX7_setRule_30 (by decide) (fun z => absurd z (by decide)) (fun _ => ?_)
    refine a_iconst (v := 0) C dX7_setRule_33 (by decide) ?_
    exact a_iret C dX7_setRule_34 (Nat.le_of_ble_eq_true rfl) (Nat.le_of_ble_eq_true rfl) (hret _ _ (by unfold mP o_setRule; first | (rw [if_pos e6]; exact ⟨rfl, rfl⟩) | (rw [if_neg (fun z => z e6), if_pos e19]; exact ⟨rfl, rfl⟩) | (rw [if_neg (fun z => z e6), if_neg (fun z => z e19), nI_clamp (by omega)]; exact ⟨rfl, rfl⟩)))
set_option maxRecDepth 100000 in
set_option maxHeartbeats 4000000 in
theorem m_X7_setRate {l : Launch} {N0 : Nat} {D : va_G} {dT : Nat → ClassId} (hflags : l.stackTraces = false) {h : xH} {n : Nat → Int32} {f : Nat → Nat → Int32} {g : Nat → Nat → Int64} {nc ni np nl : Nat} (hI : xI n nc ni np nl) {c rate : Int32}  : xMet l N0 D dT yX7_setRate cX7_setRate 4 (some FieldType.int) 2 0 0 [.ref 200, .int c, .int rate] (xM h n f g) xNo (mP h (o_setRate nc c rate n f g)) xNX := by
  refine xMet_of hflags (by decide +kernel) (fun _ _ h => h) (Nat.le_of_ble_eq_true rfl) ?_
  intro E C I hret hthr
  refine a_loc [(0, .ref 200), (1, .int c), (2, .int rate)] (xsub_cons rfl (xsub_cons rfl (xsub_cons rfl (xsub_nil)))) ?_
  obtain ⟨hc, hi, hpy, hln, hc6, hi24, hp24, hlm⟩ := id hI
  refine a_aload_n (i := 0) C dX7_setRate_0 rfl rfl ?_
  refine a_aload_n (i := 0) C dX7_setRate_1 rfl rfl ?_
  refine a_iload_n (i := 1) C dX7_setRate_2 rfl rfl ?_
  refine a_callV C dX7_setRate_3 cv_X7_isCustomer tb1040 (m_X7_isCustomer hflags hI) rfl rfl xM_0 rfl (Nat.le_of_ble_eq_true rfl) ⟨Nat.le_of_ble_eq_true rfl, Nat.le_of_ble_eq_true rfl⟩ ⟨Nat.le_of_ble_eq_true rfl, Nat.le_of_ble_eq_true rfl⟩ (fun _ h => h.elim) xav_no (fun _ _ h => h.elim) (fun r3 hp3 hq3 => ?_)
  obtain ⟨rfl, rfl⟩ := hq3
  refine a_if_ne (tgt := 13) C dX7_setRate_6 (by decide) (fun c6 => ?_) (fun c6 => ?_)
  · refine a_iload_n (i := 2) C dX7_setRate_13 rfl rfl ?_
    refine a_iconst (v := 0) C dX7_setRate_14 (by decide) ?_
    refine a_sipush (v := 3000) C dX7_setRate_15 (by decide) ?_
    refine a_callS C dX7_setRate_18 cs_X7_within tb1029 (m_X7_within hflags) rfl rfl (Nat.le_of_ble_eq_true rfl) ⟨Nat.le_of_ble_eq_true rfl, Nat.le_of_ble_eq_true rfl⟩ ⟨Nat.le_of_ble_eq_true rfl, Nat.le_of_ble_eq_true rfl⟩ (fun _ h => h.elim) xav_no (fun _ _ h => h.elim) (fun r18 hp18 hq18 => ?_)
    obtain ⟨rfl, rfl⟩ := hq18
    refine a_if_ne (tgt := 28) C dX7_setRate_21 (by decide) (fun c21 => ?_) (fun c21 => ?_)
    · have e6 := bn c6
      have e19 := bn c21
      obtain ⟨i, hiw, rfl⟩ := xin_nI e6 (by omega)
      refine a_iconst (v := 0) C dX7_setRate_28 (by decide) ?_
      refine a_callV C dX7_setRate_29 cv_X7_refused tb1032 (m_X7_refused0 hflags) rfl rfl xM_0 rfl (Nat.le_of_ble_eq_true rfl) ⟨Nat.le_of_ble_eq_true rfl, Nat.le_of_ble_eq_true rfl⟩ ⟨Nat.le_of_ble_eq_true rfl, Nat.le_of_ble_eq_true rfl⟩ (fun _ h => h.elim) xav_no (fun _ _ h => h.elim) (fun r29 hp29 hq29 => ?_)
      obtain ⟨rfl, rfl⟩ := hq29
      refine a_if_eq (tgt := 37) C dX7_setRate_32 (by decide) (fun _ => ?_) (fun z => absurd (by decide) z)
      refine a_aload_n (i := 0) C dX7_setRate_37 rfl rfl ?_
      refine a_get C dX7_setRate_38 fl_X7_16 xM_0 rfl ?_
      refine a_iload_n (i := 1) C dX7_setRate_41 rfl rfl ?_
      refine a_ialdI C dX7_setRate_42 xM_8 ⟨by omega, by omega⟩ ?_
      refine a_istore_n (i := 3) C dX7_setRate_43 rfl (by decide) ?_
      refine a_aload_n (i := 0) C dX7_setRate_44 rfl rfl ?_
      refine a_get C dX7_setRate_45 fl_X7_16 xM_0 rfl ?_
      refine a_iload_n (i := 1) C dX7_setRate_48 rfl rfl ?_
      refine a_iload_n (i := 2) C dX7_setRate_49 rfl rfl ?_
      refine a_iastI C dX7_setRate_50 xM_8 ⟨by omega, by omega⟩ ?_
      refine a_hp xMw_8 ?_
      refine a_iload_n (i := 3) C dX7_setRate_51 rfl rfl ?_
      exact a_iret C dX7_setRate_52 (Nat.le_of_ble_eq_true rfl) (Nat.le_of_ble_eq_true rfl) (hret _ _ (by unfold mP o_setRate; first | (rw [if_pos e6]; exact ⟨rfl, rfl⟩) | (rw [if_neg (fun z => z e6), if_pos e19]; exact ⟨rfl, rfl⟩) | (rw [if_neg (fun z => z e6), if_neg (fun z => z e19), nI_clamp (by omega)]; exact ⟨rfl, rfl⟩)))
    · have e6 := bn c6
      have e19 := b0 c21
      refine a_iconst (v := 2) C dX7_setRate_24 (by decide) ?_
      refine a_goto (tgt := 29) C dX7_setRate_25 (by decide) ?_
      refine a_callV C dX7_setRate_29 cv_X7_refused tb1032 (m_X7_refused1 hflags (by decide)) rfl rfl xM_0 rfl (Nat.le_of_ble_eq_true rfl) ⟨Nat.le_of_ble_eq_true rfl, Nat.le_of_ble_eq_true rfl⟩ ⟨Nat.le_of_ble_eq_true rfl, Nat.le_of_ble_eq_true rfl⟩ (fun _ h => h.elim) xav_no (fun _ _ h => h.elim) (fun r29 hp29 hq29 => ?_)
      obtain ⟨rfl, rfl⟩ := hq29
      refine a_if_eq (tgt := 37) C dX7_setRate_32 (by decide) (fun z => absurd z (by decide)) (fun _ => ?_)
      refine a_iconst (v := 0) C dX7_setRate_35 (by decide) ?_
      exact a_iret C dX7_setRate_36 (Nat.le_of_ble_eq_true rfl) (Nat.le_of_ble_eq_true rfl) (hret _ _ (by unfold mP o_setRate; first | (rw [if_pos e6]; exact ⟨rfl, rfl⟩) | (rw [if_neg (fun z => z e6), if_pos e19]; exact ⟨rfl, rfl⟩) | (rw [if_neg (fun z => z e6), if_neg (fun z => z e19), nI_clamp (by omega)]; exact ⟨rfl, rfl⟩)))
  · have e6 := b0 c6
    refine a_iconst (v := 1) C dX7_setRate_9 (by decide) ?_
    refine a_goto (tgt := 29) C dX7_setRate_10 (by decide) ?_
    refine a_callV C dX7_setRate_29 cv_X7_refused tb1032 (m_X7_refused1 hflags (by decide)) rfl rfl xM_0 rfl (Nat.le_of_ble_eq_true rfl) ⟨Nat.le_of_ble_eq_true rfl, Nat.le_of_ble_eq_true rfl⟩ ⟨Nat.le_of_ble_eq_true rfl, Nat.le_of_ble_eq_true rfl⟩ (fun _ h => h.elim) xav_no (fun _ _ h => h.elim) (fun r29 hp29 hq29 => ?_)
    obtain ⟨rfl, rfl⟩ := hq29
    refine a_if_eq (tgt := 37) C dX7_setRate_32 (by decide) (fun z => absurd z (by decide)) (fun _ => ?_)
    refine a_iconst (v := 0) C dX7_setRate_35 (by decide) ?_
    exact a_iret C dX7_setRate_36 (Nat.le_of_ble_eq_true rfl) (Nat.le_of_ble_eq_true rfl) (hret _ _ (by unfold mP o_setRate; first | (rw [if_pos e6]; exact ⟨rfl, rfl⟩) | (rw [if_neg (fun z => z e6), if_pos e19]; exact ⟨rfl, rfl⟩) | (rw [if_neg (fun z => z e6), if_neg (fun z => z e19), nI_clamp (by omega)]; exact ⟨rfl, rfl⟩)))
set_option maxRecDepth 100000 in
set_option maxHeartbeats 4000000 in
theorem m_X7_pauseReminders {l : Launch} {N0 : Nat} {D : va_G} {dT : Nat → ClassId} (hflags : l.stackTraces = false) {h : xH} {n : Nat → Int32} {f : Nat → Nat → Int32} {g : Nat → Nat → Int64} {nc ni np nl : Nat} (hI : xI n nc ni np nl) {c days : Int32}  : xMet l N0 D dT yX7_pauseReminders cX7_pauseReminders 3 (some FieldType.int) 2 0 0 [.ref 200, .int c, .int days] (xM h n f g) xNo (mP h (o_pause nc c days n f g)) xNX := by
  refine xMet_of hflags (by decide +kernel) (fun _ _ h => h) (Nat.le_of_ble_eq_true rfl) ?_
  intro E C I hret hthr
  refine a_loc [(0, .ref 200), (1, .int c), (2, .int days)] (xsub_cons rfl (xsub_cons rfl (xsub_cons rfl (xsub_nil)))) ?_
  obtain ⟨hc, hi, hpy, hln, hc6, hi24, hp24, hlm⟩ := id hI
  refine a_aload_n (i := 0) C dX7_pauseReminders_0 rfl rfl ?_
  refine a_aload_n (i := 0) C dX7_pauseReminders_1 rfl rfl ?_
  refine a_iload_n (i := 1) C dX7_pauseReminders_2 rfl rfl ?_
  refine a_callV C dX7_pauseReminders_3 cv_X7_isCustomer tb1040 (m_X7_isCustomer hflags hI) rfl rfl xM_0 rfl (Nat.le_of_ble_eq_true rfl) ⟨Nat.le_of_ble_eq_true rfl, Nat.le_of_ble_eq_true rfl⟩ ⟨Nat.le_of_ble_eq_true rfl, Nat.le_of_ble_eq_true rfl⟩ (fun _ h => h.elim) xav_no (fun _ _ h => h.elim) (fun r3 hp3 hq3 => ?_)
  obtain ⟨rfl, rfl⟩ := hq3
  refine a_if_ne (tgt := 13) C dX7_pauseReminders_6 (by decide) (fun c6 => ?_) (fun c6 => ?_)
  · refine a_iload_n (i := 2) C dX7_pauseReminders_13 rfl rfl ?_
    refine a_iconst (v := 0) C dX7_pauseReminders_14 (by decide) ?_
    refine a_sipush (v := 200) C dX7_pauseReminders_15 (by decide) ?_
    refine a_callS C dX7_pauseReminders_18 cs_X7_within tb1029 (m_X7_within hflags) rfl rfl (Nat.le_of_ble_eq_true rfl) ⟨Nat.le_of_ble_eq_true rfl, Nat.le_of_ble_eq_true rfl⟩ ⟨Nat.le_of_ble_eq_true rfl, Nat.le_of_ble_eq_true rfl⟩ (fun _ h => h.elim) xav_no (fun _ _ h => h.elim) (fun r18 hp18 hq18 => ?_)
    obtain ⟨rfl, rfl⟩ := hq18
    refine a_if_ne (tgt := 28) C dX7_pauseReminders_21 (by decide) (fun c21 => ?_) (fun c21 => ?_)
    · have e6 := bn c6
      have e19 := bn c21
      obtain ⟨i, hiw, rfl⟩ := xin_nI e6 (by omega)
      refine a_iconst (v := 0) C dX7_pauseReminders_28 (by decide) ?_
      refine a_callV C dX7_pauseReminders_29 cv_X7_refused tb1032 (m_X7_refused0 hflags) rfl rfl xM_0 rfl (Nat.le_of_ble_eq_true rfl) ⟨Nat.le_of_ble_eq_true rfl, Nat.le_of_ble_eq_true rfl⟩ ⟨Nat.le_of_ble_eq_true rfl, Nat.le_of_ble_eq_true rfl⟩ (fun _ h => h.elim) xav_no (fun _ _ h => h.elim) (fun r29 hp29 hq29 => ?_)
      obtain ⟨rfl, rfl⟩ := hq29
      refine a_if_eq (tgt := 37) C dX7_pauseReminders_32 (by decide) (fun _ => ?_) (fun z => absurd (by decide) z)
      refine a_aload_n (i := 0) C dX7_pauseReminders_37 rfl rfl ?_
      refine a_get C dX7_pauseReminders_38 fl_X7_19 xM_0 rfl ?_
      refine a_iload_n (i := 1) C dX7_pauseReminders_41 rfl rfl ?_
      refine a_aload_n (i := 0) C dX7_pauseReminders_42 rfl rfl ?_
      refine a_get C dX7_pauseReminders_43 fl_X7_112 xM_0 rfl ?_
      refine a_iload_n (i := 2) C dX7_pauseReminders_46 rfl rfl ?_
      refine a_iadd C dX7_pauseReminders_47 ?_
      refine a_iastI C dX7_pauseReminders_48 xM_9 ⟨by omega, by omega⟩ ?_
      refine a_hp xMw_9 ?_
      refine a_aload_n (i := 0) C dX7_pauseReminders_49 rfl rfl ?_
      refine a_get C dX7_pauseReminders_50 fl_X7_112 xM_0 rfl ?_
      refine a_iload_n (i := 2) C dX7_pauseReminders_53 rfl rfl ?_
      refine a_iadd C dX7_pauseReminders_54 ?_
      exact a_iret C dX7_pauseReminders_55 (Nat.le_of_ble_eq_true rfl) (Nat.le_of_ble_eq_true rfl) (hret _ _ (by unfold mP o_pause; first | (rw [if_pos e6]; exact ⟨rfl, rfl⟩) | (rw [if_neg (fun z => z e6), if_pos e19]; exact ⟨rfl, rfl⟩) | (rw [if_neg (fun z => z e6), if_neg (fun z => z e19), nI_clamp (by omega)]; exact ⟨rfl, rfl⟩)))
    · have e6 := bn c6
      have e19 := b0 c21
      refine a_iconst (v := 2) C dX7_pauseReminders_24 (by decide) ?_
      refine a_goto (tgt := 29) C dX7_pauseReminders_25 (by decide) ?_
      refine a_callV C dX7_pauseReminders_29 cv_X7_refused tb1032 (m_X7_refused1 hflags (by decide)) rfl rfl xM_0 rfl (Nat.le_of_ble_eq_true rfl) ⟨Nat.le_of_ble_eq_true rfl, Nat.le_of_ble_eq_true rfl⟩ ⟨Nat.le_of_ble_eq_true rfl, Nat.le_of_ble_eq_true rfl⟩ (fun _ h => h.elim) xav_no (fun _ _ h => h.elim) (fun r29 hp29 hq29 => ?_)
      obtain ⟨rfl, rfl⟩ := hq29
      refine a_if_eq (tgt := 37) C dX7_pauseReminders_32 (by decide) (fun z => absurd z (by decide)) (fun _ => ?_)
      refine a_iconst (v := 0) C dX7_pauseReminders_35 (by decide) ?_
      exact a_iret C dX7_pauseReminders_36 (Nat.le_of_ble_eq_true rfl) (Nat.le_of_ble_eq_true rfl) (hret _ _ (by unfold mP o_pause; first | (rw [if_pos e6]; exact ⟨rfl, rfl⟩) | (rw [if_neg (fun z => z e6), if_pos e19]; exact ⟨rfl, rfl⟩) | (rw [if_neg (fun z => z e6), if_neg (fun z => z e19), nI_clamp (by omega)]; exact ⟨rfl, rfl⟩)))
  · have e6 := b0 c6
    refine a_iconst (v := 1) C dX7_pauseReminders_9 (by decide) ?_
    refine a_goto (tgt := 29) C dX7_pauseReminders_10 (by decide) ?_
    refine a_callV C dX7_pauseReminders_29 cv_X7_refused tb1032 (m_X7_refused1 hflags (by decide)) rfl rfl xM_0 rfl (Nat.le_of_ble_eq_true rfl) ⟨Nat.le_of_ble_eq_true rfl, Nat.le_of_ble_eq_true rfl⟩ ⟨Nat.le_of_ble_eq_true rfl, Nat.le_of_ble_eq_true rfl⟩ (fun _ h => h.elim) xav_no (fun _ _ h => h.elim) (fun r29 hp29 hq29 => ?_)
    obtain ⟨rfl, rfl⟩ := hq29
    refine a_if_eq (tgt := 37) C dX7_pauseReminders_32 (by decide) (fun z => absurd z (by decide)) (fun _ => ?_)
    refine a_iconst (v := 0) C dX7_pauseReminders_35 (by decide) ?_
    exact a_iret C dX7_pauseReminders_36 (Nat.le_of_ble_eq_true rfl) (Nat.le_of_ble_eq_true rfl) (hret _ _ (by unfold mP o_pause; first | (rw [if_pos e6]; exact ⟨rfl, rfl⟩) | (rw [if_neg (fun z => z e6), if_pos e19]; exact ⟨rfl, rfl⟩) | (rw [if_neg (fun z => z e6), if_neg (fun z => z e19), nI_clamp (by omega)]; exact ⟨rfl, rfl⟩)))
set_option maxRecDepth 100000 in
set_option maxHeartbeats 4000000 in
theorem m_X7_addCustomer {l : Launch} {N0 : Nat} {D : va_G} {dT : Nat → ClassId} (hflags : l.stackTraces = false) {h : xH} {n : Nat → Int32} {f : Nat → Nat → Int32} {g : Nat → Nat → Int64} {nc ni np nl : Nat} (hI : xI n nc ni np nl) {rule conv rate : Int32}  : xMet l N0 D dT yX7_addCustomer cX7_addCustomer 5 (some FieldType.int) 2 0 0 [.ref 200, .int rule, .int conv, .int rate] (xM h n f g) xNo (mP h (o_addCustomer nc rule conv rate n f g)) xNX := by
  refine xMet_of hflags (by decide +kernel) (fun _ _ h => h) (Nat.le_of_ble_eq_true rfl) ?_
  intro E C I hret hthr
  refine a_loc [(0, .ref 200), (1, .int rule), (2, .int conv), (3, .int rate)] (xsub_cons rfl (xsub_cons rfl (xsub_cons rfl (xsub_cons rfl (xsub_nil))))) ?_
  obtain ⟨hc, hi, hpy, hln, hc6, hi24, hp24, hlm⟩ := id hI
  refine a_iload_n (i := 1) C dX7_addCustomer_0 rfl rfl ?_
  refine a_iconst (v := 0) C dX7_addCustomer_1 (by decide) ?_
  refine a_iconst (v := 2) C dX7_addCustomer_2 (by decide) ?_
  refine a_callS C dX7_addCustomer_3 cs_X7_within tb1029 (m_X7_within hflags) rfl rfl (Nat.le_of_ble_eq_true rfl) ⟨Nat.le_of_ble_eq_true rfl, Nat.le_of_ble_eq_true rfl⟩ ⟨Nat.le_of_ble_eq_true rfl, Nat.le_of_ble_eq_true rfl⟩ (fun _ h => h.elim) xav_no (fun _ _ h => h.elim) (fun r3 hp3 hq3 => ?_)
  obtain ⟨rfl, rfl⟩ := hq3
  refine a_if_eq (tgt := 33) C dX7_addCustomer_6 (by decide) (fun c6 => ?_) (fun c6 => ?_)
  · have en : ¬ (xokR rule ∧ xokR conv ∧ xokT rate) := by clear hret hthr I C; grind [bI_0, bI_n0]
    refine a_iconst (v := 0) C dX7_addCustomer_33 (by decide) ?_
    refine a_istore (i := 4) C dX7_addCustomer_34 (by decide) ?_
    refine a_aload_n (i := 0) C dX7_addCustomer_36 rfl rfl ?_
    refine a_iload (i := 4) C dX7_addCustomer_37 rfl ?_
    refine a_if_ne (tgt := 46) C dX7_addCustomer_39 (by decide) (fun z => absurd rfl z) (fun _ => ?_)
    refine a_iconst (v := 1) C dX7_addCustomer_42 (by decide) ?_
    refine a_goto (tgt := 60) C dX7_addCustomer_43 (by decide) ?_
    refine a_callV C dX7_addCustomer_60 cv_X7_refused tb1032 (m_X7_refused1 hflags (by decide)) rfl rfl xM_0 rfl (Nat.le_of_ble_eq_true rfl) ⟨Nat.le_of_ble_eq_true rfl, Nat.le_of_ble_eq_true rfl⟩ ⟨Nat.le_of_ble_eq_true rfl, Nat.le_of_ble_eq_true rfl⟩ (fun _ h => h.elim) xav_no (fun _ _ h => h.elim) (fun r60 hp60 hq60 => ?_)
    obtain ⟨rfl, rfl⟩ := hq60
    refine a_if_eq (tgt := 68) C dX7_addCustomer_63 (by decide) (fun z => absurd z (by decide)) (fun _ => ?_)
    refine a_iconst (v := 0) C dX7_addCustomer_66 (by decide) ?_
    exact a_iret C dX7_addCustomer_67 (Nat.le_of_ble_eq_true rfl) (Nat.le_of_ble_eq_true rfl) (hret _ _ (by unfold mP o_addCustomer; first | (rw [if_pos en]; exact ⟨rfl, rfl⟩) | (rw [if_neg (fun z => z ey), if_pos e6]; exact ⟨rfl, rfl⟩)))
  · refine a_iload_n (i := 2) C dX7_addCustomer_9 rfl rfl ?_
    refine a_iconst (v := 0) C dX7_addCustomer_10 (by decide) ?_
    refine a_iconst (v := 2) C dX7_addCustomer_11 (by decide) ?_
    refine a_callS C dX7_addCustomer_12 cs_X7_within tb1029 (m_X7_within hflags) rfl rfl (Nat.le_of_ble_eq_true rfl) ⟨Nat.le_of_ble_eq_true rfl, Nat.le_of_ble_eq_true rfl⟩ ⟨Nat.le_of_ble_eq_true rfl, Nat.le_of_ble_eq_true rfl⟩ (fun _ h => h.elim) xav_no (fun _ _ h => h.elim) (fun r12 hp12 hq12 => ?_)
    obtain ⟨rfl, rfl⟩ := hq12
    refine a_if_eq (tgt := 33) C dX7_addCustomer_15 (by decide) (fun c15 => ?_) (fun c15 => ?_)
    · have en : ¬ (xokR rule ∧ xokR conv ∧ xokT rate) := by clear hret hthr I C; grind [bI_0, bI_n0]
      refine a_iconst (v := 0) C dX7_addCustomer_33 (by decide) ?_
      refine a_istore (i := 4) C dX7_addCustomer_34 (by decide) ?_
      refine a_aload_n (i := 0) C dX7_addCustomer_36 rfl rfl ?_
      refine a_iload (i := 4) C dX7_addCustomer_37 rfl ?_
      refine a_if_ne (tgt := 46) C dX7_addCustomer_39 (by decide) (fun z => absurd rfl z) (fun _ => ?_)
      refine a_iconst (v := 1) C dX7_addCustomer_42 (by decide) ?_
      refine a_goto (tgt := 60) C dX7_addCustomer_43 (by decide) ?_
      refine a_callV C dX7_addCustomer_60 cv_X7_refused tb1032 (m_X7_refused1 hflags (by decide)) rfl rfl xM_0 rfl (Nat.le_of_ble_eq_true rfl) ⟨Nat.le_of_ble_eq_true rfl, Nat.le_of_ble_eq_true rfl⟩ ⟨Nat.le_of_ble_eq_true rfl, Nat.le_of_ble_eq_true rfl⟩ (fun _ h => h.elim) xav_no (fun _ _ h => h.elim) (fun r60 hp60 hq60 => ?_)
      obtain ⟨rfl, rfl⟩ := hq60
      refine a_if_eq (tgt := 68) C dX7_addCustomer_63 (by decide) (fun z => absurd z (by decide)) (fun _ => ?_)
      refine a_iconst (v := 0) C dX7_addCustomer_66 (by decide) ?_
      exact a_iret C dX7_addCustomer_67 (Nat.le_of_ble_eq_true rfl) (Nat.le_of_ble_eq_true rfl) (hret _ _ (by unfold mP o_addCustomer; first | (rw [if_pos en]; exact ⟨rfl, rfl⟩) | (rw [if_neg (fun z => z ey), if_pos e6]; exact ⟨rfl, rfl⟩)))
    · refine a_iload_n (i := 3) C dX7_addCustomer_18 rfl rfl ?_
      refine a_iconst (v := 0) C dX7_addCustomer_19 (by decide) ?_
      refine a_sipush (v := 3000) C dX7_addCustomer_20 (by decide) ?_
      refine a_callS C dX7_addCustomer_23 cs_X7_within tb1029 (m_X7_within hflags) rfl rfl (Nat.le_of_ble_eq_true rfl) ⟨Nat.le_of_ble_eq_true rfl, Nat.le_of_ble_eq_true rfl⟩ ⟨Nat.le_of_ble_eq_true rfl, Nat.le_of_ble_eq_true rfl⟩ (fun _ h => h.elim) xav_no (fun _ _ h => h.elim) (fun r23 hp23 hq23 => ?_)
      obtain ⟨rfl, rfl⟩ := hq23
      refine a_if_eq (tgt := 33) C dX7_addCustomer_26 (by decide) (fun c26 => ?_) (fun c26 => ?_)
      · have en : ¬ (xokR rule ∧ xokR conv ∧ xokT rate) := by clear hret hthr I C; grind [bI_0, bI_n0]
        refine a_iconst (v := 0) C dX7_addCustomer_33 (by decide) ?_
        refine a_istore (i := 4) C dX7_addCustomer_34 (by decide) ?_
        refine a_aload_n (i := 0) C dX7_addCustomer_36 rfl rfl ?_
        refine a_iload (i := 4) C dX7_addCustomer_37 rfl ?_
        refine a_if_ne (tgt := 46) C dX7_addCustomer_39 (by decide) (fun z => absurd rfl z) (fun _ => ?_)
        refine a_iconst (v := 1) C dX7_addCustomer_42 (by decide) ?_
        refine a_goto (tgt := 60) C dX7_addCustomer_43 (by decide) ?_
        refine a_callV C dX7_addCustomer_60 cv_X7_refused tb1032 (m_X7_refused1 hflags (by decide)) rfl rfl xM_0 rfl (Nat.le_of_ble_eq_true rfl) ⟨Nat.le_of_ble_eq_true rfl, Nat.le_of_ble_eq_true rfl⟩ ⟨Nat.le_of_ble_eq_true rfl, Nat.le_of_ble_eq_true rfl⟩ (fun _ h => h.elim) xav_no (fun _ _ h => h.elim) (fun r60 hp60 hq60 => ?_)
        obtain ⟨rfl, rfl⟩ := hq60
        refine a_if_eq (tgt := 68) C dX7_addCustomer_63 (by decide) (fun z => absurd z (by decide)) (fun _ => ?_)
        refine a_iconst (v := 0) C dX7_addCustomer_66 (by decide) ?_
        exact a_iret C dX7_addCustomer_67 (Nat.le_of_ble_eq_true rfl) (Nat.le_of_ble_eq_true rfl) (hret _ _ (by unfold mP o_addCustomer; first | (rw [if_pos en]; exact ⟨rfl, rfl⟩) | (rw [if_neg (fun z => z ey), if_pos e6]; exact ⟨rfl, rfl⟩)))
      · have ey : xokR rule ∧ xokR conv ∧ xokT rate := by clear hret hthr I C; grind [bI_0, bI_n0]
        refine a_iconst (v := 1) C dX7_addCustomer_29 (by decide) ?_
        refine a_goto (tgt := 34) C dX7_addCustomer_30 (by decide) ?_
        refine a_istore (i := 4) C dX7_addCustomer_34 (by decide) ?_
        refine a_aload_n (i := 0) C dX7_addCustomer_36 rfl rfl ?_
        refine a_iload (i := 4) C dX7_addCustomer_37 rfl ?_
        refine a_if_ne (tgt := 46) C dX7_addCustomer_39 (by decide) (fun _ => ?_) (fun z => absurd z (by decide))
        refine a_aload_n (i := 0) C dX7_addCustomer_46 rfl rfl ?_
        refine a_get C dX7_addCustomer_47 fl_X7_79 xM_0 (by first | exact congrArg (fun z => some (Value.int z)) hc | rfl) ?_
        refine a_bipush (v := 6) C dX7_addCustomer_50 (by decide) ?_
        refine a_icmp_ne (tgt := 59) C dX7_addCustomer_52 (by decide) (fun c52 => ?_) (fun c52 => ?_)
        · have e6 : ¬ nc = 6 := fun z => c52 (by rw [z]; rfl)
          refine a_iconst (v := 0) C dX7_addCustomer_59 (by decide) ?_
          refine a_callV C dX7_addCustomer_60 cv_X7_refused tb1032 (m_X7_refused0 hflags) rfl rfl xM_0 rfl (Nat.le_of_ble_eq_true rfl) ⟨Nat.le_of_ble_eq_true rfl, Nat.le_of_ble_eq_true rfl⟩ ⟨Nat.le_of_ble_eq_true rfl, Nat.le_of_ble_eq_true rfl⟩ (fun _ h => h.elim) xav_no (fun _ _ h => h.elim) (fun r60 hp60 hq60 => ?_)
          obtain ⟨rfl, rfl⟩ := hq60
          refine a_if_eq (tgt := 68) C dX7_addCustomer_63 (by decide) (fun _ => ?_) (fun z => absurd (by decide) z)
          refine a_aload_n (i := 0) C dX7_addCustomer_68 rfl rfl ?_
          refine a_get C dX7_addCustomer_69 fl_X7_7 xM_0 rfl ?_
          refine a_aload_n (i := 0) C dX7_addCustomer_72 rfl rfl ?_
          refine a_get C dX7_addCustomer_73 fl_X7_79 xM_0 (by first | exact congrArg (fun z => some (Value.int z)) hc | rfl) ?_
          refine a_iload_n (i := 1) C dX7_addCustomer_76 rfl rfl ?_
          refine a_iastI C dX7_addCustomer_77 xM_6 ⟨by omega, by omega⟩ ?_
          refine a_hp xMw_6 ?_
          refine a_aload_n (i := 0) C dX7_addCustomer_78 rfl rfl ?_
          refine a_get C dX7_addCustomer_79 fl_X7_13 xM_0 rfl ?_
          refine a_aload_n (i := 0) C dX7_addCustomer_82 rfl rfl ?_
          refine a_get C dX7_addCustomer_83 fl_X7_79 xM_0 (by first | exact congrArg (fun z => some (Value.int z)) hc | rfl) ?_
          refine a_iload_n (i := 2) C dX7_addCustomer_86 rfl rfl ?_
          refine a_iastI C dX7_addCustomer_87 xM_7 ⟨by omega, by omega⟩ ?_
          refine a_hp xMw_7 ?_
          refine a_aload_n (i := 0) C dX7_addCustomer_88 rfl rfl ?_
          refine a_get C dX7_addCustomer_89 fl_X7_16 xM_0 rfl ?_
          refine a_aload_n (i := 0) C dX7_addCustomer_92 rfl rfl ?_
          refine a_get C dX7_addCustomer_93 fl_X7_79 xM_0 (by first | exact congrArg (fun z => some (Value.int z)) hc | rfl) ?_
          refine a_iload_n (i := 3) C dX7_addCustomer_96 rfl rfl ?_
          refine a_iastI C dX7_addCustomer_97 xM_8 ⟨by omega, by omega⟩ ?_
          refine a_hp xMw_8 ?_
          refine a_aload_n (i := 0) C dX7_addCustomer_98 rfl rfl ?_
          refine a_dup C dX7_addCustomer_99 rfl ?_
          refine a_get C dX7_addCustomer_100 fl_X7_79 xM_0 (by first | exact congrArg (fun z => some (Value.int z)) hc | rfl) ?_
          refine a_iconst (v := 1) C dX7_addCustomer_103 (by decide) ?_
          refine a_iadd C dX7_addCustomer_104 ?_
          refine a_top (nI (nc + 1)) (nI_1 nc) ?_
          refine a_put C dX7_addCustomer_105 fl_X7_79 xM_0 (Nat.le_of_ble_eq_true rfl) rfl rfl ?_
          refine a_hp xMp_2 ?_
          refine a_aload_n (i := 0) C dX7_addCustomer_108 rfl rfl ?_
          refine a_get C dX7_addCustomer_109 fl_X7_79 xM_0 (by first | exact congrArg (fun z => some (Value.int z)) hc | rfl) ?_
          refine a_iconst (v := 1) C dX7_addCustomer_112 (by decide) ?_
          refine a_isub C dX7_addCustomer_113 ?_
          refine a_top (nI nc) (by rw [← nI_1]; exact Int32.add_sub_cancel _ _) ?_
          exact a_iret C dX7_addCustomer_114 (Nat.le_of_ble_eq_true rfl) (Nat.le_of_ble_eq_true rfl) (hret _ _ (by unfold mP o_addCustomer; rw [if_neg (fun z => z ey), if_neg e6]; exact ⟨rfl, rfl⟩))
        · have e6 : nc = 6 := (nI_eq (by omega) (by omega)).mp c52
          refine a_iconst (v := 2) C dX7_addCustomer_55 (by decide) ?_
          refine a_goto (tgt := 60) C dX7_addCustomer_56 (by decide) ?_
          refine a_callV C dX7_addCustomer_60 cv_X7_refused tb1032 (m_X7_refused1 hflags (by decide)) rfl rfl xM_0 rfl (Nat.le_of_ble_eq_true rfl) ⟨Nat.le_of_ble_eq_true rfl, Nat.le_of_ble_eq_true rfl⟩ ⟨Nat.le_of_ble_eq_true rfl, Nat.le_of_ble_eq_true rfl⟩ (fun _ h => h.elim) xav_no (fun _ _ h => h.elim) (fun r60 hp60 hq60 => ?_)
          obtain ⟨rfl, rfl⟩ := hq60
          refine a_if_eq (tgt := 68) C dX7_addCustomer_63 (by decide) (fun z => absurd z (by decide)) (fun _ => ?_)
          refine a_iconst (v := 0) C dX7_addCustomer_66 (by decide) ?_
          exact a_iret C dX7_addCustomer_67 (Nat.le_of_ble_eq_true rfl) (Nat.le_of_ble_eq_true rfl) (hret _ _ (by unfold mP o_addCustomer; first | (rw [if_pos en]; exact ⟨rfl, rfl⟩) | (rw [if_neg (fun z => z ey), if_pos e6]; exact ⟨rfl, rfl⟩)))
