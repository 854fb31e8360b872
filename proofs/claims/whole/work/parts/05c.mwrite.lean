def mWn (nl : Nat) (a : Int32) (n : Nat → Int32) : Nat → Int32 := if a = 0 then n else nup n 5 (nI (nl + 1))
def mWf (nl i : Nat) (a : Int32) (f : Nat → Nat → Int32) : Nat → Nat → Int32 := if a = 0 then f else fup (fup f 23 (upd (f 23) nl (nI i))) 24 (upd (f 24) nl a)
def mWl (nl : Nat) (a : Int32) : Nat := if a = 0 then nl else nl + 1
theorem xI_W {n : Nat → Int32} {nc ni np nl : Nat} {a : Int32} (h : xI n nc ni np nl) (hl : nl < 16000) : xI (mWn nl a n) nc ni np (mWl nl a) := by
  unfold mWn mWl
  by_cases ha : a = 0
  · rw [if_pos ha, if_pos ha]; exact h
  · rw [if_neg ha, if_neg ha]
    obtain ⟨h1, h2, h3, h4, h5, h6, h7, h8⟩ := h
    exact ⟨h1, h2, h3, rfl, h5, h6, h7, hl⟩
/-- an invoice is entered -/
def mEf (ni nl : Nat) (c a t b : Int32) (n : Nat → Int32) (f : Nat → Nat → Int32) : Nat → Nat → Int32 := mWf nl ni a (fup (fup (fup (fup (fup f 10 (upd (f 10) ni c)) 11 (upd (f 11) ni a)) 12 (upd (f 12) ni (n 1 + t))) 13 (upd (f 13) ni a)) 16 (upd (f 16) ni b))
def mEn (ni nl : Nat) (a : Int32) (n : Nat → Int32) : Nat → Int32 := nup (mWn nl a n) 3 (nI (ni + 1))
/-- an amount goes from a payment to an invoice -/
def mPf (nl p i : Nat) (a : Int32) (f : Nat → Nat → Int32) : Nat → Nat → Int32 := mWf nl i (-a) (fup (fup (fup (fup (fup (fup f 22 (upd (f 22) (24 * p + i) (f 22 (24 * p + i) + a))) 20 (upd (f 20) p (f 20 p - a))) 13 (upd (f 13) i (f 13 i - a))) 14 (upd (f 14) i (if f 13 i - a < f 14 i then f 13 i - a else f 14 i))) 18 (upd (f 18) i 0)) 17 (upd (f 17) i (if f 13 i - a = 0 then 0 else f 17 i)))
/-- an amount is taken back -/
def mBf (nl p i : Nat) (f : Nat → Nat → Int32) : Nat → Nat → Int32 := mWf nl i (f 22 (24 * p + i)) (fup (fup (fup f 22 (upd (f 22) (24 * p + i) 0)) 20 (upd (f 20) p (f 20 p + f 22 (24 * p + i)))) 13 (upd (f 13) i (f 13 i + f 22 (24 * p + i))))
theorem nIs1 (k : Nat) : nI k + 1 - 1 = nI k := by rw [nI_1]; exact nI_pred k
def o_postInvoice (nc ni nl : Nat) (c a t : Int32) (n : Nat → Int32) (f : Nat → Nat → Int32) (g : Nat → Nat → Int64) : Int32 × mS := if ¬ xin c nc then oNo 1 n f g else if ¬ (xokA a ∧ xokD t) then oNo 2 n f g else if ni = 24 then oNo 3 n f g else (nI ni, mEn ni nl a (nup n 0 0), mEf ni nl c a t 0 n f, g)
def o_release (ni np nl : Nat) (p i : Int32) (n : Nat → Int32) (f : Nat → Nat → Int32) (g : Nat → Nat → Int64) : Int32 × mS := if ¬ (xin p np ∧ xin i ni) then oNo 1 n f g else (f 22 (24 * p.toNatClampNeg + i.toNatClampNeg), mWn nl (f 22 (24 * p.toNatClampNeg + i.toNatClampNeg)) (nup n 0 0), mBf nl p.toNatClampNeg i.toNatClampNeg f, g)
def o_dispute (ni : Nat) (i a : Int32) (n : Nat → Int32) (f : Nat → Nat → Int32) (g : Nat → Nat → Int64) : Int32 × mS := if ¬ xin i ni then oNo 1 n f g else if a < 1 then oNo 2 n f g else if f 13 i.toNatClampNeg - f 14 i.toNatClampNeg < a then oNo 3 n f g else (f 14 i.toNatClampNeg + a, nup n 0 0, fup f 14 (upd (f 14) i.toNatClampNeg (f 14 i.toNatClampNeg + a)), g)
/-- a dispute is settled: what is granted is credited -/
def mSf (nl i : Nat) (a : Int32) (f : Nat → Nat → Int32) : Nat → Nat → Int32 := mWf nl i (-a) (if f 13 i - a = 0 then fup (fup (fup (fup f 13 (upd (f 13) i (f 13 i - a))) 14 (upd (f 14) i 0)) 17 (upd (f 17) i 0)) 18 (upd (f 18) i 0) else fup (fup f 13 (upd (f 13) i (f 13 i - a))) 14 (upd (f 14) i 0))
def o_settle (ni nl : Nat) (i a : Int32) (n : Nat → Int32) (f : Nat → Nat → Int32) (g : Nat → Nat → Int64) : Int32 × mS := if ¬ xin i ni then oNo 1 n f g else if f 14 i.toNatClampNeg = 0 then oNo 2 n f g else if ¬ (0 ≤ a ∧ a ≤ f 14 i.toNatClampNeg) then oNo 3 n f g else (f 13 i.toNatClampNeg - a, mWn nl (-a) (nup n 0 0), mSf nl i.toNatClampNeg a f, g)
def xpat (m : Int32) : Int32 := if m = 0 then 7 else if m = 3 then 21 else 14
/-- days to the next reminder -/
def xdr (n : Nat → Int32) (f : Nat → Nat → Int32) (i : Nat) : Int32 := if ¬ (f 17 i < 4 ∧ 0 < f 13 i ∧ f 14 i = 0) then -1 else (if (if n 1 < f 12 i then f 12 i else n 1) < f 9 (xow f i) then f 9 (xow f i) else (if n 1 < f 12 i then f 12 i else n 1)) - n 1 + xpat (f 17 i) - f 18 i
set_option maxRecDepth 100000 in
set_option maxHeartbeats 4000000 in
theorem m_X7_write {l : Launch} {N0 : Nat} {D : va_G} {dT : Nat → ClassId} (hflags : l.stackTraces = false) {h : xH} {n : Nat → Int32} {f : Nat → Nat → Int32} {g : Nat → Nat → Int64} {nc ni np nl : Nat} (hI : xI n nc ni np nl) {i : Nat} {a : Int32} (hl : nl < 16000)  : xMet l N0 D dT yX7_write cX7_write 3 none 0 0 0 [.ref 200, .int (nI i), .int a] (xM h n f g) xNo (fun r h' => r = none ∧ h' = xM h (mWn nl a n) (mWf nl i a f) g) xNX := by
  refine xMet_of hflags (by decide +kernel) (fun _ _ h => h) (Nat.le_of_ble_eq_true rfl) ?_
  intro E C I hret hthr
  refine a_loc [(0, .ref 200), (1, .int (nI i)), (2, .int a)] (xsub_cons rfl (xsub_cons rfl (xsub_cons rfl (xsub_nil)))) ?_
  obtain ⟨hc, hi, hpy, hln, hc6, hi24, hp24, hlm⟩ := id hI
  refine a_iload_n (i := 2) C dX7_write_0 rfl rfl ?_
  refine a_if_eq (tgt := 34) C dX7_write_1 (by decide) (fun c1 => ?_) (fun c1 => ?_)
  · exact a_vret C dX7_write_34 (Nat.le_of_ble_eq_true rfl) (Nat.le_of_ble_eq_true rfl) (hret _ _ (by unfold mWn mWf; first | (rw [if_pos c1, if_pos c1]; exact ⟨rfl, rfl⟩) | (rw [if_neg c1, if_neg c1]; exact ⟨rfl, rfl⟩)))
  · refine a_aload_n (i := 0) C dX7_write_4 rfl rfl ?_
    refine a_get C dX7_write_5 fl_X7_63 xM_0 rfl ?_
    refine a_aload_n (i := 0) C dX7_write_8 rfl rfl ?_
    refine a_get C dX7_write_9 fl_X7_134 xM_0 (by first | exact congrArg (fun z => some (Value.int z)) hln | rfl) ?_
    refine a_iload_n (i := 1) C dX7_write_12 rfl rfl ?_
    refine a_iastI C dX7_write_13 xM_23 ⟨by omega, by omega⟩ ?_
    refine a_hp xMw_23 ?_
    refine a_aload_n (i := 0) C dX7_write_14 rfl rfl ?_
    refine a_get C dX7_write_15 fl_X7_66 xM_0 rfl ?_
    refine a_aload_n (i := 0) C dX7_write_18 rfl rfl ?_
    refine a_get C dX7_write_19 fl_X7_134 xM_0 (by first | exact congrArg (fun z => some (Value.int z)) hln | rfl) ?_
    refine a_iload_n (i := 2) C dX7_write_22 rfl rfl ?_
    refine a_iastI C dX7_write_23 xM_24 ⟨by omega, by omega⟩ ?_
    refine a_hp xMw_24 ?_
    refine a_aload_n (i := 0) C dX7_write_24 rfl rfl ?_
    refine a_dup C dX7_write_25 rfl ?_
    refine a_get C dX7_write_26 fl_X7_134 xM_0 (by first | exact congrArg (fun z => some (Value.int z)) hln | rfl) ?_
    refine a_iconst (v := 1) C dX7_write_29 (by decide) ?_
    refine a_iadd C dX7_write_30 ?_
    refine a_top (nI (nl + 1)) (nI_1 nl) ?_
    refine a_put C dX7_write_31 fl_X7_134 xM_0 (Nat.le_of_ble_eq_true rfl) rfl rfl ?_
    refine a_hp xMp_5 ?_
    exact a_vret C dX7_write_34 (Nat.le_of_ble_eq_true rfl) (Nat.le_of_ble_eq_true rfl) (hret _ _ (by unfold mWn mWf; first | (rw [if_pos c1, if_pos c1]; exact ⟨rfl, rfl⟩) | (rw [if_neg c1, if_neg c1]; exact ⟨rfl, rfl⟩)))
set_option maxRecDepth 100000 in
set_option maxHeartbeats 4000000 in
theorem m_X7_post {l : Launch} {N0 : Nat} {D : va_G} {dT : Nat → ClassId} (hflags : l.stackTraces = false) {h : xH} {n : Nat → Int32} {f : Nat → Nat → Int32} {g : Nat → Nat → Int64} {nc ni np nl : Nat} (hI : xI n nc ni np nl) {c a t b : Int32} (hl : nl < 16000) (hni : ni < 24) (hbb : narrow .boolean (.int b) = .int b)  : xMet l N0 D dT yX7_post cX7_post 5 (some FieldType.int) 1 0 0 [.ref 200, .int c, .int a, .int t, .int b] (xM h n f g) xNo (fun r h' => r = some (.int (nI ni)) ∧ h' = xM h (mEn ni nl a n) (mEf ni nl c a t b n f) g) xNX := by
  refine xMet_of hflags (by decide +kernel) (fun _ _ h => h) (Nat.le_of_ble_eq_true rfl) ?_
  intro E C I hret hthr
  refine a_loc [(0, .ref 200), (1, .int c), (2, .int a), (3, .int t), (4, .int b)] (xsub_cons rfl (xsub_cons rfl (xsub_cons rfl (xsub_cons rfl (xsub_cons rfl (xsub_nil)))))) ?_
  obtain ⟨hc, hi, hpy, hln, hc6, hi24, hp24, hlm⟩ := id hI
  refine a_aload_n (i := 0) C dX7_post_0 rfl rfl ?_
  refine a_get C dX7_post_1 fl_X7_22 xM_0 rfl ?_
  refine a_aload_n (i := 0) C dX7_post_4 rfl rfl ?_
  refine a_get C dX7_post_5 fl_X7_86 xM_0 (by first | exact congrArg (fun z => some (Value.int z)) hi | rfl) ?_
  refine a_iload_n (i := 1) C dX7_post_8 rfl rfl ?_
  refine a_iastI C dX7_post_9 xM_10 ⟨by omega, by omega⟩ ?_
  refine a_hp xMw_10 ?_
  refine a_aload_n (i := 0) C dX7_post_10 rfl rfl ?_
  refine a_get C dX7_post_11 fl_X7_25 xM_0 rfl ?_
  refine a_aload_n (i := 0) C dX7_post_14 rfl rfl ?_
  refine a_get C dX7_post_15 fl_X7_86 xM_0 (by first | exact congrArg (fun z => some (Value.int z)) hi | rfl) ?_
  refine a_iload_n (i := 2) C dX7_post_18 rfl rfl ?_
  refine a_iastI C dX7_post_19 xM_11 ⟨by omega, by omega⟩ ?_
  refine a_hp xMw_11 ?_
  refine a_aload_n (i := 0) C dX7_post_20 rfl rfl ?_
  refine a_get C dX7_post_21 fl_X7_28 xM_0 rfl ?_
  refine a_aload_n (i := 0) C dX7_post_24 rfl rfl ?_
  refine a_get C dX7_post_25 fl_X7_86 xM_0 (by first | exact congrArg (fun z => some (Value.int z)) hi | rfl) ?_
  refine a_aload_n (i := 0) C dX7_post_28 rfl rfl ?_
  refine a_get C dX7_post_29 fl_X7_112 xM_0 rfl ?_
  refine a_iload_n (i := 3) C dX7_post_32 rfl rfl ?_
  refine a_iadd C dX7_post_33 ?_
  refine a_iastI C dX7_post_34 xM_12 ⟨by omega, by omega⟩ ?_
  refine a_hp xMw_12 ?_
  refine a_aload_n (i := 0) C dX7_post_35 rfl rfl ?_
  refine a_get C dX7_post_36 fl_X7_31 xM_0 rfl ?_
  refine a_aload_n (i := 0) C dX7_post_39 rfl rfl ?_
  refine a_get C dX7_post_40 fl_X7_86 xM_0 (by first | exact congrArg (fun z => some (Value.int z)) hi | rfl) ?_
  refine a_iload_n (i := 2) C dX7_post_43 rfl rfl ?_
  refine a_iastI C dX7_post_44 xM_13 ⟨by omega, by omega⟩ ?_
  refine a_hp xMw_13 ?_
  refine a_aload_n (i := 0) C dX7_post_45 rfl rfl ?_
  refine a_get C dX7_post_46 fl_X7_41 xM_0 rfl ?_
  refine a_aload_n (i := 0) C dX7_post_49 rfl rfl ?_
  refine a_get C dX7_post_50 fl_X7_86 xM_0 (by first | exact congrArg (fun z => some (Value.int z)) hi | rfl) ?_
  refine a_iload (i := 4) C dX7_post_53 rfl ?_
  refine a_zastI C dX7_post_55 xM_16 ⟨by omega, by omega⟩ hbb ?_
  refine a_hp xMw_16 ?_
  refine a_aload_n (i := 0) C dX7_post_56 rfl rfl ?_
  refine a_aload_n (i := 0) C dX7_post_57 rfl rfl ?_
  refine a_get C dX7_post_58 fl_X7_86 xM_0 (congrArg (fun z => some (Value.int z)) hi) ?_
  refine a_iload_n (i := 2) C dX7_post_61 rfl rfl ?_
  refine a_callV C dX7_post_62 cv_X7_write tb1101 (m_X7_write hflags hI (i := ni) hl) rfl rfl xM_0 rfl (Nat.le_of_ble_eq_true rfl) ⟨Nat.le_of_ble_eq_true rfl, Nat.le_of_ble_eq_true rfl⟩ ⟨Nat.le_of_ble_eq_true rfl, Nat.le_of_ble_eq_true rfl⟩ (fun _ h => h.elim) xav_no (fun _ _ h => h.elim) (fun r62 hp62 hq62 => ?_)
  obtain ⟨rfl, rfl⟩ := hq62
  refine a_aload_n (i := 0) C dX7_post_65 rfl rfl ?_
  refine a_dup C dX7_post_66 rfl ?_
  refine a_get C dX7_post_67 fl_X7_86 xM_0 (congrArg (fun z => some (Value.int z)) (xI_W (a := a) hI hl).2.1) ?_
  refine a_iconst (v := 1) C dX7_post_70 (by decide) ?_
  refine a_iadd C dX7_post_71 ?_
  refine a_top (nI (ni + 1)) (nI_1 ni) ?_
  refine a_put C dX7_post_72 fl_X7_86 xM_0 (Nat.le_of_ble_eq_true rfl) rfl rfl ?_
  refine a_hp xMp_3 ?_
  refine a_aload_n (i := 0) C dX7_post_75 rfl rfl ?_
  refine a_get C dX7_post_76 fl_X7_86 xM_0 rfl ?_
  refine a_iconst (v := 1) C dX7_post_79 (by decide) ?_
  refine a_isub C dX7_post_80 ?_
  refine a_top (nI ni) (by rw [← nI_1]; exact nIs1 ni) ?_
  exact a_iret C dX7_post_81 (Nat.le_of_ble_eq_true rfl) (Nat.le_of_ble_eq_true rfl) (hret _ _ ⟨rfl, rfl⟩)
set_option maxRecDepth 100000 in
set_option maxHeartbeats 4000000 in
theorem m_X7_put {l : Launch} {N0 : Nat} {D : va_G} {dT : Nat → ClassId} (hflags : l.stackTraces = false) {h : xH} {n : Nat → Int32} {f : Nat → Nat → Int32} {g : Nat → Nat → Int64} {nc ni np nl : Nat} (hI : xI n nc ni np nl) {p i : Nat} {a : Int32} (hpp : p < 24) (hii : i < 24) (hl : 0 < a → nl < 16000)  : xMet l N0 D dT yX7_put cX7_put 4 none 1 0 0 [.ref 200, .int (nI p), .int (nI i), .int a] (xM h n f g) xNo (fun r h' => r = none ∧ h' = (if 0 < a then xM h (mWn nl (-a) n) (mPf nl p i a f) g else xM h n f g)) xNX := by
  refine xMet_of hflags (by decide +kernel) (fun _ _ h => h) (Nat.le_of_ble_eq_true rfl) ?_
  intro E C I hret hthr
  refine a_loc [(0, .ref 200), (1, .int (nI p)), (2, .int (nI i)), (3, .int a)] (xsub_cons rfl (xsub_cons rfl (xsub_cons rfl (xsub_cons rfl (xsub_nil))))) ?_
  obtain ⟨hc, hi, hpy, hln, hc6, hi24, hp24, hlm⟩ := id hI
  refine a_iload_n (i := 3) C dX7_put_0 rfl rfl ?_
  refine a_if_le (tgt := 114) C dX7_put_1 (by decide) (fun c1 => ?_) (fun c1 => ?_)
  · exact a_vret C dX7_put_114 (Nat.le_of_ble_eq_true rfl) (Nat.le_of_ble_eq_true rfl) (hret _ _ (by first | (rw [if_neg (Int32.not_lt.mpr c1)]; exact ⟨rfl, rfl⟩) | (rw [if_pos c1']; unfold mPf; first | (rw [if_pos (show f 13 i - a < f 14 i from Int32.not_le.mp c56), if_pos (show f 13 i - a = 0 from c93)]; exact ⟨rfl, rfl⟩) | (rw [if_pos (show f 13 i - a < f 14 i from Int32.not_le.mp c56), if_neg (show ¬ f 13 i - a = 0 from c93)]; exact ⟨rfl, rfl⟩) | (rw [if_neg (show ¬ f 13 i - a < f 14 i from Int32.not_lt.mpr c56), if_pos (show f 13 i - a = 0 from c93)]; exact ⟨rfl, rfl⟩) | (rw [if_neg (show ¬ f 13 i - a < f 14 i from Int32.not_lt.mpr c56), if_neg (show ¬ f 13 i - a = 0 from c93)]; exact ⟨rfl, rfl⟩))))
  · have c1' : 0 < a := Int32.not_le.mp c1
    refine a_aload_n (i := 0) C dX7_put_4 rfl rfl ?_
    refine a_get C dX7_put_5 fl_X7_60 xM_0 rfl ?_
    refine a_bipush (v := 24) C dX7_put_8 (by decide) ?_
    refine a_iload_n (i := 1) C dX7_put_10 rfl rfl ?_
    refine a_imul C dX7_put_11 ?_
    refine a_iload_n (i := 2) C dX7_put_12 rfl rfl ?_
    refine a_iadd C dX7_put_13 ?_
    refine a_top (nI (24 * p + i)) (by rw [show (24 : Int32) = nI 24 from rfl, pk_mul, nI_add]) ?_
    refine a_dup2 C dX7_put_14 rfl rfl ?_
    refine a_ialdI C dX7_put_15 xM_22 ⟨by omega, by omega⟩ ?_
    refine a_iload_n (i := 3) C dX7_put_16 rfl rfl ?_
    refine a_iadd C dX7_put_17 ?_
    refine a_iastI C dX7_put_18 xM_22 ⟨by omega, by omega⟩ ?_
    refine a_hp xMw_22 ?_
    refine a_aload_n (i := 0) C dX7_put_19 rfl rfl ?_
    refine a_get C dX7_put_20 fl_X7_54 xM_0 rfl ?_
    refine a_iload_n (i := 1) C dX7_put_23 rfl rfl ?_
    refine a_dup2 C dX7_put_24 rfl rfl ?_
    refine a_ialdI C dX7_put_25 xM_20 ⟨by omega, by omega⟩ ?_
    refine a_iload_n (i := 3) C dX7_put_26 rfl rfl ?_
    refine a_isub C dX7_put_27 ?_
    refine a_iastI C dX7_put_28 xM_20 ⟨by omega, by omega⟩ ?_
    refine a_hp xMw_20 ?_
    refine a_aload_n (i := 0) C dX7_put_29 rfl rfl ?_
    refine a_get C dX7_put_30 fl_X7_31 xM_0 rfl ?_
    refine a_iload_n (i := 2) C dX7_put_33 rfl rfl ?_
    refine a_dup2 C dX7_put_34 rfl rfl ?_
    refine a_ialdI C dX7_put_35 xM_13 ⟨by omega, by omega⟩ ?_
    refine a_iload_n (i := 3) C dX7_put_36 rfl rfl ?_
    refine a_isub C dX7_put_37 ?_
    refine a_iastI C dX7_put_38 xM_13 ⟨by omega, by omega⟩ ?_
    refine a_hp xMw_13 ?_
    refine a_aload_n (i := 0) C dX7_put_39 rfl rfl ?_
    refine a_get C dX7_put_40 fl_X7_34 xM_0 rfl ?_
    refine a_iload_n (i := 2) C dX7_put_43 rfl rfl ?_
    refine a_aload_n (i := 0) C dX7_put_44 rfl rfl ?_
    refine a_get C dX7_put_45 fl_X7_34 xM_0 rfl ?_
    refine a_iload_n (i := 2) C dX7_put_48 rfl rfl ?_
    refine a_ialdI C dX7_put_49 xM_14 ⟨by omega, by omega⟩ ?_
    refine a_aload_n (i := 0) C dX7_put_50 rfl rfl ?_
    refine a_get C dX7_put_51 fl_X7_31 xM_0 rfl ?_
    refine a_iload_n (i := 2) C dX7_put_54 rfl rfl ?_
    refine a_ialdV C (f 13 i - a) dX7_put_55 xM_13 ⟨by omega, by omega⟩ pk_us ?_
    refine a_icmp_le (tgt := 68) C dX7_put_56 (by decide) (fun c56 => ?_) (fun c56 => ?_)
    · refine a_aload_n (i := 0) C dX7_put_68 rfl rfl ?_
      refine a_get C dX7_put_69 fl_X7_34 xM_0 rfl ?_
      refine a_iload_n (i := 2) C dX7_put_72 rfl rfl ?_
      refine a_ialdI C dX7_put_73 xM_14 ⟨by omega, by omega⟩ ?_
      refine a_iastI C dX7_put_74 xM_14 ⟨by omega, by omega⟩ ?_
      refine a_hp xMw_14 ?_
      refine a_aload_n (i := 0) C dX7_put_75 rfl rfl ?_
      refine a_get C dX7_put_76 fl_X7_48 xM_0 rfl ?_
      refine a_iload_n (i := 2) C dX7_put_79 rfl rfl ?_
      refine a_iconst (v := 0) C dX7_put_80 (by decide) ?_
      refine a_iastI C dX7_put_81 xM_18 ⟨by omega, by omega⟩ ?_
      refine a_hp xMw_18 ?_
      refine a_aload_n (i := 0) C dX7_put_82 rfl rfl ?_
      refine a_get C dX7_put_83 fl_X7_45 xM_0 rfl ?_
      refine a_iload_n (i := 2) C dX7_put_86 rfl rfl ?_
      refine a_aload_n (i := 0) C dX7_put_87 rfl rfl ?_
      refine a_get C dX7_put_88 fl_X7_31 xM_0 rfl ?_
      refine a_iload_n (i := 2) C dX7_put_91 rfl rfl ?_
      refine a_ialdV C (f 13 i - a) dX7_put_92 xM_13 ⟨by omega, by omega⟩ pk_us ?_
      refine a_if_ne (tgt := 100) C dX7_put_93 (by decide) (fun c93 => ?_) (fun c93 => ?_)
      · refine a_aload_n (i := 0) C dX7_put_100 rfl rfl ?_
        refine a_get C dX7_put_101 fl_X7_45 xM_0 rfl ?_
        refine a_iload_n (i := 2) C dX7_put_104 rfl rfl ?_
        refine a_ialdI C dX7_put_105 xM_17 ⟨by omega, by omega⟩ ?_
        refine a_iastI C dX7_put_106 xM_17 ⟨by omega, by omega⟩ ?_
        refine a_hp xMw_17 ?_
        refine a_aload_n (i := 0) C dX7_put_107 rfl rfl ?_
        refine a_iload_n (i := 2) C dX7_put_108 rfl rfl ?_
        refine a_iload_n (i := 3) C dX7_put_109 rfl rfl ?_
        refine a_ineg C dX7_put_110 ?_
        refine a_callV C dX7_put_111 cv_X7_write tb1101 (m_X7_write hflags hI (i := i) (hl c1')) rfl rfl xM_0 rfl (Nat.le_of_ble_eq_true rfl) ⟨Nat.le_of_ble_eq_true rfl, Nat.le_of_ble_eq_true rfl⟩ ⟨Nat.le_of_ble_eq_true rfl, Nat.le_of_ble_eq_true rfl⟩ (fun _ h => h.elim) xav_no (fun _ _ h => h.elim) (fun r111 hp111 hq111 => ?_)
        obtain ⟨rfl, rfl⟩ := hq111
        exact a_vret C dX7_put_114 (Nat.le_of_ble_eq_true rfl) (Nat.le_of_ble_eq_true rfl) (hret _ _ (by first | (rw [if_neg (Int32.not_lt.mpr c1)]; exact ⟨rfl, rfl⟩) | (rw [if_pos c1']; unfold mPf; first | (rw [if_pos (show f 13 i - a < f 14 i from Int32.not_le.mp c56), if_pos (show f 13 i - a = 0 from c93)]; exact ⟨rfl, rfl⟩) | (rw [if_pos (show f 13 i - a < f 14 i from Int32.not_le.mp c56), if_neg (show ¬ f 13 i - a = 0 from c93)]; exact ⟨rfl, rfl⟩) | (rw [if_neg (show ¬ f 13 i - a < f 14 i from Int32.not_lt.mpr c56), if_pos (show f 13 i - a = 0 from c93)]; exact ⟨rfl, rfl⟩) | (rw [if_neg (show ¬ f 13 i - a < f 14 i from Int32.not_lt.mpr c56), if_neg (show ¬ f 13 i - a = 0 from c93)]; exact ⟨rfl, rfl⟩))))
      · refine a_iconst (v := 0) C dX7_put_96 (by decide) ?_
        refine a_goto (tgt := 106) C dX7_put_97 (by decide) ?_
        refine a_iastI C dX7_put_106 xM_17 ⟨by omega, by omega⟩ ?_
        refine a_hp xMw_17 ?_
        refine a_aload_n (i := 0) C dX7_put_107 rfl rfl ?_
        refine a_iload_n (i := 2) C dX7_put_108 rfl rfl ?_
        refine a_iload_n (i := 3) C dX7_put_109 rfl rfl ?_
        refine a_ineg C dX7_put_110 ?_
        refine a_callV C dX7_put_111 cv_X7_write tb1101 (m_X7_write hflags hI (i := i) (hl c1')) rfl rfl xM_0 rfl (Nat.le_of_ble_eq_true rfl) ⟨Nat.le_of_ble_eq_true rfl, Nat.le_of_ble_eq_true rfl⟩ ⟨Nat.le_of_ble_eq_true rfl, Nat.le_of_ble_eq_true rfl⟩ (fun _ h => h.elim) xav_no (fun _ _ h => h.elim) (fun r111 hp111 hq111 => ?_)
        obtain ⟨rfl, rfl⟩ := hq111
        exact a_vret C dX7_put_114 (Nat.le_of_ble_eq_true rfl) (Nat.le_of_ble_eq_true rfl) (hret _ _ (by first | (rw [if_neg (Int32.not_lt.mpr c1)]; exact ⟨rfl, rfl⟩) | (rw [if_pos c1']; unfold mPf; first | (rw [if_pos (show f 13 i - a < f 14 i from Int32.not_le.mp c56), if_pos (show f 13 i - a = 0 from c93)]; exact ⟨rfl, rfl⟩) | (rw [if_pos (show f 13 i - a < f 14 i from Int32.not_le.mp c56), if_neg (show ¬ f 13 i - a = 0 from c93)]; exact ⟨rfl, rfl⟩) | (rw [if_neg (show ¬ f 13 i - a < f 14 i from Int32.not_lt.mpr c56), if_pos (show f 13 i - a = 0 from c93)]; exact ⟨rfl, rfl⟩) | (rw [if_neg (show ¬ f 13 i - a < f 14 i from Int32.not_lt.mpr c56), if_neg (show ¬ f 13 i - a = 0 from c93)]; exact ⟨rfl, rfl⟩))))
    · refine a_aload_n (i := 0) C dX7_put_59 rfl rfl ?_
      refine a_get C dX7_put_60 fl_X7_31 xM_0 rfl ?_
      refine a_iload_n (i := 2) C dX7_put_63 rfl rfl ?_
      refine a_ialdV C (f 13 i - a) dX7_put_64 xM_13 ⟨by omega, by omega⟩ pk_us ?_
      refine a_goto (tgt := 74) C dX7_put_65 (by decide) ?_
      refine a_iastI C dX7_put_74 xM_14 ⟨by omega, by omega⟩ ?_
      refine a_hp xMw_14 ?_
      refine a_aload_n (i := 0) C dX7_put_75 rfl rfl ?_
      refine a_get C dX7_put_76 fl_X7_48 xM_0 rfl ?_
      refine a_iload_n (i := 2) C dX7_put_79 rfl rfl ?_
      refine a_iconst (v := 0) C dX7_put_80 (by decide) ?_
      refine a_iastI C dX7_put_81 xM_18 ⟨by omega, by omega⟩ ?_
      refine a_hp xMw_18 ?_
      refine a_aload_n (i := 0) C dX7_put_82 rfl rfl ?_
      refine a_get C dX7_put_83 fl_X7_45 xM_0 rfl ?_
      refine a_iload_n (i := 2) C dX7_put_86 rfl rfl ?_
      refine a_aload_n (i := 0) C dX7_put_87 rfl rfl ?_
      refine a_get C dX7_put_88 fl_X7_31 xM_0 rfl ?_
      refine a_iload_n (i := 2) C dX7_put_91 rfl rfl ?_
      refine a_ialdV C (f 13 i - a) dX7_put_92 xM_13 ⟨by omega, by omega⟩ pk_us ?_
      refine a_if_ne (tgt := 100) C dX7_put_93 (by decide) (fun c93 => ?_) (fun c93 => ?_)
      · refine a_aload_n (i := 0) C dX7_put_100 rfl rfl ?_
        refine a_get C dX7_put_101 fl_X7_45 xM_0 rfl ?_
        refine a_iload_n (i := 2) C dX7_put_104 rfl rfl ?_
        refine a_ialdI C dX7_put_105 xM_17 ⟨by omega, by omega⟩ ?_
        refine a_iastI C dX7_put_106 xM_17 ⟨by omega, by omega⟩ ?_
        refine a_hp xMw_17 ?_
        refine a_aload_n (i := 0) C dX7_put_107 rfl rfl ?_
        refine a_iload_n (i := 2) C dX7_put_108 rfl rfl ?_
        refine a_iload_n (i := 3) C dX7_put_109 rfl rfl ?_
        refine a_ineg C dX7_put_110 ?_
        refine a_callV C dX7_put_111 cv_X7_write tb1101 (m_X7_write hflags hI (i := i) (hl c1')) rfl rfl xM_0 rfl (Nat.le_of_ble_eq_true rfl) ⟨Nat.le_of_ble_eq_true rfl, Nat.le_of_ble_eq_true rfl⟩ ⟨Nat.le_of_ble_eq_true rfl, Nat.le_of_ble_eq_true rfl⟩ (fun _ h => h.elim) xav_no (fun _ _ h => h.elim) (fun r111 hp111 hq111 => ?_)
        obtain ⟨rfl, rfl⟩ := hq111
        exact a_vret C dX7_put_114 (Nat.le_of_ble_eq_true rfl) (Nat.le_of_ble_eq_true rfl) (hret _ _ (by first | (rw [if_neg (Int32.not_lt.mpr c1)]; exact ⟨rfl, rfl⟩) | (rw [if_pos c1']; unfold mPf; first | (rw [if_pos (show f 13 i - a < f 14 i from Int32.not_le.mp c56), if_pos (show f 13 i - a = 0 from c93)]; exact ⟨rfl, rfl⟩) | (rw [if_pos (show f 13 i - a < f 14 i from Int32.not_le.mp c56), if_neg (show ¬ f 13 i - a = 0 from c93)]; exact ⟨rfl, rfl⟩) | (rw [if_neg (show ¬ f 13 i - a < f 14 i from Int32.not_lt.mpr c56), if_pos (show f 13 i - a = 0 from c93)]; exact ⟨rfl, rfl⟩) | (rw [if_neg (show ¬ f 13 i - a < f 14 i from Int32.not_lt.mpr c56), if_neg (show ¬ f 13 i - a = 0 from c93)]; exact ⟨rfl, rfl⟩))))
      · refine a_iconst (v := 0) C dX7_put_96 (by decide) ?_
        refine a_goto (tgt := 106) C dX7_put_97 (by decide) ?_
        refine a_iastI C dX7_put_106 xM_17 ⟨by omega, by omega⟩ ?_
        refine a_hp xMw_17 ?_
        refine a_aload_n (i := 0) C dX7_put_107 rfl rfl ?_
        refine a_iload_n (i := 2) C dX7_put_108 rfl rfl ?_
        refine a_iload_n (i := 3) C dX7_put_109 rfl rfl ?_
        refine a_ineg C dX7_put_110 ?_
        refine a_callV C dX7_put_111 cv_X7_write tb1101 (m_X7_write hflags hI (i := i) (hl c1')) rfl rfl xM_0 rfl (Nat.le_of_ble_eq_true rfl) ⟨Nat.le_of_ble_eq_true rfl, Nat.le_of_ble_eq_true rfl⟩ ⟨Nat.le_of_ble_eq_true rfl, Nat.le_of_ble_eq_true rfl⟩ (fun _ h => h.elim) xav_no (fun _ _ h => h.elim) (fun r111 hp111 hq111 => ?_)
        obtain ⟨rfl, rfl⟩ := hq111
        exact a_vret C dX7_put_114 (Nat.le_of_ble_eq_true rfl) (Nat.le_of_ble_eq_true rfl) (hret _ _ (by first | (rw [if_neg (Int32.not_lt.mpr c1)]; exact ⟨rfl, rfl⟩) | (rw [if_pos c1']; unfold mPf; first | (rw [if_pos (show f 13 i - a < f 14 i from Int32.not_le.mp c56), if_pos (show f 13 i - a = 0 from c93)]; exact ⟨rfl, rfl⟩) | (rw [if_pos (show f 13 i - a < f 14 i from Int32.not_le.mp c56), if_neg (show ¬ f 13 i - a = 0 from c93)]; exact ⟨rfl, rfl⟩) | (rw [if_neg (show ¬ f 13 i - a < f 14 i from Int32.not_lt.mpr c56), if_pos (show f 13 i - a = 0 from c93)]; exact ⟨rfl, rfl⟩) | (rw [if_neg (show ¬ f 13 i - a < f 14 i from Int32.not_lt.mpr c56), if_neg (show ¬ f 13 i - a = 0 from c93)]; exact ⟨rfl, rfl⟩))))
set_option maxRecDepth 100000 in
set_option maxHeartbeats 4000000 in
theorem m_X7_takeBack {l : Launch} {N0 : Nat} {D : va_G} {dT : Nat → ClassId} (hflags : l.stackTraces = false) {h : xH} {n : Nat → Int32} {f : Nat → Nat → Int32} {g : Nat → Nat → Int64} {nc ni np nl : Nat} (hI : xI n nc ni np nl) {p i : Nat} (hpp : p < 24) (hii : i < 24) (hl : nl < 16000)  : xMet l N0 D dT yX7_takeBack cX7_takeBack 4 (some FieldType.int) 1 0 0 [.ref 200, .int (nI p), .int (nI i)] (xM h n f g) xNo (fun r h' => r = some (.int (f 22 (24 * p + i))) ∧ h' = xM h (mWn nl (f 22 (24 * p + i)) n) (mBf nl p i f) g) xNX := by
  refine xMet_of hflags (by decide +kernel) (fun _ _ h => h) (Nat.le_of_ble_eq_true rfl) ?_
  intro E C I hret hthr
  refine a_loc [(0, .ref 200), (1, .int (nI p)), (2, .int (nI i))] (xsub_cons rfl (xsub_cons rfl (xsub_cons rfl (xsub_nil)))) ?_
  obtain ⟨hc, hi, hpy, hln, hc6, hi24, hp24, hlm⟩ := id hI
  refine a_aload_n (i := 0) C dX7_takeBack_0 rfl rfl ?_
  refine a_get C dX7_takeBack_1 fl_X7_60 xM_0 rfl ?_
  refine a_bipush (v := 24) C dX7_takeBack_4 (by decide) ?_
  refine a_iload_n (i := 1) C dX7_takeBack_6 rfl rfl ?_
  refine a_imul C dX7_takeBack_7 ?_
  refine a_iload_n (i := 2) C dX7_takeBack_8 rfl rfl ?_
  refine a_iadd C dX7_takeBack_9 ?_
  refine a_top (nI (24 * p + i)) (by rw [show (24 : Int32) = nI 24 from rfl, pk_mul, nI_add]) ?_
  refine a_ialdI C dX7_takeBack_10 xM_22 ⟨by omega, by omega⟩ ?_
  refine a_istore_n (i := 3) C dX7_takeBack_11 rfl (by decide) ?_
  refine a_aload_n (i := 0) C dX7_takeBack_12 rfl rfl ?_
  refine a_get C dX7_takeBack_13 fl_X7_60 xM_0 rfl ?_
  refine a_bipush (v := 24) C dX7_takeBack_16 (by decide) ?_
  refine a_iload_n (i := 1) C dX7_takeBack_18 rfl rfl ?_
  refine a_imul C dX7_takeBack_19 ?_
  refine a_iload_n (i := 2) C dX7_takeBack_20 rfl rfl ?_
  refine a_iadd C dX7_takeBack_21 ?_
  refine a_top (nI (24 * p + i)) (by rw [show (24 : Int32) = nI 24 from rfl, pk_mul, nI_add]) ?_
  refine a_iconst (v := 0) C dX7_takeBack_22 (by decide) ?_
  refine a_iastI C dX7_takeBack_23 xM_22 ⟨by omega, by omega⟩ ?_
  refine a_hp xMw_22 ?_
  refine a_aload_n (i := 0) C dX7_takeBack_24 rfl rfl ?_
  refine a_get C dX7_takeBack_25 fl_X7_54 xM_0 rfl ?_
  refine a_iload_n (i := 1) C dX7_takeBack_28 rfl rfl ?_
  refine a_dup2 C dX7_takeBack_29 rfl rfl ?_
  refine a_ialdI C dX7_takeBack_30 xM_20 ⟨by omega, by omega⟩ ?_
  refine a_iload_n (i := 3) C dX7_takeBack_31 rfl rfl ?_
  refine a_iadd C dX7_takeBack_32 ?_
  refine a_iastI C dX7_takeBack_33 xM_20 ⟨by omega, by omega⟩ ?_
  refine a_hp xMw_20 ?_
  refine a_aload_n (i := 0) C dX7_takeBack_34 rfl rfl ?_
  refine a_get C dX7_takeBack_35 fl_X7_31 xM_0 rfl ?_
  refine a_iload_n (i := 2) C dX7_takeBack_38 rfl rfl ?_
  refine a_dup2 C dX7_takeBack_39 rfl rfl ?_
  refine a_ialdI C dX7_takeBack_40 xM_13 ⟨by omega, by omega⟩ ?_
  refine a_iload_n (i := 3) C dX7_takeBack_41 rfl rfl ?_
  refine a_iadd C dX7_takeBack_42 ?_
  refine a_iastI C dX7_takeBack_43 xM_13 ⟨by omega, by omega⟩ ?_
  refine a_hp xMw_13 ?_
  refine a_aload_n (i := 0) C dX7_takeBack_44 rfl rfl ?_
  refine a_iload_n (i := 2) C dX7_takeBack_45 rfl rfl ?_
  refine a_iload_n (i := 3) C dX7_takeBack_46 rfl rfl ?_
  refine a_callV C dX7_takeBack_47 cv_X7_write tb1101 (m_X7_write hflags hI (i := i) hl) rfl rfl xM_0 rfl (Nat.le_of_ble_eq_true rfl) ⟨Nat.le_of_ble_eq_true rfl, Nat.le_of_ble_eq_true rfl⟩ ⟨Nat.le_of_ble_eq_true rfl, Nat.le_of_ble_eq_true rfl⟩ (fun _ h => h.elim) xav_no (fun _ _ h => h.elim) (fun r47 hp47 hq47 => ?_)
  obtain ⟨rfl, rfl⟩ := hq47
  refine a_iload_n (i := 3) C dX7_takeBack_50 rfl rfl ?_
  exact a_iret C dX7_takeBack_51 (Nat.le_of_ble_eq_true rfl) (Nat.le_of_ble_eq_true rfl) (hret _ _ ⟨rfl, rfl⟩)
set_option maxRecDepth 100000 in
set_option maxHeartbeats 4000000 in
theorem m_X7_postInvoice {l : Launch} {N0 : Nat} {D : va_G} {dT : Nat → ClassId} (hflags : l.stackTraces = false) {h : xH} {n : Nat → Int32} {f : Nat → Nat → Int32} {g : Nat → Nat → Int64} {nc ni np nl : Nat} (hI : xI n nc ni np nl) {c a t : Int32} (hl : nl < 16000)  : xMet l N0 D dT yX7_postInvoice cX7_postInvoice 5 (some FieldType.int) 3 0 0 [.ref 200, .int c, .int a, .int t] (xM h n f g) xNo (mP h (o_postInvoice nc ni nl c a t n f g)) xNX := by
  refine xMet_of hflags (by decide +kernel) (fun _ _ h => h) (Nat.le_of_ble_eq_true rfl) ?_
  intro E C I hret hthr
  refine a_loc [(0, .ref 200), (1, .int c), (2, .int a), (3, .int t)] (xsub_cons rfl (xsub_cons rfl (xsub_cons rfl (xsub_cons rfl (xsub_nil))))) ?_
  obtain ⟨hc, hi, hpy, hln, hc6, hi24, hp24, hlm⟩ := id hI
  refine a_iload_n (i := 2) C dX7_postInvoice_0 rfl rfl ?_
  refine a_iconst (v := 1) C dX7_postInvoice_1 (by decide) ?_
  refine a_ldc C dX7_postInvoice_2 tb1096 ?_
  refine a_callS C dX7_postInvoice_4 cs_X7_within tb1029 (m_X7_within hflags) rfl rfl (Nat.le_of_ble_eq_true rfl) ⟨Nat.le_of_ble_eq_true rfl, Nat.le_of_ble_eq_true rfl⟩ ⟨Nat.le_of_ble_eq_true rfl, Nat.le_of_ble_eq_true rfl⟩ (fun _ h => h.elim) xav_no (fun _ _ h => h.elim) (fun r4 hp4 hq4 => ?_)
  obtain ⟨rfl, rfl⟩ := hq4
  refine a_if_eq (tgt := 24) C dX7_postInvoice_7 (by decide) (fun c7 => ?_) (fun c7 => ?_)
  · have en : ¬ (xokA a ∧ xokD t) := by clear hret hthr I C; grind [bI_0, bI_n0]
    refine a_iconst (v := 0) C dX7_postInvoice_24 (by decide) ?_
    refine a_istore (i := 4) C dX7_postInvoice_25 (by decide) ?_
    refine a_aload_n (i := 0) C dX7_postInvoice_27 rfl rfl ?_
    refine a_aload_n (i := 0) C dX7_postInvoice_28 rfl rfl ?_
    refine a_iload_n (i := 1) C dX7_postInvoice_29 rfl rfl ?_
    refine a_callV C dX7_postInvoice_30 cv_X7_isCustomer tb1040 (m_X7_isCustomer hflags hI) rfl rfl xM_0 rfl (Nat.le_of_ble_eq_true rfl) ⟨Nat.le_of_ble_eq_true rfl, Nat.le_of_ble_eq_true rfl⟩ ⟨Nat.le_of_ble_eq_true rfl, Nat.le_of_ble_eq_true rfl⟩ (fun _ h => h.elim) xav_no (fun _ _ h => h.elim) (fun r30 hp30 hq30 => ?_)
    obtain ⟨rfl, rfl⟩ := hq30
    refine a_if_ne (tgt := 40) C dX7_postInvoice_33 (by decide) (fun c33 => ?_) (fun c33 => ?_)
    · have e6 := bn c33
      refine a_iload (i := 4) C dX7_postInvoice_40 rfl ?_
      refine a_if_ne (tgt := 49) C dX7_postInvoice_42 (by decide) (fun z => absurd rfl z) (fun _ => ?_)
      refine a_iconst (v := 2) C dX7_postInvoice_45 (by decide) ?_
      refine a_goto (tgt := 63) C dX7_postInvoice_46 (by decide) ?_
      refine a_callV C dX7_postInvoice_63 cv_X7_refused tb1032 (m_X7_refused1 hflags (by decide)) rfl rfl xM_0 rfl (Nat.le_of_ble_eq_true rfl) ⟨Nat.le_of_ble_eq_true rfl, Nat.le_of_ble_eq_true rfl⟩ ⟨Nat.le_of_ble_eq_true rfl, Nat.le_of_ble_eq_true rfl⟩ (fun _ h => h.elim) xav_no (fun _ _ h => h.elim) (fun r63 hp63 hq63 => ?_)
      obtain ⟨rfl, rfl⟩ := hq63
      refine a_if_eq (tgt := 71) C dX7_postInvoice_66 (by decide) (fun z => absurd z (by decide)) (fun _ => ?_)
      refine a_iconst (v := 0) C dX7_postInvoice_69 (by decide) ?_
      exact a_iret C dX7_postInvoice_70 (Nat.le_of_ble_eq_true rfl) (Nat.le_of_ble_eq_true rfl) (hret _ _ (by unfold mP o_postInvoice; first | (rw [if_pos e6]; exact ⟨rfl, rfl⟩) | (rw [if_neg (fun z => z e6), if_pos en]; exact ⟨rfl, rfl⟩) | (rw [if_neg (fun z => z e6), if_neg (fun z => z ey), if_pos e7]; exact ⟨rfl, rfl⟩) | (rw [if_neg (fun z => z e6), if_neg (fun z => z ey), if_neg e7]; exact ⟨rfl, rfl⟩)))
    · have e6 := b0 c33
      refine a_iconst (v := 1) C dX7_postInvoice_36 (by decide) ?_
      refine a_goto (tgt := 63) C dX7_postInvoice_37 (by decide) ?_
      refine a_callV C dX7_postInvoice_63 cv_X7_refused tb1032 (m_X7_refused1 hflags (by decide)) rfl rfl xM_0 rfl (Nat.le_of_ble_eq_true rfl) ⟨Nat.le_of_ble_eq_true rfl, Nat.le_of_ble_eq_true rfl⟩ ⟨Nat.le_of_ble_eq_true rfl, Nat.le_of_ble_eq_true rfl⟩ (fun _ h => h.elim) xav_no (fun _ _ h => h.elim) (fun r63 hp63 hq63 => ?_)
      obtain ⟨rfl, rfl⟩ := hq63
      refine a_if_eq (tgt := 71) C dX7_postInvoice_66 (by decide) (fun z => absurd z (by decide)) (fun _ => ?_)
      refine a_iconst (v := 0) C dX7_postInvoice_69 (by decide) ?_
      exact a_iret C dX7_postInvoice_70 (Nat.le_of_ble_eq_true rfl) (Nat.le_of_ble_eq_true rfl) (hret _ _ (by unfold mP o_postInvoice; first | (rw [if_pos e6]; exact ⟨rfl, rfl⟩) | (rw [if_neg (fun z => z e6), if_pos en]; exact ⟨rfl, rfl⟩) | (rw [if_neg (fun z => z e6), if_neg (fun z => z ey), if_pos e7]; exact ⟨rfl, rfl⟩) | (rw [if_neg (fun z => z e6), if_neg (fun z => z ey), if_neg e7]; exact ⟨rfl, rfl⟩)))
  · refine a_iload_n (i := 3) C dX7_postInvoice_10 rfl rfl ?_
    refine a_iconst (v := 0) C dX7_postInvoice_11 (by decide) ?_
    refine a_bipush (v := 120) C dX7_postInvoice_12 (by decide) ?_
    refine a_callS C dX7_postInvoice_14 cs_X7_within tb1029 (m_X7_within hflags) rfl rfl (Nat.le_of_ble_eq_true rfl) ⟨Nat.le_of_ble_eq_true rfl, Nat.le_of_ble_eq_true rfl⟩ ⟨Nat.le_of_ble_eq_true rfl, Nat.le_of_ble_eq_true rfl⟩ (fun _ h => h.elim) xav_no (fun _ _ h => h.elim) (fun r14 hp14 hq14 => ?_)
    obtain ⟨rfl, rfl⟩ := hq14
    refine a_if_eq (tgt := 24) C dX7_postInvoice_17 (by decide) (fun c17 => ?_) (fun c17 => ?_)
    · have en : ¬ (xokA a ∧ xokD t) := by clear hret hthr I C; grind [bI_0, bI_n0]
      refine a_iconst (v := 0) C dX7_postInvoice_24 (by decide) ?_
      refine a_istore (i := 4) C dX7_postInvoice_25 (by decide) ?_
      refine a_aload_n (i := 0) C dX7_postInvoice_27 rfl rfl ?_
      refine a_aload_n (i := 0) C dX7_postInvoice_28 rfl rfl ?_
      refine a_iload_n (i := 1) C dX7_postInvoice_29 rfl rfl ?_
      refine a_callV C dX7_postInvoice_30 cv_X7_isCustomer tb1040 (m_X7_isCustomer hflags hI) rfl rfl xM_0 rfl (Nat.le_of_ble_eq_true rfl) ⟨Nat.le_of_ble_eq_true rfl, Nat.le_of_ble_eq_true rfl⟩ ⟨Nat.le_of_ble_eq_true rfl, Nat.le_of_ble_eq_true rfl⟩ (fun _ h => h.elim) xav_no (fun _ _ h => h.elim) (fun r30 hp30 hq30 => ?_)
      obtain ⟨rfl, rfl⟩ := hq30
      refine a_if_ne (tgt := 40) C dX7_postInvoice_33 (by decide) (fun c33 => ?_) (fun c33 => ?_)
      · have e6 := bn c33
        refine a_iload (i := 4) C dX7_postInvoice_40 rfl ?_
        refine a_if_ne (tgt := 49) C dX7_postInvoice_42 (by decide) (fun z => absurd rfl z) (fun _ => ?_)
        refine a_iconst (v := 2) C dX7_postInvoice_45 (by decide) ?_
        refine a_goto (tgt := 63) C dX7_postInvoice_46 (by decide) ?_
        refine a_callV C dX7_postInvoice_63 cv_X7_refused tb1032 (m_X7_refused1 hflags (by decide)) rfl rfl xM_0 rfl (Nat.le_of_ble_eq_true rfl) ⟨Nat.le_of_ble_eq_true rfl, Nat.le_of_ble_eq_true rfl⟩ ⟨Nat.le_of_ble_eq_true rfl, Nat.le_of_ble_eq_true rfl⟩ (fun _ h => h.elim) xav_no (fun _ _ h => h.elim) (fun r63 hp63 hq63 => ?_)
        obtain ⟨rfl, rfl⟩ := hq63
        refine a_if_eq (tgt := 71) C dX7_postInvoice_66 (by decide) (fun z => absurd z (by decide)) (fun _ => ?_)
        refine a_iconst (v := 0) C dX7_postInvoice_69 (by decide) ?_
        exact a_iret C dX7_postInvoice_70 (Nat.le_of_ble_eq_true rfl) (Nat.le_of_ble_eq_true rfl) (hret _ _ (by unfold mP o_postInvoice; first | (rw [if_pos e6]; exact ⟨rfl, rfl⟩) | (rw [if_neg (fun z => z e6), if_pos en]; exact ⟨rfl, rfl⟩) | (rw [if_neg (fun z => z e6), if_neg (fun z => z ey), if_pos e7]; exact ⟨rfl, rfl⟩) | (rw [if_neg (fun z => z e6), if_neg (fun z => z ey), if_neg e7]; exact ⟨rfl, rfl⟩)))
      · have e6 := b0 c33
        refine a_iconst (v := 1) C dX7_postInvoice_36 (by decide) ?_
        refine a_goto (tgt := 63) C dX7_postInvoice_37 (by decide) ?_
        refine a_callV C dX7_postInvoice_63 cv_X7_refused tb1032 (m_X7_refused1 hflags (by decide)) rfl rfl xM_0 rfl (Nat.le_of_ble_eq_true rfl) ⟨Nat.le_of_ble_eq_true rfl, Nat.le_of_ble_eq_true rfl⟩ ⟨Nat.le_of_ble_eq_true rfl, Nat.le_of_ble_eq_true rfl⟩ (fun _ h => h.elim) xav_no (fun _ _ h => h.elim) (fun r63 hp63 hq63 => ?_)
        obtain ⟨rfl, rfl⟩ := hq63
        refine a_if_eq (tgt := 71) C dX7_postInvoice_66 (by decide) (fun z => absurd z (by decide)) (fun _ => ?_)
        refine a_iconst (v := 0) C dX7_postInvoice_69 (by decide) ?_
        exact a_iret C dX7_postInvoice_70 (Nat.le_of_ble_eq_true rfl) (Nat.le_of_ble_eq_true rfl) (hret _ _ (by unfold mP o_postInvoice; first | (rw [if_pos e6]; exact ⟨rfl, rfl⟩) | (rw [if_neg (fun z => z e6), if_pos en]; exact ⟨rfl, rfl⟩) | (rw [if_neg (fun z => z e6), if_neg (fun z => z ey), if_pos e7]; exact ⟨rfl, rfl⟩) | (rw [if_neg (fun z => z e6), if_neg (fun z => z ey), if_neg e7]; exact ⟨rfl, rfl⟩)))
    · have ey : xokA a ∧ xokD t := by clear hret hthr I C; grind [bI_0, bI_n0]
      refine a_iconst (v := 1) C dX7_postInvoice_20 (by decide) ?_
      refine a_goto (tgt := 25) C dX7_postInvoice_21 (by decide) ?_
      refine a_istore (i := 4) C dX7_postInvoice_25 (by decide) ?_
      refine a_aload_n (i := 0) C dX7_postInvoice_27 rfl rfl ?_
      refine a_aload_n (i := 0) C dX7_postInvoice_28 rfl rfl ?_
      refine a_iload_n (i := 1) C dX7_postInvoice_29 rfl rfl ?_
      refine a_callV C dX7_postInvoice_30 cv_X7_isCustomer tb1040 (m_X7_isCustomer hflags hI) rfl rfl xM_0 rfl (Nat.le_of_ble_eq_true rfl) ⟨Nat.le_of_ble_eq_true rfl, Nat.le_of_ble_eq_true rfl⟩ ⟨Nat.le_of_ble_eq_true rfl, Nat.le_of_ble_eq_true rfl⟩ (fun _ h => h.elim) xav_no (fun _ _ h => h.elim) (fun r30 hp30 hq30 => ?_)
      obtain ⟨rfl, rfl⟩ := hq30
      refine a_if_ne (tgt := 40) C dX7_postInvoice_33 (by decide) (fun c33 => ?_) (fun c33 => ?_)
      · have e6 := bn c33
        refine a_iload (i := 4) C dX7_postInvoice_40 rfl ?_
        refine a_if_ne (tgt := 49) C dX7_postInvoice_42 (by decide) (fun _ => ?_) (fun z => absurd z (by decide))
        refine a_aload_n (i := 0) C dX7_postInvoice_49 rfl rfl ?_
        refine a_get C dX7_postInvoice_50 fl_X7_86 xM_0 (by first | exact congrArg (fun z => some (Value.int z)) hi | rfl) ?_
        refine a_bipush (v := 24) C dX7_postInvoice_53 (by decide) ?_
        refine a_icmp_ne (tgt := 62) C dX7_postInvoice_55 (by decide) (fun c55 => ?_) (fun c55 => ?_)
        · have e7 : ¬ ni = 24 := fun z => c55 (by rw [z]; rfl)
          refine a_iconst (v := 0) C dX7_postInvoice_62 (by decide) ?_
          refine a_callV C dX7_postInvoice_63 cv_X7_refused tb1032 (m_X7_refused0 hflags) rfl rfl xM_0 rfl (Nat.le_of_ble_eq_true rfl) ⟨Nat.le_of_ble_eq_true rfl, Nat.le_of_ble_eq_true rfl⟩ ⟨Nat.le_of_ble_eq_true rfl, Nat.le_of_ble_eq_true rfl⟩ (fun _ h => h.elim) xav_no (fun _ _ h => h.elim) (fun r63 hp63 hq63 => ?_)
          obtain ⟨rfl, rfl⟩ := hq63
          refine a_if_eq (tgt := 71) C dX7_postInvoice_66 (by decide) (fun _ => ?_) (fun z => absurd (by decide) z)
          refine a_aload_n (i := 0) C dX7_postInvoice_71 rfl rfl ?_
          refine a_iload_n (i := 1) C dX7_postInvoice_72 rfl rfl ?_
          refine a_iload_n (i := 2) C dX7_postInvoice_73 rfl rfl ?_
          refine a_iload_n (i := 3) C dX7_postInvoice_74 rfl rfl ?_
          refine a_iconst (v := 0) C dX7_postInvoice_75 (by decide) ?_
          refine a_callV C dX7_postInvoice_76 cv_X7_post tb1097 (m_X7_post hflags (xI_0 hI) hl (by omega) rfl) rfl rfl xM_0 rfl (Nat.le_of_ble_eq_true rfl) ⟨Nat.le_of_ble_eq_true rfl, Nat.le_of_ble_eq_true rfl⟩ ⟨Nat.le_of_ble_eq_true rfl, Nat.le_of_ble_eq_true rfl⟩ (fun _ h => h.elim) xav_no (fun _ _ h => h.elim) (fun r76 hp76 hq76 => ?_)
          obtain ⟨rfl, rfl⟩ := hq76
          exact a_iret C dX7_postInvoice_79 (Nat.le_of_ble_eq_true rfl) (Nat.le_of_ble_eq_true rfl) (hret _ _ (by unfold mP o_postInvoice; first | (rw [if_pos e6]; exact ⟨rfl, rfl⟩) | (rw [if_neg (fun z => z e6), if_pos en]; exact ⟨rfl, rfl⟩) | (rw [if_neg (fun z => z e6), if_neg (fun z => z ey), if_pos e7]; exact ⟨rfl, rfl⟩) | (rw [if_neg (fun z => z e6), if_neg (fun z => z ey), if_neg e7]; exact ⟨rfl, rfl⟩)))
        · have e7 : ni = 24 := (nI_eq (by omega) (by omega)).mp c55
          refine a_iconst (v := 3) C dX7_postInvoice_58 (by decide) ?_
          refine a_goto (tgt := 63) C dX7_postInvoice_59 (by decide) ?_
          refine a_callV C dX7_postInvoice_63 cv_X7_refused tb1032 (m_X7_refused1 hflags (by decide)) rfl rfl xM_0 rfl (Nat.le_of_ble_eq_true rfl) ⟨Nat.le_of_ble_eq_true rfl, Nat.le_of_ble_eq_true rfl⟩ ⟨Nat.le_of_ble_eq_true rfl, Nat.le_of_ble_eq_true rfl⟩ (fun _ h => h.elim) xav_no (fun _ _ h => h.elim) (fun r63 hp63 hq63 => ?_)
          obtain ⟨rfl, rfl⟩ := hq63
          refine a_if_eq (tgt := 71) C dX7_postInvoice_66 (by decide) (fun z => absurd z (by decide)) (fun _ => ?_)
          refine a_iconst (v := 0) C dX7_postInvoice_69 (by decide) ?_
          exact a_iret C dX7_postInvoice_70 (Nat.le_of_ble_eq_true rfl) (Nat.le_of_ble_eq_true rfl) (hret _ _ (by unfold mP o_postInvoice; first | (rw [if_pos e6]; exact ⟨rfl, rfl⟩) | (rw [if_neg (fun z => z e6), if_pos en]; exact ⟨rfl, rfl⟩) | (rw [if_neg (fun z => z e6), if_neg (fun z => z ey), if_pos e7]; exact ⟨rfl, rfl⟩) | (rw [if_neg (fun z => z e6), if_neg (fun z => z ey), if_neg e7]; exact ⟨rfl, rfl⟩)))
      · have e6 := b0 c33
        refine a_iconst (v := 1) C dX7_postInvoice_36 (by decide) ?_
        refine a_goto (tgt := 63) C dX7_postInvoice_37 (by decide) ?_
        refine a_callV C dX7_postInvoice_63 cv_X7_refused tb1032 (m_X7_refused1 hflags (by decide)) rfl rfl xM_0 rfl (Nat.le_of_ble_eq_true rfl) ⟨Nat.le_of_ble_eq_true rfl, Nat.le_of_ble_eq_true rfl⟩ ⟨Nat.le_of_ble_eq_true rfl, Nat.le_of_ble_eq_true rfl⟩ (fun _ h => h.elim) xav_no (fun _ _ h => h.elim) (fun r63 hp63 hq63 => ?_)
        obtain ⟨rfl, rfl⟩ := hq63
        refine a_if_eq (tgt := 71) C dX7_postInvoice_66 (by decide) (fun z => absurd z (by decide)) (fun _ => ?_)
        refine a_iconst (v := 0) C dX7_postInvoice_69 (by decide) ?_
        exact a_iret C dX7_postInvoice_70 (Nat.le_of_ble_eq_true rfl) (Nat.le_of_ble_eq_true rfl) (hret _ _ (by unfold mP o_postInvoice; first | (rw [if_pos e6]; exact ⟨rfl, rfl⟩) | (rw [if_neg (fun z => z e6), if_pos en]; exact ⟨rfl, rfl⟩) | (rw [if_neg (fun z => z e6), if_neg (fun z => z ey), if_pos e7]; exact ⟨rfl, rfl⟩) | (rw [if_neg (fun z => z e6), if_neg (fun z => z ey), if_neg e7]; exact ⟨rfl, rfl⟩)))
set_option maxRecDepth 100000 in
set_option maxHeartbeats 4000000 in
theorem m_X7_release {l : Launch} {N0 : Nat} {D : va_G} {dT : Nat → ClassId} (hflags : l.stackTraces = false) {h : xH} {n : Nat → Int32} {f : Nat → Nat → Int32} {g : Nat → Nat → Int64} {nc ni np nl : Nat} (hI : xI n nc ni np nl) {p0 i0 : Int32} (hl : nl < 16000)  : xMet l N0 D dT yX7_release cX7_release 3 (some FieldType.int) 2 0 0 [.ref 200, .int p0, .int i0] (xM h n f g) xNo (mP h (o_release ni np nl p0 i0 n f g)) xNX := by
  refine xMet_of hflags (by decide +kernel) (fun _ _ h => h) (Nat.le_of_ble_eq_true rfl) ?_
  intro E C I hret hthr
  refine a_loc [(0, .ref 200), (1, .int p0), (2, .int i0)] (xsub_cons rfl (xsub_cons rfl (xsub_cons rfl (xsub_nil)))) ?_
  obtain ⟨hc, hi, hpy, hln, hc6, hi24, hp24, hlm⟩ := id hI
  refine a_aload_n (i := 0) C dX7_release_0 rfl rfl ?_
  refine a_aload_n (i := 0) C dX7_release_1 rfl rfl ?_
  refine a_iload_n (i := 1) C dX7_release_2 rfl rfl ?_
  refine a_callV C dX7_release_3 cv_X7_isPayment tb1137 (m_X7_isPayment hflags hI) rfl rfl xM_0 rfl (Nat.le_of_ble_eq_true rfl) ⟨Nat.le_of_ble_eq_true rfl, Nat.le_of_ble_eq_true rfl⟩ ⟨Nat.le_of_ble_eq_true rfl, Nat.le_of_ble_eq_true rfl⟩ (fun _ h => h.elim) xav_no (fun _ _ h => h.elim) (fun r3 hp3 hq3 => ?_)
  obtain ⟨rfl, rfl⟩ := hq3
  refine a_if_eq (tgt := 21) C dX7_release_6 (by decide) (fun c6 => ?_) (fun c6 => ?_)
  · have e6 : ¬ (xin p0 np ∧ xin i0 ni) := by clear hret hthr I C; grind [bI_0, bI_n0]
    refine a_iconst (v := 1) C dX7_release_21 (by decide) ?_
    refine a_callV C dX7_release_22 cv_X7_refused tb1032 (m_X7_refused1 hflags (by decide)) rfl rfl xM_0 rfl (Nat.le_of_ble_eq_true rfl) ⟨Nat.le_of_ble_eq_true rfl, Nat.le_of_ble_eq_true rfl⟩ ⟨Nat.le_of_ble_eq_true rfl, Nat.le_of_ble_eq_true rfl⟩ (fun _ h => h.elim) xav_no (fun _ _ h => h.elim) (fun r22 hp22 hq22 => ?_)
    obtain ⟨rfl, rfl⟩ := hq22
    refine a_if_eq (tgt := 32) C dX7_release_25 (by decide) (fun z => absurd z (by decide)) (fun _ => ?_)
    refine a_iconst (v := 0) C dX7_release_28 (by decide) ?_
    refine a_goto (tgt := 38) C dX7_release_29 (by decide) ?_
    exact a_iret C dX7_release_38 (Nat.le_of_ble_eq_true rfl) (Nat.le_of_ble_eq_true rfl) (hret _ _ (by unfold mP o_release; first | (rw [if_pos e6]; exact ⟨rfl, rfl⟩) | (rw [if_neg (fun z => z e6), nI_clamp (by omega), nI_clamp (by omega)]; exact ⟨rfl, rfl⟩)))
  · refine a_aload_n (i := 0) C dX7_release_9 rfl rfl ?_
    refine a_iload_n (i := 2) C dX7_release_10 rfl rfl ?_
    refine a_callV C dX7_release_11 cv_X7_isInvoice tb1141 (m_X7_isInvoice hflags hI) rfl rfl xM_0 rfl (Nat.le_of_ble_eq_true rfl) ⟨Nat.le_of_ble_eq_true rfl, Nat.le_of_ble_eq_true rfl⟩ ⟨Nat.le_of_ble_eq_true rfl, Nat.le_of_ble_eq_true rfl⟩ (fun _ h => h.elim) xav_no (fun _ _ h => h.elim) (fun r11 hp11 hq11 => ?_)
    obtain ⟨rfl, rfl⟩ := hq11
    refine a_if_eq (tgt := 21) C dX7_release_14 (by decide) (fun c14 => ?_) (fun c14 => ?_)
    · have e6 : ¬ (xin p0 np ∧ xin i0 ni) := by clear hret hthr I C; grind [bI_0, bI_n0]
      refine a_iconst (v := 1) C dX7_release_21 (by decide) ?_
      refine a_callV C dX7_release_22 cv_X7_refused tb1032 (m_X7_refused1 hflags (by decide)) rfl rfl xM_0 rfl (Nat.le_of_ble_eq_true rfl) ⟨Nat.le_of_ble_eq_true rfl, Nat.le_of_ble_eq_true rfl⟩ ⟨Nat.le_of_ble_eq_true rfl, Nat.le_of_ble_eq_true rfl⟩ (fun _ h => h.elim) xav_no (fun _ _ h => h.elim) (fun r22 hp22 hq22 => ?_)
      obtain ⟨rfl, rfl⟩ := hq22
      refine a_if_eq (tgt := 32) C dX7_release_25 (by decide) (fun z => absurd z (by decide)) (fun _ => ?_)
      refine a_iconst (v := 0) C dX7_release_28 (by decide) ?_
      refine a_goto (tgt := 38) C dX7_release_29 (by decide) ?_
      exact a_iret C dX7_release_38 (Nat.le_of_ble_eq_true rfl) (Nat.le_of_ble_eq_true rfl) (hret _ _ (by unfold mP o_release; first | (rw [if_pos e6]; exact ⟨rfl, rfl⟩) | (rw [if_neg (fun z => z e6), nI_clamp (by omega), nI_clamp (by omega)]; exact ⟨rfl, rfl⟩)))
    · have e6 : xin p0 np ∧ xin i0 ni := ⟨bn c6, bn c14⟩
      obtain ⟨p, hpp, rfl⟩ := xin_nI e6.1 (by omega)
      obtain ⟨i, hii, rfl⟩ := xin_nI e6.2 (by omega)
      refine a_iconst (v := 0) C dX7_release_17 (by decide) ?_
      refine a_goto (tgt := 22) C dX7_release_18 (by decide) ?_
      refine a_callV C dX7_release_22 cv_X7_refused tb1032 (m_X7_refused0 hflags) rfl rfl xM_0 rfl (Nat.le_of_ble_eq_true rfl) ⟨Nat.le_of_ble_eq_true rfl, Nat.le_of_ble_eq_true rfl⟩ ⟨Nat.le_of_ble_eq_true rfl, Nat.le_of_ble_eq_true rfl⟩ (fun _ h => h.elim) xav_no (fun _ _ h => h.elim) (fun r22 hp22 hq22 => ?_)
      obtain ⟨rfl, rfl⟩ := hq22
      refine a_if_eq (tgt := 32) C dX7_release_25 (by decide) (fun _ => ?_) (fun z => absurd (by decide) z)
      refine a_aload_n (i := 0) C dX7_release_32 rfl rfl ?_
      refine a_iload_n (i := 1) C dX7_release_33 rfl rfl ?_
      refine a_iload_n (i := 2) C dX7_release_34 rfl rfl ?_
      refine a_callV C dX7_release_35 cv_X7_takeBack tb1157 (m_X7_takeBack hflags (xI_0 hI) (p := p) (i := i) (by omega) (by omega) hl) rfl rfl xM_0 rfl (Nat.le_of_ble_eq_true rfl) ⟨Nat.le_of_ble_eq_true rfl, Nat.le_of_ble_eq_true rfl⟩ ⟨Nat.le_of_ble_eq_true rfl, Nat.le_of_ble_eq_true rfl⟩ (fun _ h => h.elim) xav_no (fun _ _ h => h.elim) (fun r35 hp35 hq35 => ?_)
      obtain ⟨rfl, rfl⟩ := hq35
      exact a_iret C dX7_release_38 (Nat.le_of_ble_eq_true rfl) (Nat.le_of_ble_eq_true rfl) (hret _ _ (by unfold mP o_release; first | (rw [if_pos e6]; exact ⟨rfl, rfl⟩) | (rw [if_neg (fun z => z e6), nI_clamp (by omega), nI_clamp (by omega)]; exact ⟨rfl, rfl⟩)))
set_option maxRecDepth 100000 in
set_option maxHeartbeats 4000000 in
theorem m_X7_allocated {l : Launch} {N0 : Nat} {D : va_G} {dT : Nat → ClassId} (hflags : l.stackTraces = false) {h : xH} {n : Nat → Int32} {f : Nat → Nat → Int32} {g : Nat → Nat → Int64} {nc ni np nl : Nat} (hI : xI n nc ni np nl) {p0 i0 : Int32}  : xMet l N0 D dT yX7_allocated cX7_allocated 3 (some FieldType.int) 2 0 0 [.ref 200, .int p0, .int i0] (xM h n f g) xNo (mP h (oRd (xin p0 np ∧ xin i0 ni) (f 22 (24 * p0.toNatClampNeg + i0.toNatClampNeg)) n f g)) xNX := by
  refine xMet_of hflags (by decide +kernel) (fun _ _ h => h) (Nat.le_of_ble_eq_true rfl) ?_
  intro E C I hret hthr
  refine a_loc [(0, .ref 200), (1, .int p0), (2, .int i0)] (xsub_cons rfl (xsub_cons rfl (xsub_cons rfl (xsub_nil)))) ?_
  obtain ⟨hc, hi, hpy, hln, hc6, hi24, hp24, hlm⟩ := id hI
  refine a_aload_n (i := 0) C dX7_allocated_0 rfl rfl ?_
  refine a_aload_n (i := 0) C dX7_allocated_1 rfl rfl ?_
  refine a_iload_n (i := 1) C dX7_allocated_2 rfl rfl ?_
  refine a_callV C dX7_allocated_3 cv_X7_isPayment tb1137 (m_X7_isPayment hflags hI) rfl rfl xM_0 rfl (Nat.le_of_ble_eq_true rfl) ⟨Nat.le_of_ble_eq_true rfl, Nat.le_of_ble_eq_true rfl⟩ ⟨Nat.le_of_ble_eq_true rfl, Nat.le_of_ble_eq_true rfl⟩ (fun _ h => h.elim) xav_no (fun _ _ h => h.elim) (fun r3 hp3 hq3 => ?_)
  obtain ⟨rfl, rfl⟩ := hq3
  refine a_if_eq (tgt := 21) C dX7_allocated_6 (by decide) (fun c6 => ?_) (fun c6 => ?_)
  · have e6 : ¬ (xin p0 np ∧ xin i0 ni) := by clear hret hthr I C; grind [bI_0, bI_n0]
    refine a_iconst (v := 1) C dX7_allocated_21 (by decide) ?_
    refine a_callV C dX7_allocated_22 cv_X7_refused tb1032 (m_X7_refused1 hflags (by decide)) rfl rfl xM_0 rfl (Nat.le_of_ble_eq_true rfl) ⟨Nat.le_of_ble_eq_true rfl, Nat.le_of_ble_eq_true rfl⟩ ⟨Nat.le_of_ble_eq_true rfl, Nat.le_of_ble_eq_true rfl⟩ (fun _ h => h.elim) xav_no (fun _ _ h => h.elim) (fun r22 hp22 hq22 => ?_)
    obtain ⟨rfl, rfl⟩ := hq22
    refine a_if_eq (tgt := 32) C dX7_allocated_25 (by decide) (fun z => absurd z (by decide)) (fun _ => ?_)
    refine a_iconst (v := 0) C dX7_allocated_28 (by decide) ?_
    refine a_goto (tgt := 43) C dX7_allocated_29 (by decide) ?_
    exact a_iret C dX7_allocated_43 (Nat.le_of_ble_eq_true rfl) (Nat.le_of_ble_eq_true rfl) (hret _ _ (by first | exact mP_rf e6 | exact mP_rt e6 (by rw [nI_clamp (by omega), nI_clamp (by omega)])))
  · refine a_aload_n (i := 0) C dX7_allocated_9 rfl rfl ?_
    refine a_iload_n (i := 2) C dX7_allocated_10 rfl rfl ?_
    refine a_callV C dX7_allocated_11 cv_X7_isInvoice tb1141 (m_X7_isInvoice hflags hI) rfl rfl xM_0 rfl (Nat.le_of_ble_eq_true rfl) ⟨Nat.le_of_ble_eq_true rfl, Nat.le_of_ble_eq_true rfl⟩ ⟨Nat.le_of_ble_eq_true rfl, Nat.le_of_ble_eq_true rfl⟩ (fun _ h => h.elim) xav_no (fun _ _ h => h.elim) (fun r11 hp11 hq11 => ?_)
    obtain ⟨rfl, rfl⟩ := hq11
    refine a_if_eq (tgt := 21) C dX7_allocated_14 (by decide) (fun c14 => ?_) (fun c14 => ?_)
    · have e6 : ¬ (xin p0 np ∧ xin i0 ni) := by clear hret hthr I C; grind [bI_0, bI_n0]
      refine a_iconst (v := 1) C dX7_allocated_21 (by decide) ?_
      refine a_callV C dX7_allocated_22 cv_X7_refused tb1032 (m_X7_refused1 hflags (by decide)) rfl rfl xM_0 rfl (Nat.le_of_ble_eq_true rfl) ⟨Nat.le_of_ble_eq_true rfl, Nat.le_of_ble_eq_true rfl⟩ ⟨Nat.le_of_ble_eq_true rfl, Nat.le_of_ble_eq_true rfl⟩ (fun _ h => h.elim) xav_no (fun _ _ h => h.elim) (fun r22 hp22 hq22 => ?_)
      obtain ⟨rfl, rfl⟩ := hq22
      refine a_if_eq (tgt := 32) C dX7_allocated_25 (by decide) (fun z => absurd z (by decide)) (fun _ => ?_)
      refine a_iconst (v := 0) C dX7_allocated_28 (by decide) ?_
      refine a_goto (tgt := 43) C dX7_allocated_29 (by decide) ?_
      exact a_iret C dX7_allocated_43 (Nat.le_of_ble_eq_true rfl) (Nat.le_of_ble_eq_true rfl) (hret _ _ (by first | exact mP_rf e6 | exact mP_rt e6 (by rw [nI_clamp (by omega), nI_clamp (by omega)])))
    · have e6 : xin p0 np ∧ xin i0 ni := ⟨bn c6, bn c14⟩
      obtain ⟨p, hpp, rfl⟩ := xin_nI e6.1 (by omega)
      obtain ⟨i, hii, rfl⟩ := xin_nI e6.2 (by omega)
      refine a_iconst (v := 0) C dX7_allocated_17 (by decide) ?_
      refine a_goto (tgt := 22) C dX7_allocated_18 (by decide) ?_
      refine a_callV C dX7_allocated_22 cv_X7_refused tb1032 (m_X7_refused0 hflags) rfl rfl xM_0 rfl (Nat.le_of_ble_eq_true rfl) ⟨Nat.le_of_ble_eq_true rfl, Nat.le_of_ble_eq_true rfl⟩ ⟨Nat.le_of_ble_eq_true rfl, Nat.le_of_ble_eq_true rfl⟩ (fun _ h => h.elim) xav_no (fun _ _ h => h.elim) (fun r22 hp22 hq22 => ?_)
      obtain ⟨rfl, rfl⟩ := hq22
      refine a_if_eq (tgt := 32) C dX7_allocated_25 (by decide) (fun _ => ?_) (fun z => absurd (by decide) z)
      refine a_aload_n (i := 0) C dX7_allocated_32 rfl rfl ?_
      refine a_get C dX7_allocated_33 fl_X7_60 xM_0 rfl ?_
      refine a_bipush (v := 24) C dX7_allocated_36 (by decide) ?_
      refine a_iload_n (i := 1) C dX7_allocated_38 rfl rfl ?_
      refine a_imul C dX7_allocated_39 ?_
      refine a_iload_n (i := 2) C dX7_allocated_40 rfl rfl ?_
      refine a_iadd C dX7_allocated_41 ?_
      refine a_top (nI (24 * p + i)) (by rw [show (24 : Int32) = nI 24 from rfl, pk_mul, nI_add]) ?_
      refine a_ialdI C dX7_allocated_42 xM_22 ⟨by omega, by omega⟩ ?_
      exact a_iret C dX7_allocated_43 (Nat.le_of_ble_eq_true rfl) (Nat.le_of_ble_eq_true rfl) (hret _ _ (by first | exact mP_rf e6 | exact mP_rt e6 (by rw [nI_clamp (by omega), nI_clamp (by omega)])))
set_option maxRecDepth 100000 in
set_option maxHeartbeats 4000000 in
theorem m_X7_unallocated {l : Launch} {N0 : Nat} {D : va_G} {dT : Nat → ClassId} (hflags : l.stackTraces = false) {h : xH} {n : Nat → Int32} {f : Nat → Nat → Int32} {g : Nat → Nat → Int64} {nc ni np nl : Nat} (hI : xI n nc ni np nl) {p0 : Int32}  : xMet l N0 D dT yX7_unallocated cX7_unallocated 2 (some FieldType.int) 2 0 0 [.ref 200, .int p0] (xM h n f g) xNo (mP h (oRd (xin p0 np) (f 20 p0.toNatClampNeg) n f g)) xNX := by
  refine xMet_of hflags (by decide +kernel) (fun _ _ h => h) (Nat.le_of_ble_eq_true rfl) ?_
  intro E C I hret hthr
  refine a_loc [(0, .ref 200), (1, .int p0)] (xsub_cons rfl (xsub_cons rfl (xsub_nil))) ?_
  obtain ⟨hc, hi, hpy, hln, hc6, hi24, hp24, hlm⟩ := id hI
  refine a_aload_n (i := 0) C dX7_unallocated_0 rfl rfl ?_
  refine a_aload_n (i := 0) C dX7_unallocated_1 rfl rfl ?_
  refine a_iload_n (i := 1) C dX7_unallocated_2 rfl rfl ?_
  refine a_callV C dX7_unallocated_3 cv_X7_isPayment tb1137 (m_X7_isPayment hflags hI) rfl rfl xM_0 rfl (Nat.le_of_ble_eq_true rfl) ⟨Nat.le_of_ble_eq_true rfl, Nat.le_of_ble_eq_true rfl⟩ ⟨Nat.le_of_ble_eq_true rfl, Nat.le_of_ble_eq_true rfl⟩ (fun _ h => h.elim) xav_no (fun _ _ h => h.elim) (fun r3 hp3 hq3 => ?_)
  obtain ⟨rfl, rfl⟩ := hq3
  refine a_if_eq (tgt := 13) C dX7_unallocated_6 (by decide) (fun c6 => ?_) (fun c6 => ?_)
  · have e6 := b0 c6
    refine a_iconst (v := 1) C dX7_unallocated_13 (by decide) ?_
    refine a_callV C dX7_unallocated_14 cv_X7_refused tb1032 (m_X7_refused1 hflags (by decide)) rfl rfl xM_0 rfl (Nat.le_of_ble_eq_true rfl) ⟨Nat.le_of_ble_eq_true rfl, Nat.le_of_ble_eq_true rfl⟩ ⟨Nat.le_of_ble_eq_true rfl, Nat.le_of_ble_eq_true rfl⟩ (fun _ h => h.elim) xav_no (fun _ _ h => h.elim) (fun r14 hp14 hq14 => ?_)
    obtain ⟨rfl, rfl⟩ := hq14
    refine a_if_eq (tgt := 24) C dX7_unallocated_17 (by decide) (fun z => absurd z (by decide)) (fun _ => ?_)
    refine a_iconst (v := 0) C dX7_unallocated_20 (by decide) ?_
    refine a_goto (tgt := 30) C dX7_unallocated_21 (by decide) ?_
    exact a_iret C dX7_unallocated_30 (Nat.le_of_ble_eq_true rfl) (Nat.le_of_ble_eq_true rfl) (hret _ _ (by first | exact mP_rf e6 | exact mP_rt e6 (by rw [nI_clamp (by omega)])))
  · have e6 := bn c6
    obtain ⟨p, hpp, rfl⟩ := xin_nI e6 (by omega)
    refine a_iconst (v := 0) C dX7_unallocated_9 (by decide) ?_
    refine a_goto (tgt := 14) C dX7_unallocated_10 (by decide) ?_
    refine a_callV C dX7_unallocated_14 cv_X7_refused tb1032 (m_X7_refused0 hflags) rfl rfl xM_0 rfl (Nat.le_of_ble_eq_true rfl) ⟨Nat.le_of_ble_eq_true rfl, Nat.le_of_ble_eq_true rfl⟩ ⟨Nat.le_of_ble_eq_true rfl, Nat.le_of_ble_eq_true rfl⟩ (fun _ h => h.elim) xav_no (fun _ _ h => h.elim) (fun r14 hp14 hq14 => ?_)
    obtain ⟨rfl, rfl⟩ := hq14
    refine a_if_eq (tgt := 24) C dX7_unallocated_17 (by decide) (fun _ => ?_) (fun z => absurd (by decide) z)
    refine a_aload_n (i := 0) C dX7_unallocated_24 rfl rfl ?_
    refine a_get C dX7_unallocated_25 fl_X7_54 xM_0 rfl ?_
    refine a_iload_n (i := 1) C dX7_unallocated_28 rfl rfl ?_
    refine a_ialdI C dX7_unallocated_29 xM_20 ⟨by omega, by omega⟩ ?_
    exact a_iret C dX7_unallocated_30 (Nat.le_of_ble_eq_true rfl) (Nat.le_of_ble_eq_true rfl) (hret _ _ (by first | exact mP_rf e6 | exact mP_rt e6 (by rw [nI_clamp (by omega)])))
set_option maxRecDepth 100000 in
set_option maxHeartbeats 4000000 in
theorem m_X7_noLine {l : Launch} {N0 : Nat} {D : va_G} {dT : Nat → ClassId} (hflags : l.stackTraces = false) {h : xH} {n : Nat → Int32} {f : Nat → Nat → Int32} {g : Nat → Nat → Int64} {nc ni np nl : Nat} (hI : xI n nc ni np nl) {w : Int32}  : xMet l N0 D dT yX7_noLine cX7_noLine 2 (some FieldType.boolean) 1 0 0 [.ref 200, .int w] (xM h n f g) xNo (fun r h' => r = some (.int (bI (¬ xin w nl))) ∧ h' = xM h (nup n 0 (bI (¬ xin w nl))) f g) xNX := by
  refine xMet_of hflags (by decide +kernel) (fun _ _ h => h) (Nat.le_of_ble_eq_true rfl) ?_
  intro E C I hret hthr
  refine a_loc [(0, .ref 200), (1, .int w)] (xsub_cons rfl (xsub_cons rfl (xsub_nil))) ?_
  obtain ⟨hc, hi, hpy, hln, hc6, hi24, hp24, hlm⟩ := id hI
  refine a_aload_n (i := 0) C dX7_noLine_0 rfl rfl ?_
  refine a_iload_n (i := 1) C dX7_noLine_1 rfl rfl ?_
  refine a_iconst (v := 0) C dX7_noLine_2 (by decide) ?_
  refine a_aload_n (i := 0) C dX7_noLine_3 rfl rfl ?_
  refine a_get C dX7_noLine_4 fl_X7_134 xM_0 (by first | exact congrArg (fun z => some (Value.int z)) hln | rfl) ?_
  refine a_iconst (v := 1) C dX7_noLine_7 (by decide) ?_
  refine a_isub C dX7_noLine_8 ?_
  refine a_callS C dX7_noLine_9 cs_X7_within tb1029 (m_X7_within hflags) rfl rfl (Nat.le_of_ble_eq_true rfl) ⟨Nat.le_of_ble_eq_true rfl, Nat.le_of_ble_eq_true rfl⟩ ⟨Nat.le_of_ble_eq_true rfl, Nat.le_of_ble_eq_true rfl⟩ (fun _ h => h.elim) xav_no (fun _ _ h => h.elim) (fun r9 hp9 hq9 => ?_)
  obtain ⟨rfl, rfl⟩ := hq9
  have ex := xin_iff (w := w) (m := nI nl) rfl (by omega)
  refine a_if_eq (tgt := 19) C dX7_noLine_12 (by decide) (fun c12 => ?_) (fun c12 => ?_)
  · refine a_iconst (v := 1) C dX7_noLine_19 (by decide) ?_
    refine a_callV C dX7_noLine_20 cv_X7_refused tb1032 (m_X7_refused1 hflags (by decide)) rfl rfl xM_0 rfl (Nat.le_of_ble_eq_true rfl) ⟨Nat.le_of_ble_eq_true rfl, Nat.le_of_ble_eq_true rfl⟩ ⟨Nat.le_of_ble_eq_true rfl, Nat.le_of_ble_eq_true rfl⟩ (fun _ h => h.elim) xav_no (fun _ _ h => h.elim) (fun r20 hp20 hq20 => ?_)
    obtain ⟨rfl, rfl⟩ := hq20
    exact a_zret C dX7_noLine_23 (by first | rfl | exact bI_nar) (Nat.le_of_ble_eq_true rfl) (Nat.le_of_ble_eq_true rfl) (hret _ _ (by first | (have e := b0 c12; rw [bI_t (p := ¬ xin w nl) (fun z => e (ex.mpr z))]; exact ⟨rfl, rfl⟩) | (have e := bn c12; rw [bI_f (p := ¬ xin w nl) (fun z => z (ex.mp e))]; exact ⟨rfl, rfl⟩)))
  · refine a_iconst (v := 0) C dX7_noLine_15 (by decide) ?_
    refine a_goto (tgt := 20) C dX7_noLine_16 (by decide) ?_
    refine a_callV C dX7_noLine_20 cv_X7_refused tb1032 (m_X7_refused0 hflags) rfl rfl xM_0 rfl (Nat.le_of_ble_eq_true rfl) ⟨Nat.le_of_ble_eq_true rfl, Nat.le_of_ble_eq_true rfl⟩ ⟨Nat.le_of_ble_eq_true rfl, Nat.le_of_ble_eq_true rfl⟩ (fun _ h => h.elim) xav_no (fun _ _ h => h.elim) (fun r20 hp20 hq20 => ?_)
    obtain ⟨rfl, rfl⟩ := hq20
    exact a_zret C dX7_noLine_23 (by first | rfl | exact bI_nar) (Nat.le_of_ble_eq_true rfl) (Nat.le_of_ble_eq_true rfl) (hret _ _ (by first | (have e := b0 c12; rw [bI_t (p := ¬ xin w nl) (fun z => e (ex.mpr z))]; exact ⟨rfl, rfl⟩) | (have e := bn c12; rw [bI_f (p := ¬ xin w nl) (fun z => z (ex.mp e))]; exact ⟨rfl, rfl⟩)))
set_option maxRecDepth 100000 in
set_option maxHeartbeats 4000000 in
theorem m_X7_lineInvoice {l : Launch} {N0 : Nat} {D : va_G} {dT : Nat → ClassId} (hflags : l.stackTraces = false) {h : xH} {n : Nat → Int32} {f : Nat → Nat → Int32} {g : Nat → Nat → Int64} {nc ni np nl : Nat} (hI : xI n nc ni np nl) {w : Int32}  : xMet l N0 D dT yX7_lineInvoice cX7_lineInvoice 2 (some FieldType.int) 2 0 0 [.ref 200, .int w] (xM h n f g) xNo (mP h (oRd (xin w nl) (f 23 w.toNatClampNeg) n f g)) xNX := by
  refine xMet_of hflags (by decide +kernel) (fun _ _ h => h) (Nat.le_of_ble_eq_true rfl) ?_
  intro E C I hret hthr
  refine a_loc [(0, .ref 200), (1, .int w)] (xsub_cons rfl (xsub_cons rfl (xsub_nil))) ?_
  obtain ⟨hc, hi, hpy, hln, hc6, hi24, hp24, hlm⟩ := id hI
  refine a_aload_n (i := 0) C dX7_lineInvoice_0 rfl rfl ?_
  refine a_iload_n (i := 1) C dX7_lineInvoice_1 rfl rfl ?_
  refine a_callV C dX7_lineInvoice_2 cv_X7_noLine tb1285 (m_X7_noLine hflags hI) rfl rfl xM_0 rfl (Nat.le_of_ble_eq_true rfl) ⟨Nat.le_of_ble_eq_true rfl, Nat.le_of_ble_eq_true rfl⟩ ⟨Nat.le_of_ble_eq_true rfl, Nat.le_of_ble_eq_true rfl⟩ (fun _ h => h.elim) xav_no (fun _ _ h => h.elim) (fun r2 hp2 hq2 => ?_)
  obtain ⟨rfl, rfl⟩ := hq2
  refine a_if_eq (tgt := 12) C dX7_lineInvoice_5 (by decide) (fun c5 => ?_) (fun c5 => ?_)
  · have e5 := bN0 c5
    obtain ⟨i, hiw, rfl⟩ := xin_nI e5 (by omega)
    refine a_aload_n (i := 0) C dX7_lineInvoice_12 rfl rfl ?_
    refine a_get C dX7_lineInvoice_13 fl_X7_63 xM_0 rfl ?_
    refine a_iload_n (i := 1) C dX7_lineInvoice_16 rfl rfl ?_
    refine a_ialdI C dX7_lineInvoice_17 xM_23 ⟨by omega, by omega⟩ ?_
    exact a_iret C dX7_lineInvoice_18 (Nat.le_of_ble_eq_true rfl) (Nat.le_of_ble_eq_true rfl) (hret _ _ (by first | (rw [bI_t (bNn c5)]; exact mP_rf (bNn c5)) | (rw [bI_f (p := ¬ xin (nI i) nl) (fun z => z e5)]; exact mP_rt e5 (by rw [nI_clamp (by omega)]))))
  · refine a_iconst (v := 0) C dX7_lineInvoice_8 (by decide) ?_
    refine a_goto (tgt := 18) C dX7_lineInvoice_9 (by decide) ?_
    exact a_iret C dX7_lineInvoice_18 (Nat.le_of_ble_eq_true rfl) (Nat.le_of_ble_eq_true rfl) (hret _ _ (by first | (rw [bI_t (bNn c5)]; exact mP_rf (bNn c5)) | (rw [bI_f (p := ¬ xin (nI i) nl) (fun z => z e5)]; exact mP_rt e5 (by rw [nI_clamp (by omega)]))))
set_option maxRecDepth 100000 in
set_option maxHeartbeats 4000000 in
theorem m_X7_lineAmount {l : Launch} {N0 : Nat} {D : va_G} {dT : Nat → ClassId} (hflags : l.stackTraces = false) {h : xH} {n : Nat → Int32} {f : Nat → Nat → Int32} {g : Nat → Nat → Int64} {nc ni np nl : Nat} (hI : xI n nc ni np nl) {w : Int32}  : xMet l N0 D dT yX7_lineAmount cX7_lineAmount 2 (some FieldType.int) 2 0 0 [.ref 200, .int w] (xM h n f g) xNo (mP h (oRd (xin w nl) (f 24 w.toNatClampNeg) n f g)) xNX := by
  refine xMet_of hflags (by decide +kernel) (fun _ _ h => h) (Nat.le_of_ble_eq_true rfl) ?_
  intro E C I hret hthr
  refine a_loc [(0, .ref 200), (1, .int w)] (xsub_cons rfl (xsub_cons rfl (xsub_nil))) ?_
  obtain ⟨hc, hi, hpy, hln, hc6, hi24, hp24, hlm⟩ := id hI
  refine a_aload_n (i := 0) C dX7_lineAmount_0 rfl rfl ?_
  refine a_iload_n (i := 1) C dX7_lineAmount_1 rfl rfl ?_
  refine a_callV C dX7_lineAmount_2 cv_X7_noLine tb1285 (m_X7_noLine hflags hI) rfl rfl xM_0 rfl (Nat.le_of_ble_eq_true rfl) ⟨Nat.le_of_ble_eq_true rfl, Nat.le_of_ble_eq_true rfl⟩ ⟨Nat.le_of_ble_eq_true rfl, Nat.le_of_ble_eq_true rfl⟩ (fun _ h => h.elim) xav_no (fun _ _ h => h.elim) (fun r2 hp2 hq2 => ?_)
  obtain ⟨rfl, rfl⟩ := hq2
  refine a_if_eq (tgt := 12) C dX7_lineAmount_5 (by decide) (fun c5 => ?_) (fun c5 => ?_)
  · have e5 := bN0 c5
    obtain ⟨i, hiw, rfl⟩ := xin_nI e5 (by omega)
    refine a_aload_n (i := 0) C dX7_lineAmount_12 rfl rfl ?_
    refine a_get C dX7_lineAmount_13 fl_X7_66 xM_0 rfl ?_
    refine a_iload_n (i := 1) C dX7_lineAmount_16 rfl rfl ?_
    refine a_ialdI C dX7_lineAmount_17 xM_24 ⟨by omega, by omega⟩ ?_
    exact a_iret C dX7_lineAmount_18 (Nat.le_of_ble_eq_true rfl) (Nat.le_of_ble_eq_true rfl) (hret _ _ (by first | (rw [bI_t (bNn c5)]; exact mP_rf (bNn c5)) | (rw [bI_f (p := ¬ xin (nI i) nl) (fun z => z e5)]; exact mP_rt e5 (by rw [nI_clamp (by omega)]))))
  · refine a_iconst (v := 0) C dX7_lineAmount_8 (by decide) ?_
    refine a_goto (tgt := 18) C dX7_lineAmount_9 (by decide) ?_
    exact a_iret C dX7_lineAmount_18 (Nat.le_of_ble_eq_true rfl) (Nat.le_of_ble_eq_true rfl) (hret _ _ (by first | (rw [bI_t (bNn c5)]; exact mP_rf (bNn c5)) | (rw [bI_f (p := ¬ xin (nI i) nl) (fun z => z e5)]; exact mP_rt e5 (by rw [nI_clamp (by omega)]))))
set_option maxRecDepth 100000 in
set_option maxHeartbeats 4000000 in
theorem m_X7_dispute {l : Launch} {N0 : Nat} {D : va_G} {dT : Nat → ClassId} (hflags : l.stackTraces = false) {h : xH} {n : Nat → Int32} {f : Nat → Nat → Int32} {g : Nat → Nat → Int64} {nc ni np nl : Nat} (hI : xI n nc ni np nl) {i0 a : Int32}  : xMet l N0 D dT yX7_dispute cX7_dispute 3 (some FieldType.int) 2 0 0 [.ref 200, .int i0, .int a] (xM h n f g) xNo (mP h (o_dispute ni i0 a n f g)) xNX := by
  refine xMet_of hflags (by decide +kernel) (fun _ _ h => h) (Nat.le_of_ble_eq_true rfl) ?_
  intro E C I hret hthr
  refine a_loc [(0, .ref 200), (1, .int i0), (2, .int a)] (xsub_cons rfl (xsub_cons rfl (xsub_cons rfl (xsub_nil)))) ?_
  obtain ⟨hc, hi, hpy, hln, hc6, hi24, hp24, hlm⟩ := id hI
  refine a_aload_n (i := 0) C dX7_dispute_0 rfl rfl ?_
  refine a_aload_n (i := 0) C dX7_dispute_1 rfl rfl ?_
  refine a_iload_n (i := 1) C dX7_dispute_2 rfl rfl ?_
  refine a_callV C dX7_dispute_3 cv_X7_isInvoice tb1141 (m_X7_isInvoice hflags hI) rfl rfl xM_0 rfl (Nat.le_of_ble_eq_true rfl) ⟨Nat.le_of_ble_eq_true rfl, Nat.le_of_ble_eq_true rfl⟩ ⟨Nat.le_of_ble_eq_true rfl, Nat.le_of_ble_eq_true rfl⟩ (fun _ h => h.elim) xav_no (fun _ _ h => h.elim) (fun r3 hp3 hq3 => ?_)
  obtain ⟨rfl, rfl⟩ := hq3
  refine a_if_ne (tgt := 13) C dX7_dispute_6 (by decide) (fun c6 => ?_) (fun c6 => ?_)
  · have e6 := bn c6
    obtain ⟨i, hii, rfl⟩ := xin_nI e6 (by omega)
    refine a_iload_n (i := 2) C dX7_dispute_13 rfl rfl ?_
    refine a_iconst (v := 1) C dX7_dispute_14 (by decide) ?_
    refine a_icmp_ge (tgt := 22) C dX7_dispute_15 (by decide) (fun c15 => ?_) (fun c15 => ?_)
    · refine a_iload_n (i := 2) C dX7_dispute_22 rfl rfl ?_
      refine a_aload_n (i := 0) C dX7_dispute_23 rfl rfl ?_
      refine a_iload_n (i := 1) C dX7_dispute_24 rfl rfl ?_
      refine a_callV C dX7_dispute_25 cv_X7_clear tb1068 (m_X7_clear hflags (i := i) (by omega)) rfl rfl xM_0 rfl (Nat.le_of_ble_eq_true rfl) ⟨Nat.le_of_ble_eq_true rfl, Nat.le_of_ble_eq_true rfl⟩ ⟨Nat.le_of_ble_eq_true rfl, Nat.le_of_ble_eq_true rfl⟩ (fun _ h => h.elim) xav_no (fun _ _ h => h.elim) (fun r25 hp25 hq25 => ?_)
      obtain ⟨rfl, rfl⟩ := hq25
      refine a_icmp_le (tgt := 35) C dX7_dispute_28 (by decide) (fun c28 => ?_) (fun c28 => ?_)
      · refine a_iconst (v := 0) C dX7_dispute_35 (by decide) ?_
        refine a_callV C dX7_dispute_36 cv_X7_refused tb1032 (m_X7_refused0 hflags) rfl rfl xM_0 rfl (Nat.le_of_ble_eq_true rfl) ⟨Nat.le_of_ble_eq_true rfl, Nat.le_of_ble_eq_true rfl⟩ ⟨Nat.le_of_ble_eq_true rfl, Nat.le_of_ble_eq_true rfl⟩ (fun _ h => h.elim) xav_no (fun _ _ h => h.elim) (fun r36 hp36 hq36 => ?_)
        obtain ⟨rfl, rfl⟩ := hq36
        refine a_if_eq (tgt := 44) C dX7_dispute_39 (by decide) (fun _ => ?_) (fun z => absurd (by decide) z)
        refine a_aload_n (i := 0) C dX7_dispute_44 rfl rfl ?_
        refine a_get C dX7_dispute_45 fl_X7_34 xM_0 rfl ?_
        refine a_iload_n (i := 1) C dX7_dispute_48 rfl rfl ?_
        refine a_dup2 C dX7_dispute_49 rfl rfl ?_
        refine a_ialdI C dX7_dispute_50 xM_14 ⟨by omega, by omega⟩ ?_
        refine a_iload_n (i := 2) C dX7_dispute_51 rfl rfl ?_
        refine a_iadd C dX7_dispute_52 ?_
        refine a_iastI C dX7_dispute_53 xM_14 ⟨by omega, by omega⟩ ?_
        refine a_hp xMw_14 ?_
        refine a_aload_n (i := 0) C dX7_dispute_54 rfl rfl ?_
        refine a_get C dX7_dispute_55 fl_X7_34 xM_0 rfl ?_
        refine a_iload_n (i := 1) C dX7_dispute_58 rfl rfl ?_
        refine a_ialdV C (f 14 i + a) dX7_dispute_59 xM_14 ⟨by omega, by omega⟩ pk_us ?_
        exact a_iret C dX7_dispute_60 (Nat.le_of_ble_eq_true rfl) (Nat.le_of_ble_eq_true rfl) (hret _ _ (by unfold mP o_dispute; first | (rw [if_pos e6]; exact ⟨rfl, rfl⟩) | (rw [if_neg (fun z => z e6), if_pos (Int32.not_le.mp c15)]; exact ⟨rfl, rfl⟩) | (rw [if_neg (fun z => z e6), if_neg (Int32.not_lt.mpr c15), nI_clamp (by omega), if_pos (Int32.not_le.mp c28)]; exact ⟨rfl, rfl⟩) | (rw [if_neg (fun z => z e6), if_neg (Int32.not_lt.mpr c15), nI_clamp (by omega), if_neg (Int32.not_lt.mpr c28)]; exact ⟨rfl, rfl⟩)))
      · refine a_iconst (v := 3) C dX7_dispute_31 (by decide) ?_
        refine a_goto (tgt := 36) C dX7_dispute_32 (by decide) ?_
        refine a_callV C dX7_dispute_36 cv_X7_refused tb1032 (m_X7_refused1 hflags (by decide)) rfl rfl xM_0 rfl (Nat.le_of_ble_eq_true rfl) ⟨Nat.le_of_ble_eq_true rfl, Nat.le_of_ble_eq_true rfl⟩ ⟨Nat.le_of_ble_eq_true rfl, Nat.le_of_ble_eq_true rfl⟩ (fun _ h => h.elim) xav_no (fun _ _ h => h.elim) (fun r36 hp36 hq36 => ?_)
        obtain ⟨rfl, rfl⟩ := hq36
        refine a_if_eq (tgt := 44) C dX7_dispute_39 (by decide) (fun z => absurd z (by decide)) (fun _ => ?_)
        refine a_iconst (v := 0) C dX7_dispute_42 (by decide) ?_
        exact a_iret C dX7_dispute_43 (Nat.le_of_ble_eq_true rfl) (Nat.le_of_ble_eq_true rfl) (hret _ _ (by unfold mP o_dispute; first | (rw [if_pos e6]; exact ⟨rfl, rfl⟩) | (rw [if_neg (fun z => z e6), if_pos (Int32.not_le.mp c15)]; exact ⟨rfl, rfl⟩) | (rw [if_neg (fun z => z e6), if_neg (Int32.not_lt.mpr c15), nI_clamp (by omega), if_pos (Int32.not_le.mp c28)]; exact ⟨rfl, rfl⟩) | (rw [if_neg (fun z => z e6), if_neg (Int32.not_lt.mpr c15), nI_clamp (by omega), if_neg (Int32.not_lt.mpr c28)]; exact ⟨rfl, rfl⟩)))
    · refine a_iconst (v := 2) C dX7_dispute_18 (by decide) ?_
      refine a_goto (tgt := 36) C dX7_dispute_19 (by decide) ?_
      refine a_callV C dX7_dispute_36 cv_X7_refused tb1032 (m_X7_refused1 hflags (by decide)) rfl rfl xM_0 rfl (Nat.le_of_ble_eq_true rfl) ⟨Nat.le_of_ble_eq_true rfl, Nat.le_of_ble_eq_true rfl⟩ ⟨Nat.le_of_ble_eq_true rfl, Nat.le_of_ble_eq_true rfl⟩ (fun _ h => h.elim) xav_no (fun _ _ h => h.elim) (fun r36 hp36 hq36 => ?_)
      obtain ⟨rfl, rfl⟩ := hq36
      refine a_if_eq (tgt := 44) C dX7_dispute_39 (by decide) (fun z => absurd z (by decide)) (fun _ => ?_)
      refine a_iconst (v := 0) C dX7_dispute_42 (by decide) ?_
      exact a_iret C dX7_dispute_43 (Nat.le_of_ble_eq_true rfl) (Nat.le_of_ble_eq_true rfl) (hret _ _ (by unfold mP o_dispute; first | (rw [if_pos e6]; exact ⟨rfl, rfl⟩) | (rw [if_neg (fun z => z e6), if_pos (Int32.not_le.mp c15)]; exact ⟨rfl, rfl⟩) | (rw [if_neg (fun z => z e6), if_neg (Int32.not_lt.mpr c15), nI_clamp (by omega), if_pos (Int32.not_le.mp c28)]; exact ⟨rfl, rfl⟩) | (rw [if_neg (fun z => z e6), if_neg (Int32.not_lt.mpr c15), nI_clamp (by omega), if_neg (Int32.not_lt.mpr c28)]; exact ⟨rfl, rfl⟩)))
  · have e6 := b0 c6
    refine a_iconst (v := 1) C dX7_dispute_9 (by decide) ?_
    refine a_goto (tgt := 36) C dX7_dispute_10 (by decide) ?_
    refine a_callV C dX7_dispute_36 cv_X7_refused tb1032 (m_X7_refused1 hflags (by decide)) rfl rfl xM_0 rfl (Nat.le_of_ble_eq_true rfl) ⟨Nat.le_of_ble_eq_true rfl, Nat.le_of_ble_eq_true rfl⟩ ⟨Nat.le_of_ble_eq_true rfl, Nat.le_of_ble_eq_true rfl⟩ (fun _ h => h.elim) xav_no (fun _ _ h => h.elim) (fun r36 hp36 hq36 => ?_)
    obtain ⟨rfl, rfl⟩ := hq36
    refine a_if_eq (tgt := 44) C dX7_dispute_39 (by decide) (fun z => absurd z (by decide)) (fun _ => ?_)
    refine a_iconst (v := 0) C dX7_dispute_42 (by decide) ?_
    exact a_iret C dX7_dispute_43 (Nat.le_of_ble_eq_true rfl) (Nat.le_of_ble_eq_true rfl) (hret _ _ (by unfold mP o_dispute; first | (rw [if_pos e6]; exact ⟨rfl, rfl⟩) | (rw [if_neg (fun z => z e6), if_pos (Int32.not_le.mp c15)]; exact ⟨rfl, rfl⟩) | (rw [if_neg (fun z => z e6), if_neg (Int32.not_lt.mpr c15), nI_clamp (by omega), if_pos (Int32.not_le.mp c28)]; exact ⟨rfl, rfl⟩) | (rw [if_neg (fun z => z e6), if_neg (Int32.not_lt.mpr c15), nI_clamp (by omega), if_neg (Int32.not_lt.mpr c28)]; exact ⟨rfl, rfl⟩)))
set_option maxRecDepth 100000 in
set_option maxHeartbeats 4000000 in
theorem m_X7_settle {l : Launch} {N0 : Nat} {D : va_G} {dT : Nat → ClassId} (hflags : l.stackTraces = false) {h : xH} {n : Nat → Int32} {f : Nat → Nat → Int32} {g : Nat → Nat → Int64} {nc ni np nl : Nat} (hI : xI n nc ni np nl) {i0 a : Int32} (hl : nl < 16000)  : xMet l N0 D dT yX7_settle cX7_settle 3 (some FieldType.int) 2 0 0 [.ref 200, .int i0, .int a] (xM h n f g) xNo (mP h (o_settle ni nl i0 a n f g)) xNX := by
  refine xMet_of hflags (by decide +kernel) (fun _ _ h => h) (Nat.le_of_ble_eq_true rfl) ?_
  intro E C I hret hthr
  refine a_loc [(0, .ref 200), (1, .int i0), (2, .int a)] (xsub_cons rfl (xsub_cons rfl (xsub_cons rfl (xsub_nil)))) ?_
  obtain ⟨hc, hi, hpy, hln, hc6, hi24, hp24, hlm⟩ := id hI
  refine a_aload_n (i := 0) C dX7_settle_0 rfl rfl ?_
  refine a_aload_n (i := 0) C dX7_settle_1 rfl rfl ?_
  refine a_iload_n (i := 1) C dX7_settle_2 rfl rfl ?_
  refine a_callV C dX7_settle_3 cv_X7_isInvoice tb1141 (m_X7_isInvoice hflags hI) rfl rfl xM_0 rfl (Nat.le_of_ble_eq_true rfl) ⟨Nat.le_of_ble_eq_true rfl, Nat.le_of_ble_eq_true rfl⟩ ⟨Nat.le_of_ble_eq_true rfl, Nat.le_of_ble_eq_true rfl⟩ (fun _ h => h.elim) xav_no (fun _ _ h => h.elim) (fun r3 hp3 hq3 => ?_)
  obtain ⟨rfl, rfl⟩ := hq3
  refine a_if_ne (tgt := 13) C dX7_settle_6 (by decide) (fun c6 => ?_) (fun c6 => ?_)
  · have e6 := bn c6
    obtain ⟨i, hii, rfl⟩ := xin_nI e6 (by omega)
    refine a_aload_n (i := 0) C dX7_settle_13 rfl rfl ?_
    refine a_get C dX7_settle_14 fl_X7_34 xM_0 rfl ?_
    refine a_iload_n (i := 1) C dX7_settle_17 rfl rfl ?_
    refine a_ialdI C dX7_settle_18 xM_14 ⟨by omega, by omega⟩ ?_
    refine a_if_ne (tgt := 26) C dX7_settle_19 (by decide) (fun c19 => ?_) (fun c19 => ?_)
    · refine a_iload_n (i := 2) C dX7_settle_26 rfl rfl ?_
      refine a_iconst (v := 0) C dX7_settle_27 (by decide) ?_
      refine a_aload_n (i := 0) C dX7_settle_28 rfl rfl ?_
      refine a_get C dX7_settle_29 fl_X7_34 xM_0 rfl ?_
      refine a_iload_n (i := 1) C dX7_settle_32 rfl rfl ?_
      refine a_ialdI C dX7_settle_33 xM_14 ⟨by omega, by omega⟩ ?_
      refine a_callS C dX7_settle_34 cs_X7_within tb1029 (m_X7_within hflags) rfl rfl (Nat.le_of_ble_eq_true rfl) ⟨Nat.le_of_ble_eq_true rfl, Nat.le_of_ble_eq_true rfl⟩ ⟨Nat.le_of_ble_eq_true rfl, Nat.le_of_ble_eq_true rfl⟩ (fun _ h => h.elim) xav_no (fun _ _ h => h.elim) (fun r34 hp34 hq34 => ?_)
      obtain ⟨rfl, rfl⟩ := hq34
      refine a_if_ne (tgt := 44) C dX7_settle_37 (by decide) (fun c37 => ?_) (fun c37 => ?_)
      · have e8 := bn c37
        refine a_iconst (v := 0) C dX7_settle_44 (by decide) ?_
        refine a_callV C dX7_settle_45 cv_X7_refused tb1032 (m_X7_refused0 hflags) rfl rfl xM_0 rfl (Nat.le_of_ble_eq_true rfl) ⟨Nat.le_of_ble_eq_true rfl, Nat.le_of_ble_eq_true rfl⟩ ⟨Nat.le_of_ble_eq_true rfl, Nat.le_of_ble_eq_true rfl⟩ (fun _ h => h.elim) xav_no (fun _ _ h => h.elim) (fun r45 hp45 hq45 => ?_)
        obtain ⟨rfl, rfl⟩ := hq45
        refine a_if_eq (tgt := 53) C dX7_settle_48 (by decide) (fun _ => ?_) (fun z => absurd (by decide) z)
        refine a_aload_n (i := 0) C dX7_settle_53 rfl rfl ?_
        refine a_get C dX7_settle_54 fl_X7_31 xM_0 rfl ?_
        refine a_iload_n (i := 1) C dX7_settle_57 rfl rfl ?_
        refine a_dup2 C dX7_settle_58 rfl rfl ?_
        refine a_ialdI C dX7_settle_59 xM_13 ⟨by omega, by omega⟩ ?_
        refine a_iload_n (i := 2) C dX7_settle_60 rfl rfl ?_
        refine a_isub C dX7_settle_61 ?_
        refine a_iastI C dX7_settle_62 xM_13 ⟨by omega, by omega⟩ ?_
        refine a_hp xMw_13 ?_
        refine a_aload_n (i := 0) C dX7_settle_63 rfl rfl ?_
        refine a_get C dX7_settle_64 fl_X7_34 xM_0 rfl ?_
        refine a_iload_n (i := 1) C dX7_settle_67 rfl rfl ?_
        refine a_iconst (v := 0) C dX7_settle_68 (by decide) ?_
        refine a_iastI C dX7_settle_69 xM_14 ⟨by omega, by omega⟩ ?_
        refine a_hp xMw_14 ?_
        refine a_aload_n (i := 0) C dX7_settle_70 rfl rfl ?_
        refine a_get C dX7_settle_71 fl_X7_31 xM_0 rfl ?_
        refine a_iload_n (i := 1) C dX7_settle_74 rfl rfl ?_
        refine a_ialdV C (f 13 i - a) dX7_settle_75 xM_13 ⟨by omega, by omega⟩ pk_us ?_
        refine a_if_ne (tgt := 93) C dX7_settle_76 (by decide) (fun c76 => ?_) (fun c76 => ?_)
        · refine a_aload_n (i := 0) C dX7_settle_93 rfl rfl ?_
          refine a_iload_n (i := 1) C dX7_settle_94 rfl rfl ?_
          refine a_iload_n (i := 2) C dX7_settle_95 rfl rfl ?_
          refine a_ineg C dX7_settle_96 ?_
          refine a_callV C dX7_settle_97 cv_X7_write tb1101 (m_X7_write hflags (xI_0 hI) (i := i) hl) rfl rfl xM_0 rfl (Nat.le_of_ble_eq_true rfl) ⟨Nat.le_of_ble_eq_true rfl, Nat.le_of_ble_eq_true rfl⟩ ⟨Nat.le_of_ble_eq_true rfl, Nat.le_of_ble_eq_true rfl⟩ (fun _ h => h.elim) xav_no (fun _ _ h => h.elim) (fun r97 hp97 hq97 => ?_)
          obtain ⟨rfl, rfl⟩ := hq97
          refine a_aload_n (i := 0) C dX7_settle_100 rfl rfl ?_
          refine a_get C dX7_settle_101 fl_X7_31 xM_0 rfl ?_
          refine a_iload_n (i := 1) C dX7_settle_104 rfl rfl ?_
          refine a_ialdV C (f 13 i - a) dX7_settle_105 xM_13 ⟨by omega, by omega⟩ (by unfold mWf; split <;> exact pk_us) ?_
          exact a_iret C dX7_settle_106 (Nat.le_of_ble_eq_true rfl) (Nat.le_of_ble_eq_true rfl) (hret _ _ (by unfold mP o_settle; first | (rw [if_pos e6]; exact ⟨rfl, rfl⟩) | (rw [if_neg (fun z => z e6), nI_clamp (by omega), if_pos c19]; exact ⟨rfl, rfl⟩) | (rw [if_neg (fun z => z e6), nI_clamp (by omega), if_neg c19, if_pos e8]; exact ⟨rfl, rfl⟩) | (rw [if_neg (fun z => z e6), nI_clamp (by omega), if_neg c19, if_neg (fun z => z e8)]; unfold mSf; first | (rw [if_pos c76]; exact ⟨rfl, rfl⟩) | (rw [if_neg c76]; exact ⟨rfl, rfl⟩))))
        · refine a_aload_n (i := 0) C dX7_settle_79 rfl rfl ?_
          refine a_get C dX7_settle_80 fl_X7_45 xM_0 rfl ?_
          refine a_iload_n (i := 1) C dX7_settle_83 rfl rfl ?_
          refine a_iconst (v := 0) C dX7_settle_84 (by decide) ?_
          refine a_iastI C dX7_settle_85 xM_17 ⟨by omega, by omega⟩ ?_
          refine a_hp xMw_17 ?_
          refine a_aload_n (i := 0) C dX7_settle_86 rfl rfl ?_
          refine a_get C dX7_settle_87 fl_X7_48 xM_0 rfl ?_
          refine a_iload_n (i := 1) C dX7_settle_90 rfl rfl ?_
          refine a_iconst (v := 0) C dX7_settle_91 (by decide) ?_
          refine a_iastI C dX7_settle_92 xM_18 ⟨by omega, by omega⟩ ?_
          refine a_hp xMw_18 ?_
          refine a_aload_n (i := 0) C dX7_settle_93 rfl rfl ?_
          refine a_iload_n (i := 1) C dX7_settle_94 rfl rfl ?_
          refine a_iload_n (i := 2) C dX7_settle_95 rfl rfl ?_
          refine a_ineg C dX7_settle_96 ?_
          refine a_callV C dX7_settle_97 cv_X7_write tb1101 (m_X7_write hflags (xI_0 hI) (i := i) hl) rfl rfl xM_0 rfl (Nat.le_of_ble_eq_true rfl) ⟨Nat.le_of_ble_eq_true rfl, Nat.le_of_ble_eq_true rfl⟩ ⟨Nat.le_of_ble_eq_true rfl, Nat.le_of_ble_eq_true rfl⟩ (fun _ h => h.elim) xav_no (fun _ _ h => h.elim) (fun r97 hp97 hq97 => ?_)
          obtain ⟨rfl, rfl⟩ := hq97
          refine a_aload_n (i := 0) C dX7_settle_100 rfl rfl ?_
          refine a_get C dX7_settle_101 fl_X7_31 xM_0 rfl ?_
          refine a_iload_n (i := 1) C dX7_settle_104 rfl rfl ?_
          refine a_ialdV C (f 13 i - a) dX7_settle_105 xM_13 ⟨by omega, by omega⟩ (by unfold mWf; split <;> exact pk_us) ?_
          exact a_iret C dX7_settle_106 (Nat.le_of_ble_eq_true rfl) (Nat.le_of_ble_eq_true rfl) (hret _ _ (by unfold mP o_settle; first | (rw [if_pos e6]; exact ⟨rfl, rfl⟩) | (rw [if_neg (fun z => z e6), nI_clamp (by omega), if_pos c19]; exact ⟨rfl, rfl⟩) | (rw [if_neg (fun z => z e6), nI_clamp (by omega), if_neg c19, if_pos e8]; exact ⟨rfl, rfl⟩) | (rw [if_neg (fun z => z e6), nI_clamp (by omega), if_neg c19, if_neg (fun z => z e8)]; unfold mSf; first | (rw [if_pos c76]; exact ⟨rfl, rfl⟩) | (rw [if_neg c76]; exact ⟨rfl, rfl⟩))))
      · have e8 := b0 c37
        refine a_iconst (v := 3) C dX7_settle_40 (by decide) ?_
        refine a_goto (tgt := 45) C dX7_settle_41 (by decide) ?_
        refine a_callV C dX7_settle_45 cv_X7_refused tb1032 (m_X7_refused1 hflags (by decide)) rfl rfl xM_0 rfl (Nat.le_of_ble_eq_true rfl) ⟨Nat.le_of_ble_eq_true rfl, Nat.le_of_ble_eq_true rfl⟩ ⟨Nat.le_of_ble_eq_true rfl, Nat.le_of_ble_eq_true rfl⟩ (fun _ h => h.elim) xav_no (fun _ _ h => h.elim) (fun r45 hp45 hq45 => ?_)
        obtain ⟨rfl, rfl⟩ := hq45
        refine a_if_eq (tgt := 53) C dX7_settle_48 (by decide) (fun z => absurd z (by decide)) (fun _ => ?_)
        refine a_iconst (v := 0) C dX7_settle_51 (by decide) ?_
        exact a_iret C dX7_settle_52 (Nat.le_of_ble_eq_true rfl) (Nat.le_of_ble_eq_true rfl) (hret _ _ (by unfold mP o_settle; first | (rw [if_pos e6]; exact ⟨rfl, rfl⟩) | (rw [if_neg (fun z => z e6), nI_clamp (by omega), if_pos c19]; exact ⟨rfl, rfl⟩) | (rw [if_neg (fun z => z e6), nI_clamp (by omega), if_neg c19, if_pos e8]; exact ⟨rfl, rfl⟩) | (rw [if_neg (fun z => z e6), nI_clamp (by omega), if_neg c19, if_neg (fun z => z e8)]; unfold mSf; first | (rw [if_pos c76]; exact ⟨rfl, rfl⟩) | (rw [if_neg c76]; exact ⟨rfl, rfl⟩))))
    · refine a_iconst (v := 2) C dX7_settle_22 (by decide) ?_
      refine a_goto (tgt := 45) C dX7_settle_23 (by decide) ?_
      refine a_callV C dX7_settle_45 cv_X7_refused tb1032 (m_X7_refused1 hflags (by decide)) rfl rfl xM_0 rfl (Nat.le_of_ble_eq_true rfl) ⟨Nat.le_of_ble_eq_true rfl, Nat.le_of_ble_eq_true rfl⟩ ⟨Nat.le_of_ble_eq_true rfl, Nat.le_of_ble_eq_true rfl⟩ (fun _ h => h.elim) xav_no (fun _ _ h => h.elim) (fun r45 hp45 hq45 => ?_)
      obtain ⟨rfl, rfl⟩ := hq45
      refine a_if_eq (tgt := 53) C dX7_settle_48 (by decide) (fun z => absurd z (by decide)) (fun _ => ?_)
      refine a_iconst (v := 0) C dX7_settle_51 (by decide) ?_
      exact a_iret C dX7_settle_52 (Nat.le_of_ble_eq_true rfl) (Nat.le_of_ble_eq_true rfl) (hret _ _ (by unfold mP o_settle; first | (rw [if_pos e6]; exact ⟨rfl, rfl⟩) | (rw [if_neg (fun z => z e6), nI_clamp (by omega), if_pos c19]; exact ⟨rfl, rfl⟩) | (rw [if_neg (fun z => z e6), nI_clamp (by omega), if_neg c19, if_pos e8]; exact ⟨rfl, rfl⟩) | (rw [if_neg (fun z => z e6), nI_clamp (by omega), if_neg c19, if_neg (fun z => z e8)]; unfold mSf; first | (rw [if_pos c76]; exact ⟨rfl, rfl⟩) | (rw [if_neg c76]; exact ⟨rfl, rfl⟩))))
  · have e6 := b0 c6
    refine a_iconst (v := 1) C dX7_settle_9 (by decide) ?_
    refine a_goto (tgt := 45) C dX7_settle_10 (by decide) ?_
    refine a_callV C dX7_settle_45 cv_X7_refused tb1032 (m_X7_refused1 hflags (by decide)) rfl rfl xM_0 rfl (Nat.le_of_ble_eq_true rfl) ⟨Nat.le_of_ble_eq_true rfl, Nat.le_of_ble_eq_true rfl⟩ ⟨Nat.le_of_ble_eq_true rfl, Nat.le_of_ble_eq_true rfl⟩ (fun _ h => h.elim) xav_no (fun _ _ h => h.elim) (fun r45 hp45 hq45 => ?_)
    obtain ⟨rfl, rfl⟩ := hq45
    refine a_if_eq (tgt := 53) C dX7_settle_48 (by decide) (fun z => absurd z (by decide)) (fun _ => ?_)
    refine a_iconst (v := 0) C dX7_settle_51 (by decide) ?_
    exact a_iret C dX7_settle_52 (Nat.le_of_ble_eq_true rfl) (Nat.le_of_ble_eq_true rfl) (hret _ _ (by unfold mP o_settle; first | (rw [if_pos e6]; exact ⟨rfl, rfl⟩) | (rw [if_neg (fun z => z e6), nI_clamp (by omega), if_pos c19]; exact ⟨rfl, rfl⟩) | (rw [if_neg (fun z => z e6), nI_clamp (by omega), if_neg c19, if_pos e8]; exact ⟨rfl, rfl⟩) | (rw [if_neg (fun z => z e6), nI_clamp (by omega), if_neg c19, if_neg (fun z => z e8)]; unfold mSf; first | (rw [if_pos c76]; exact ⟨rfl, rfl⟩) | (rw [if_neg c76]; exact ⟨rfl, rfl⟩))))
set_option maxRecDepth 100000 in
set_option maxHeartbeats 4000000 in
theorem m_X7_daysToReminder {l : Launch} {N0 : Nat} {D : va_G} {dT : Nat → ClassId} (hflags : l.stackTraces = false) {h : xH} {n : Nat → Int32} {f : Nat → Nat → Int32} {g : Nat → Nat → Int64} {nc ni np nl : Nat} (hI : xI n nc ni np nl) {w : Int32} (hO : ∀ i, i < ni → ∃ k, k < 6 ∧ f 10 i = nI k)  : xMet l N0 D dT yX7_daysToReminder cX7_daysToReminder 3 (some FieldType.int) 3 0 0 [.ref 200, .int w] (xM h n f g) xNo (mP h (oRd (xin w ni) (xdr n f w.toNatClampNeg) n f g)) xNX := by
  refine xMet_of hflags (by decide +kernel) (fun _ _ h => h) (Nat.le_of_ble_eq_true rfl) ?_
  intro E C I hret hthr
  refine a_loc [(0, .ref 200), (1, .int w)] (xsub_cons rfl (xsub_cons rfl (xsub_nil))) ?_
  obtain ⟨hc, hi, hpy, hln, hc6, hi24, hp24, hlm⟩ := id hI
  refine a_aload_n (i := 0) C dX7_daysToReminder_0 rfl rfl ?_
  refine a_iload_n (i := 1) C dX7_daysToReminder_1 rfl rfl ?_
  refine a_callV C dX7_daysToReminder_2 cv_X7_noInvoice tb1193 (m_X7_noInvoice hflags hI) rfl rfl xM_0 rfl (Nat.le_of_ble_eq_true rfl) ⟨Nat.le_of_ble_eq_true rfl, Nat.le_of_ble_eq_true rfl⟩ ⟨Nat.le_of_ble_eq_true rfl, Nat.le_of_ble_eq_true rfl⟩ (fun _ h => h.elim) xav_no (fun _ _ h => h.elim) (fun r2 hp2 hq2 => ?_)
  obtain ⟨rfl, rfl⟩ := hq2
  refine a_if_eq (tgt := 10) C dX7_daysToReminder_5 (by decide) (fun c5 => ?_) (fun c5 => ?_)
  · have e5 := bN0 c5
    obtain ⟨i, hiw, rfl⟩ := xin_nI e5 (by omega)
    obtain ⟨k, hk6, hk⟩ := hO i hiw
    rw [bI_f (p := ¬ xin (nI i) ni) (fun z => z e5)]
    refine a_aload_n (i := 0) C dX7_daysToReminder_10 rfl rfl ?_
    refine a_iload_n (i := 1) C dX7_daysToReminder_11 rfl rfl ?_
    refine a_callV C dX7_daysToReminder_12 cv_X7_isReminded tb1081 (m_X7_isReminded hflags (i := i) (by omega)) rfl rfl xM_0 rfl (Nat.le_of_ble_eq_true rfl) ⟨Nat.le_of_ble_eq_true rfl, Nat.le_of_ble_eq_true rfl⟩ ⟨Nat.le_of_ble_eq_true rfl, Nat.le_of_ble_eq_true rfl⟩ (fun _ h => h.elim) xav_no (fun _ _ h => h.elim) (fun r12 hp12 hq12 => ?_)
    obtain ⟨rfl, rfl⟩ := hq12
    refine a_if_ne (tgt := 20) C dX7_daysToReminder_15 (by decide) (fun c15 => ?_) (fun c15 => ?_)
    · have e9 := bn c15
      refine a_aload_n (i := 0) C dX7_daysToReminder_20 rfl rfl ?_
      refine a_get C dX7_daysToReminder_21 fl_X7_28 xM_0 rfl ?_
      refine a_iload_n (i := 1) C dX7_daysToReminder_24 rfl rfl ?_
      refine a_ialdI C dX7_daysToReminder_25 xM_12 ⟨by omega, by omega⟩ ?_
      refine a_aload_n (i := 0) C dX7_daysToReminder_26 rfl rfl ?_
      refine a_get C dX7_daysToReminder_27 fl_X7_112 xM_0 rfl ?_
      refine a_icmp_le (tgt := 42) C dX7_daysToReminder_30 (by decide) (fun c30 => ?_) (fun c30 => ?_)
      · refine a_aload_n (i := 0) C dX7_daysToReminder_42 rfl rfl ?_
        refine a_get C dX7_daysToReminder_43 fl_X7_112 xM_0 rfl ?_
        refine a_istore_n (i := 2) C dX7_daysToReminder_46 rfl (by decide) ?_
        refine a_aload_n (i := 0) C dX7_daysToReminder_47 rfl rfl ?_
        refine a_get C dX7_daysToReminder_48 fl_X7_19 xM_0 rfl ?_
        refine a_aload_n (i := 0) C dX7_daysToReminder_51 rfl rfl ?_
        refine a_get C dX7_daysToReminder_52 fl_X7_22 xM_0 rfl ?_
        refine a_iload_n (i := 1) C dX7_daysToReminder_55 rfl rfl ?_
        refine a_ialdV C (nI k) dX7_daysToReminder_56 xM_10 ⟨by omega, by omega⟩ hk ?_
        refine a_ialdI C dX7_daysToReminder_57 xM_9 ⟨by omega, by omega⟩ ?_
        refine a_iload_n (i := 2) C dX7_daysToReminder_58 rfl rfl ?_
        refine a_icmp_le (tgt := 76) C dX7_daysToReminder_59 (by decide) (fun c59 => ?_) (fun c59 => ?_)
        · refine a_iload_n (i := 2) C dX7_daysToReminder_76 rfl rfl ?_
          refine a_istore_n (i := 2) C dX7_daysToReminder_77 rfl (by decide) ?_
          refine a_iload_n (i := 2) C dX7_daysToReminder_78 rfl rfl ?_
          refine a_aload_n (i := 0) C dX7_daysToReminder_79 rfl rfl ?_
          refine a_get C dX7_daysToReminder_80 fl_X7_112 xM_0 rfl ?_
          refine a_isub C dX7_daysToReminder_83 ?_
          refine a_aload_n (i := 0) C dX7_daysToReminder_84 rfl rfl ?_
          refine a_get C dX7_daysToReminder_85 fl_X7_45 xM_0 rfl ?_
          refine a_iload_n (i := 1) C dX7_daysToReminder_88 rfl rfl ?_
          refine a_ialdI C dX7_daysToReminder_89 xM_17 ⟨by omega, by omega⟩ ?_
          refine a_callS C dX7_daysToReminder_90 cs_X7_patience tb1085 (m_X7_patience hflags) rfl rfl (Nat.le_of_ble_eq_true rfl) ⟨Nat.le_of_ble_eq_true rfl, Nat.le_of_ble_eq_true rfl⟩ ⟨Nat.le_of_ble_eq_true rfl, Nat.le_of_ble_eq_true rfl⟩ (fun _ h => h.elim) xav_no (fun _ _ h => h.elim) (fun r90 hp90 hq90 => ?_)
          obtain ⟨rfl, rfl⟩ := hq90
          refine a_iadd C dX7_daysToReminder_93 ?_
          refine a_aload_n (i := 0) C dX7_daysToReminder_94 rfl rfl ?_
          refine a_get C dX7_daysToReminder_95 fl_X7_48 xM_0 rfl ?_
          refine a_iload_n (i := 1) C dX7_daysToReminder_98 rfl rfl ?_
          refine a_ialdI C dX7_daysToReminder_99 xM_18 ⟨by omega, by omega⟩ ?_
          refine a_isub C dX7_daysToReminder_100 ?_
          exact a_iret C dX7_daysToReminder_101 (Nat.le_of_ble_eq_true rfl) (Nat.le_of_ble_eq_true rfl) (hret _ _ (by first | (rw [bI_t (bNn c5)]; exact mP_rf (bNn c5)) | (refine mP_rt e5 ?_; rw [nI_clamp (by omega)]; unfold xdr; first | (rw [if_pos (c := ¬ (f 17 i < 4 ∧ 0 < f 13 i ∧ f 14 i = 0)) e9]; done) | (rw [if_neg (c := ¬ (f 17 i < 4 ∧ 0 < f 13 i ∧ f 14 i = 0)) (fun z => z e9), xow_eq hk (by omega)]; first | (rw [if_pos (show n 1 < f 12 i from Int32.not_le.mp c30)]; first | (rw [if_pos (show f 12 i < f 9 k from Int32.not_le.mp c59)]; rfl) | (rw [if_neg (show ¬ f 12 i < f 9 k from Int32.not_lt.mpr c59)]; rfl)) | (rw [if_neg (show ¬ n 1 < f 12 i from Int32.not_lt.mpr c30)]; first | (rw [if_pos (show n 1 < f 9 k from Int32.not_le.mp c59)]; rfl) | (rw [if_neg (show ¬ n 1 < f 9 k from Int32.not_lt.mpr c59)]; rfl))))))
        · refine a_aload_n (i := 0) C dX7_daysToReminder_62 rfl rfl ?_
          refine a_get C dX7_daysToReminder_63 fl_X7_19 xM_0 rfl ?_
          refine a_aload_n (i := 0) C dX7_daysToReminder_66 rfl rfl ?_
          refine a_get C dX7_daysToReminder_67 fl_X7_22 xM_0 rfl ?_
          refine a_iload_n (i := 1) C dX7_daysToReminder_70 rfl rfl ?_
          refine a_ialdV C (nI k) dX7_daysToReminder_71 xM_10 ⟨by omega, by omega⟩ hk ?_
          refine a_ialdI C dX7_daysToReminder_72 xM_9 ⟨by omega, by omega⟩ ?_
          refine a_goto (tgt := 77) C dX7_daysToReminder_73 (by decide) ?_
          refine a_istore_n (i := 2) C dX7_daysToReminder_77 rfl (by decide) ?_
          refine a_iload_n (i := 2) C dX7_daysToReminder_78 rfl rfl ?_
          refine a_aload_n (i := 0) C dX7_daysToReminder_79 rfl rfl ?_
          refine a_get C dX7_daysToReminder_80 fl_X7_112 xM_0 rfl ?_
          refine a_isub C dX7_daysToReminder_83 ?_
          refine a_aload_n (i := 0) C dX7_daysToReminder_84 rfl rfl ?_
          refine a_get C dX7_daysToReminder_85 fl_X7_45 xM_0 rfl ?_
          refine a_iload_n (i := 1) C dX7_daysToReminder_88 rfl rfl ?_
          refine a_ialdI C dX7_daysToReminder_89 xM_17 ⟨by omega, by omega⟩ ?_
          refine a_callS C dX7_daysToReminder_90 cs_X7_patience tb1085 (m_X7_patience hflags) rfl rfl (Nat.le_of_ble_eq_true rfl) ⟨Nat.le_of_ble_eq_true rfl, Nat.le_of_ble_eq_true rfl⟩ ⟨Nat.le_of_ble_eq_true rfl, Nat.le_of_ble_eq_true rfl⟩ (fun _ h => h.elim) xav_no (fun _ _ h => h.elim) (fun r90 hp90 hq90 => ?_)
          obtain ⟨rfl, rfl⟩ := hq90
          refine a_iadd C dX7_daysToReminder_93 ?_
          refine a_aload_n (i := 0) C dX7_daysToReminder_94 rfl rfl ?_
          refine a_get C dX7_daysToReminder_95 fl_X7_48 xM_0 rfl ?_
          refine a_iload_n (i := 1) C dX7_daysToReminder_98 rfl rfl ?_
          refine a_ialdI C dX7_daysToReminder_99 xM_18 ⟨by omega, by omega⟩ ?_
          refine a_isub C dX7_daysToReminder_100 ?_
          exact a_iret C dX7_daysToReminder_101 (Nat.le_of_ble_eq_true rfl) (Nat.le_of_ble_eq_true rfl) (hret _ _ (by first | (rw [bI_t (bNn c5)]; exact mP_rf (bNn c5)) | (refine mP_rt e5 ?_; rw [nI_clamp (by omega)]; unfold xdr; first | (rw [if_pos (c := ¬ (f 17 i < 4 ∧ 0 < f 13 i ∧ f 14 i = 0)) e9]; done) | (rw [if_neg (c := ¬ (f 17 i < 4 ∧ 0 < f 13 i ∧ f 14 i = 0)) (fun z => z e9), xow_eq hk (by omega)]; first | (rw [if_pos (show n 1 < f 12 i from Int32.not_le.mp c30)]; first | (rw [if_pos (show f 12 i < f 9 k from Int32.not_le.mp c59)]; rfl) | (rw [if_neg (show ¬ f 12 i < f 9 k from Int32.not_lt.mpr c59)]; rfl)) | (rw [if_neg (show ¬ n 1 < f 12 i from Int32.not_lt.mpr c30)]; first | (rw [if_pos (show n 1 < f 9 k from Int32.not_le.mp c59)]; rfl) | (rw [if_neg (show ¬ n 1 < f 9 k from Int32.not_lt.mpr c59)]; rfl))))))
      · refine a_aload_n (i := 0) C dX7_daysToReminder_33 rfl rfl ?_
        refine a_get C dX7_daysToReminder_34 fl_X7_28 xM_0 rfl ?_
        refine a_iload_n (i := 1) C dX7_daysToReminder_37 rfl rfl ?_
        refine a_ialdI C dX7_daysToReminder_38 xM_12 ⟨by omega, by omega⟩ ?_
        refine a_goto (tgt := 46) C dX7_daysToReminder_39 (by decide) ?_
        refine a_istore_n (i := 2) C dX7_daysToReminder_46 rfl (by decide) ?_
        refine a_aload_n (i := 0) C dX7_daysToReminder_47 rfl rfl ?_
        refine a_get C dX7_daysToReminder_48 fl_X7_19 xM_0 rfl ?_
        refine a_aload_n (i := 0) C dX7_daysToReminder_51 rfl rfl ?_
        refine a_get C dX7_daysToReminder_52 fl_X7_22 xM_0 rfl ?_
        refine a_iload_n (i := 1) C dX7_daysToReminder_55 rfl rfl ?_
        refine a_ialdV C (nI k) dX7_daysToReminder_56 xM_10 ⟨by omega, by omega⟩ hk ?_
        refine a_ialdI C dX7_daysToReminder_57 xM_9 ⟨by omega, by omega⟩ ?_
        refine a_iload_n (i := 2) C dX7_daysToReminder_58 rfl rfl ?_
        refine a_icmp_le (tgt := 76) C dX7_daysToReminder_59 (by decide) (fun c59 => ?_) (fun c59 => ?_)
        · refine a_iload_n (i := 2) C dX7_daysToReminder_76 rfl rfl ?_
          refine a_istore_n (i := 2) C dX7_daysToReminder_77 rfl (by decide) ?_
          refine a_iload_n (i := 2) C dX7_daysToReminder_78 rfl rfl ?_
          refine a_aload_n (i := 0) C dX7_daysToReminder_79 rfl rfl ?_
          refine a_get C dX7_daysToReminder_80 fl_X7_112 xM_0 rfl ?_
          refine a_isub C dX7_daysToReminder_83 ?_
          refine a_aload_n (i := 0) C dX7_daysToReminder_84 rfl rfl ?_
          refine a_get C dX7_daysToReminder_85 fl_X7_45 xM_0 rfl ?_
          refine a_iload_n (i := 1) C dX7_daysToReminder_88 rfl rfl ?_
          refine a_ialdI C dX7_daysToReminder_89 xM_17 ⟨by omega, by omega⟩ ?_
          refine a_callS C dX7_daysToReminder_90 cs_X7_patience tb1085 (m_X7_patience hflags) rfl rfl (Nat.le_of_ble_eq_true rfl) ⟨Nat.le_of_ble_eq_true rfl, Nat.le_of_ble_eq_true rfl⟩ ⟨Nat.le_of_ble_eq_true rfl, Nat.le_of_ble_eq_true rfl⟩ (fun _ h => h.elim) xav_no (fun _ _ h => h.elim) (fun r90 hp90 hq90 => ?_)
          obtain ⟨rfl, rfl⟩ := hq90
          refine a_iadd C dX7_daysToReminder_93 ?_
          refine a_aload_n (i := 0) C dX7_daysToReminder_94 rfl rfl ?_
          refine a_get C dX7_daysToReminder_95 fl_X7_48 xM_0 rfl ?_
          refine a_iload_n (i := 1) C dX7_daysToReminder_98 rfl rfl ?_
          refine a_ialdI C dX7_daysToReminder_99 xM_18 ⟨by omega, by omega⟩ ?_
          refine a_isub C dX7_daysToReminder_100 ?_
          exact a_iret C dX7_daysToReminder_101 (Nat.le_of_ble_eq_true rfl) (Nat.le_of_ble_eq_true rfl) (hret _ _ (by first | (rw [bI_t (bNn c5)]; exact mP_rf (bNn c5)) | (refine mP_rt e5 ?_; rw [nI_clamp (by omega)]; unfold xdr; first | (rw [if_pos (c := ¬ (f 17 i < 4 ∧ 0 < f 13 i ∧ f 14 i = 0)) e9]; done) | (rw [if_neg (c := ¬ (f 17 i < 4 ∧ 0 < f 13 i ∧ f 14 i = 0)) (fun z => z e9), xow_eq hk (by omega)]; first | (rw [if_pos (show n 1 < f 12 i from Int32.not_le.mp c30)]; first | (rw [if_pos (show f 12 i < f 9 k from Int32.not_le.mp c59)]; rfl) | (rw [if_neg (show ¬ f 12 i < f 9 k from Int32.not_lt.mpr c59)]; rfl)) | (rw [if_neg (show ¬ n 1 < f 12 i from Int32.not_lt.mpr c30)]; first | (rw [if_pos (show n 1 < f 9 k from Int32.not_le.mp c59)]; rfl) | (rw [if_neg (show ¬ n 1 < f 9 k from Int32.not_lt.mpr c59)]; rfl))))))
        · refine a_aload_n (i := 0) C dX7_daysToReminder_62 rfl rfl ?_
          refine a_get C dX7_daysToReminder_63 fl_X7_19 xM_0 rfl ?_
          refine a_aload_n (i := 0) C dX7_daysToReminder_66 rfl rfl ?_
          refine a_get C dX7_daysToReminder_67 fl_X7_22 xM_0 rfl ?_
          refine a_iload_n (i := 1) C dX7_daysToReminder_70 rfl rfl ?_
          refine a_ialdV C (nI k) dX7_daysToReminder_71 xM_10 ⟨by omega, by omega⟩ hk ?_
          refine a_ialdI C dX7_daysToReminder_72 xM_9 ⟨by omega, by omega⟩ ?_
          refine a_goto (tgt := 77) C dX7_daysToReminder_73 (by decide) ?_
          refine a_istore_n (i := 2) C dX7_daysToReminder_77 rfl (by decide) ?_
          refine a_iload_n (i := 2) C dX7_daysToReminder_78 rfl rfl ?_
          refine a_aload_n (i := 0) C dX7_daysToReminder_79 rfl rfl ?_
          refine a_get C dX7_daysToReminder_80 fl_X7_112 xM_0 rfl ?_
          refine a_isub C dX7_daysToReminder_83 ?_
          refine a_aload_n (i := 0) C dX7_daysToReminder_84 rfl rfl ?_
          refine a_get C dX7_daysToReminder_85 fl_X7_45 xM_0 rfl ?_
          refine a_iload_n (i := 1) C dX7_daysToReminder_88 rfl rfl ?_
          refine a_ialdI C dX7_daysToReminder_89 xM_17 ⟨by omega, by omega⟩ ?_
          refine a_callS C dX7_daysToReminder_90 cs_X7_patience tb1085 (m_X7_patience hflags) rfl rfl (Nat.le_of_ble_eq_true rfl) ⟨Nat.le_of_ble_eq_true rfl, Nat.le_of_ble_eq_true rfl⟩ ⟨Nat.le_of_ble_eq_true rfl, Nat.le_of_ble_eq_true rfl⟩ (fun _ h => h.elim) xav_no (fun _ _ h => h.elim) (fun r90 hp90 hq90 => ?_)
          obtain ⟨rfl, rfl⟩ := hq90
          refine a_iadd C dX7_daysToReminder_93 ?_
          refine a_aload_n (i := 0) C dX7_daysToReminder_94 rfl rfl ?_
          refine a_get C dX7_daysToReminder_95 fl_X7_48 xM_0 rfl ?_
          refine a_iload_n (i := 1) C dX7_daysToReminder_98 rfl rfl ?_
          refine a_ialdI C dX7_daysToReminder_99 xM_18 ⟨by omega, by omega⟩ ?_
          refine a_isub C dX7_daysToReminder_100 ?_
          exact a_iret C dX7_daysToReminder_101 (Nat.le_of_ble_eq_true rfl) (Nat.le_of_ble_eq_true rfl) (hret _ _ (by first | (rw [bI_t (bNn c5)]; exact mP_rf (bNn c5)) | (refine mP_rt e5 ?_; rw [nI_clamp (by omega)]; unfold xdr; first | (rw [if_pos (c := ¬ (f 17 i < 4 ∧ 0 < f 13 i ∧ f 14 i = 0)) e9]; done) | (rw [if_neg (c := ¬ (f 17 i < 4 ∧ 0 < f 13 i ∧ f 14 i = 0)) (fun z => z e9), xow_eq hk (by omega)]; first | (rw [if_pos (show n 1 < f 12 i from Int32.not_le.mp c30)]; first | (rw [if_pos (show f 12 i < f 9 k from Int32.not_le.mp c59)]; rfl) | (rw [if_neg (show ¬ f 12 i < f 9 k from Int32.not_lt.mpr c59)]; rfl)) | (rw [if_neg (show ¬ n 1 < f 12 i from Int32.not_lt.mpr c30)]; first | (rw [if_pos (show n 1 < f 9 k from Int32.not_le.mp c59)]; rfl) | (rw [if_neg (show ¬ n 1 < f 9 k from Int32.not_lt.mpr c59)]; rfl))))))
    · have e9 := b0 c15
      refine a_iconst (v := (-1)) C dX7_daysToReminder_18 (by decide) ?_
      exact a_iret C dX7_daysToReminder_19 (Nat.le_of_ble_eq_true rfl) (Nat.le_of_ble_eq_true rfl) (hret _ _ (by first | (rw [bI_t (bNn c5)]; exact mP_rf (bNn c5)) | (refine mP_rt e5 ?_; rw [nI_clamp (by omega)]; unfold xdr; first | (rw [if_pos (c := ¬ (f 17 i < 4 ∧ 0 < f 13 i ∧ f 14 i = 0)) e9]; done) | (rw [if_neg (c := ¬ (f 17 i < 4 ∧ 0 < f 13 i ∧ f 14 i = 0)) (fun z => z e9), xow_eq hk (by omega)]; first | (rw [if_pos (show n 1 < f 12 i from Int32.not_le.mp c30)]; first | (rw [if_pos (show f 12 i < f 9 k from Int32.not_le.mp c59)]; rfl) | (rw [if_neg (show ¬ f 12 i < f 9 k from Int32.not_lt.mpr c59)]; rfl)) | (rw [if_neg (show ¬ n 1 < f 12 i from Int32.not_lt.mpr c30)]; first | (rw [if_pos (show n 1 < f 9 k from Int32.not_le.mp c59)]; rfl) | (rw [if_neg (show ¬ n 1 < f 9 k from Int32.not_lt.mpr c59)]; rfl))))))
  · refine a_iconst (v := 0) C dX7_daysToReminder_8 (by decide) ?_
    exact a_iret C dX7_daysToReminder_9 (Nat.le_of_ble_eq_true rfl) (Nat.le_of_ble_eq_true rfl) (hret _ _ (by first | (rw [bI_t (bNn c5)]; exact mP_rf (bNn c5)) | (refine mP_rt e5 ?_; rw [nI_clamp (by omega)]; unfold xdr; first | (rw [if_pos (c := ¬ (f 17 i < 4 ∧ 0 < f 13 i ∧ f 14 i = 0)) e9]; done) | (rw [if_neg (c := ¬ (f 17 i < 4 ∧ 0 < f 13 i ∧ f 14 i = 0)) (fun z => z e9), xow_eq hk (by omega)]; first | (rw [if_pos (show n 1 < f 12 i from Int32.not_le.mp c30)]; first | (rw [if_pos (show f 12 i < f 9 k from Int32.not_le.mp c59)]; rfl) | (rw [if_neg (show ¬ f 12 i < f 9 k from Int32.not_lt.mpr c59)]; rfl)) | (rw [if_neg (show ¬ n 1 < f 12 i from Int32.not_lt.mpr c30)]; first | (rw [if_pos (show n 1 < f 9 k from Int32.not_le.mp c59)]; rfl) | (rw [if_neg (show ¬ n 1 < f 9 k from Int32.not_lt.mpr c59)]; rfl))))))
