/-! the class's calls -/
def cP (h : xH) (nc ni np nl : Nat) (o : Int32 × mS) : Option Value → xH → Prop := fun r h' => o.2.1 0 = 0 ∧ r = some (.int o.1) ∧ ∃ jc jr, h' = xC h nc ni np nl (o.2.1 1) o.2.2.1 o.2.2.2 jc jr
def cX (hp : xH) (L : List (String × Int32)) (o : Int32 × mS) : String → xH → Prop := fun u h' => h' = hp ∧ (u, o.2.1 0) ∈ L
theorem cP_rt {p : Prop} [Decidable p] {v w : Int32} {h : xH} {nc ni np nl : Nat} {n : Nat → Int32} {f : Nat → Nat → Int32} {g : Nat → Nat → Int64} {jc : Nat → Nat → Int32} {jr : Nat → Int64} (hp : p) (e : w = v) : cP h nc ni np nl (oRd p v n f g) (some (.int w)) (xC h nc ni np nl (n 1) f g jc jr) := by
  unfold cP oRd
  rw [if_pos hp, e]
  exact ⟨rfl, rfl, jc, jr, rfl⟩
theorem cX_rf {p : Prop} [Decidable p] {v : Int32} {n : Nat → Int32} {f : Nat → Nat → Int32} {g : Nat → Nat → Int64} {H : xH} (hp : ¬ p) {L : List (String × Int32)} {u : String} (hu : (u, (1 : Int32)) ∈ L) : cX H L (oRd p v n f g) u H := by
  unfold cX oRd
  rw [if_neg hp]
  exact ⟨rfl, hu⟩
set_option maxRecDepth 100000 in
set_option maxHeartbeats 4000000 in
theorem m_X6_customerAt {l : Launch} {N0 : Nat} {D : va_G} {dT : Nat → ClassId} (hflags : l.stackTraces = false) {h : xH} {nc ni np nl : Nat} {n : Nat → Int32} {f : Nat → Nat → Int32} {g : Nat → Nat → Int64} {jc : Nat → Nat → Int32} {jr : Nat → Int64} (hB : nc ≤ 6 ∧ ni ≤ 24 ∧ np ≤ 24 ∧ nl ≤ 16000) {w : Int32}  : xMet l N0 D dT yX6_customerAt cX6_customerAt 2 (some (FieldType.object "ReceivablesBook$Customer")) 8 1 6 [.ref 0, .int w] (xC h nc ni np nl (n 1) f g jc jr) xNo (fun r h' => ∃ j, j < nc ∧ w = nI j ∧ r = some (.ref (16 + j)) ∧ h' = xC h nc ni np nl (n 1) f g jc jr) (fun u h' => u = "java/lang/IndexOutOfBoundsException" ∧ h' = xC h nc ni np nl (n 1) f g jc jr ∧ ¬ xin w nc) := by
  refine xMet_of hflags (by decide +kernel) (fun _ _ h => h) (Nat.le_of_ble_eq_true rfl) ?_
  intro E C I hret hthr
  refine a_loc [(0, .ref 0), (1, .int w)] (xsub_cons rfl (xsub_cons rfl (xsub_nil))) ?_
  obtain ⟨hc6, hi24, hp24, hl16⟩ := id hB
  refine a_iload_n (i := 1) C dX6_customerAt_0 rfl rfl ?_
  refine a_aload_n (i := 0) C dX6_customerAt_1 rfl rfl ?_
  refine a_get C dX6_customerAt_2 fl_X6_10 xC_0 rfl ?_
  refine a_callV C dX6_customerAt_5 cv_Jx4a65c_size_8abf5 tb142 (m_Jx4a65c_size_8abf5 hflags xC_1) rfl rfl xC_1 rfl (Nat.le_of_ble_eq_true rfl) ⟨Nat.le_of_ble_eq_true rfl, Nat.le_of_ble_eq_true rfl⟩ ⟨Nat.le_of_ble_eq_true rfl, Nat.le_of_ble_eq_true rfl⟩ (fun _ h => h.elim) xav_no (fun _ _ h => h.elim) (fun r5 hp5 hq5 => ?_)
  obtain ⟨rfl, rfl⟩ := hq5
  refine a_callS C dX6_customerAt_8 cs_X6_requireIndex tb353 (m_X6_requireIndex hflags (by omega)) rfl rfl (Nat.le_of_ble_eq_true rfl) ⟨Nat.le_of_ble_eq_true rfl, Nat.le_of_ble_eq_true rfl⟩ ⟨Nat.le_of_ble_eq_true rfl, Nat.le_of_ble_eq_true rfl⟩ (fun _ h => h.elim) xav_no (fun _ _ ⟨e1, e2, e3⟩ => by subst e1; subst e2; exact a_out C (fun _ h => nomatch h) (hthr _ _ ⟨rfl, rfl, e3⟩) (Nat.le_of_ble_eq_true rfl) (Nat.le_of_ble_eq_true rfl)) (fun r8 hp8 hq8 => ?_)
  obtain ⟨rfl, rfl, hx⟩ := hq8
  obtain ⟨j, hj, rfl⟩ := xin_nI hx (by omega)
  refine a_aload_n (i := 0) C dX6_customerAt_11 rfl rfl ?_
  refine a_get C dX6_customerAt_12 fl_X6_10 xC_0 rfl ?_
  refine a_iload_n (i := 1) C dX6_customerAt_15 rfl rfl ?_
  refine a_callV C dX6_customerAt_16 cv_Jx4a65c_get_915e3 tb372 (m_Jx4a65c_get_915e3 hflags xC_1 (xC_l1 (by omega)) (by omega) (aCap_ge (by omega)) (Nat.lt_of_le_of_lt (aCap_le _) (by decide)) (xLr_lt (by omega))) rfl rfl xC_1 rfl (Nat.le_of_ble_eq_true rfl) ⟨Nat.le_of_ble_eq_true rfl, Nat.le_of_ble_eq_true rfl⟩ ⟨Nat.le_of_ble_eq_true rfl, Nat.le_of_ble_eq_true rfl⟩ (fun _ h => h.elim) xav_no (fun _ _ h => h.elim) (fun r16 hp16 hq16 => ?_)
  obtain ⟨rfl, rfl⟩ := hq16
  refine a_castS C dX6_customerAt_19 tb258 (xC_cu (by omega) (by omega)) rfl rfl ?_
  exact a_aret C dX6_customerAt_22 (by first | exact Or.inl ⟨_, rfl⟩ | exact Or.inr ⟨_, rfl⟩) (Nat.le_of_ble_eq_true rfl) (Nat.le_of_ble_eq_true rfl) (hret _ _ ⟨j, hj, rfl, rfl, rfl⟩)
set_option maxRecDepth 100000 in
set_option maxHeartbeats 4000000 in
theorem m_X6_invoiceAt {l : Launch} {N0 : Nat} {D : va_G} {dT : Nat → ClassId} (hflags : l.stackTraces = false) {h : xH} {nc ni np nl : Nat} {n : Nat → Int32} {f : Nat → Nat → Int32} {g : Nat → Nat → Int64} {jc : Nat → Nat → Int32} {jr : Nat → Int64} (hB : nc ≤ 6 ∧ ni ≤ 24 ∧ np ≤ 24 ∧ nl ≤ 16000) {w : Int32}  : xMet l N0 D dT yX6_invoiceAt cX6_invoiceAt 2 (some (FieldType.object "ReceivablesBook$Invoice")) 8 1 6 [.ref 0, .int w] (xC h nc ni np nl (n 1) f g jc jr) xNo (fun r h' => ∃ j, j < ni ∧ w = nI j ∧ r = some (.ref (32 + j)) ∧ h' = xC h nc ni np nl (n 1) f g jc jr) (fun u h' => u = "java/lang/IndexOutOfBoundsException" ∧ h' = xC h nc ni np nl (n 1) f g jc jr ∧ ¬ xin w ni) := by
  refine xMet_of hflags (by decide +kernel) (fun _ _ h => h) (Nat.le_of_ble_eq_true rfl) ?_
  intro E C I hret hthr
  refine a_loc [(0, .ref 0), (1, .int w)] (xsub_cons rfl (xsub_cons rfl (xsub_nil))) ?_
  obtain ⟨hc6, hi24, hp24, hl16⟩ := id hB
  refine a_iload_n (i := 1) C dX6_invoiceAt_0 rfl rfl ?_
  refine a_aload_n (i := 0) C dX6_invoiceAt_1 rfl rfl ?_
  refine a_get C dX6_invoiceAt_2 fl_X6_16 xC_0 rfl ?_
  refine a_callV C dX6_invoiceAt_5 cv_Jx4a65c_size_8abf5 tb142 (m_Jx4a65c_size_8abf5 hflags xC_2) rfl rfl xC_2 rfl (Nat.le_of_ble_eq_true rfl) ⟨Nat.le_of_ble_eq_true rfl, Nat.le_of_ble_eq_true rfl⟩ ⟨Nat.le_of_ble_eq_true rfl, Nat.le_of_ble_eq_true rfl⟩ (fun _ h => h.elim) xav_no (fun _ _ h => h.elim) (fun r5 hp5 hq5 => ?_)
  obtain ⟨rfl, rfl⟩ := hq5
  refine a_callS C dX6_invoiceAt_8 cs_X6_requireIndex tb353 (m_X6_requireIndex hflags (by omega)) rfl rfl (Nat.le_of_ble_eq_true rfl) ⟨Nat.le_of_ble_eq_true rfl, Nat.le_of_ble_eq_true rfl⟩ ⟨Nat.le_of_ble_eq_true rfl, Nat.le_of_ble_eq_true rfl⟩ (fun _ h => h.elim) xav_no (fun _ _ ⟨e1, e2, e3⟩ => by subst e1; subst e2; exact a_out C (fun _ h => nomatch h) (hthr _ _ ⟨rfl, rfl, e3⟩) (Nat.le_of_ble_eq_true rfl) (Nat.le_of_ble_eq_true rfl)) (fun r8 hp8 hq8 => ?_)
  obtain ⟨rfl, rfl, hx⟩ := hq8
  obtain ⟨j, hj, rfl⟩ := xin_nI hx (by omega)
  refine a_aload_n (i := 0) C dX6_invoiceAt_11 rfl rfl ?_
  refine a_get C dX6_invoiceAt_12 fl_X6_16 xC_0 rfl ?_
  refine a_iload_n (i := 1) C dX6_invoiceAt_15 rfl rfl ?_
  refine a_callV C dX6_invoiceAt_16 cv_Jx4a65c_get_915e3 tb372 (m_Jx4a65c_get_915e3 hflags xC_2 (xC_l2 (by omega)) (by omega) (aCap_ge (by omega)) (Nat.lt_of_le_of_lt (aCap_le _) (by decide)) (xLr_lt (by omega))) rfl rfl xC_2 rfl (Nat.le_of_ble_eq_true rfl) ⟨Nat.le_of_ble_eq_true rfl, Nat.le_of_ble_eq_true rfl⟩ ⟨Nat.le_of_ble_eq_true rfl, Nat.le_of_ble_eq_true rfl⟩ (fun _ h => h.elim) xav_no (fun _ _ h => h.elim) (fun r16 hp16 hq16 => ?_)
  obtain ⟨rfl, rfl⟩ := hq16
  refine a_castS C dX6_invoiceAt_19 tb409 (xC_in (by omega) (by omega)) rfl rfl ?_
  exact a_aret C dX6_invoiceAt_22 (by first | exact Or.inl ⟨_, rfl⟩ | exact Or.inr ⟨_, rfl⟩) (Nat.le_of_ble_eq_true rfl) (Nat.le_of_ble_eq_true rfl) (hret _ _ ⟨j, hj, rfl, rfl, rfl⟩)
set_option maxRecDepth 100000 in
set_option maxHeartbeats 4000000 in
theorem m_X6_paymentAt {l : Launch} {N0 : Nat} {D : va_G} {dT : Nat → ClassId} (hflags : l.stackTraces = false) {h : xH} {nc ni np nl : Nat} {n : Nat → Int32} {f : Nat → Nat → Int32} {g : Nat → Nat → Int64} {jc : Nat → Nat → Int32} {jr : Nat → Int64} (hB : nc ≤ 6 ∧ ni ≤ 24 ∧ np ≤ 24 ∧ nl ≤ 16000) {w : Int32}  : xMet l N0 D dT yX6_paymentAt cX6_paymentAt 2 (some (FieldType.object "ReceivablesBook$Payment")) 8 1 6 [.ref 0, .int w] (xC h nc ni np nl (n 1) f g jc jr) xNo (fun r h' => ∃ j, j < np ∧ w = nI j ∧ r = some (.ref (64 + j)) ∧ h' = xC h nc ni np nl (n 1) f g jc jr) (fun u h' => u = "java/lang/IndexOutOfBoundsException" ∧ h' = xC h nc ni np nl (n 1) f g jc jr ∧ ¬ xin w np) := by
  refine xMet_of hflags (by decide +kernel) (fun _ _ h => h) (Nat.le_of_ble_eq_true rfl) ?_
  intro E C I hret hthr
  refine a_loc [(0, .ref 0), (1, .int w)] (xsub_cons rfl (xsub_cons rfl (xsub_nil))) ?_
  obtain ⟨hc6, hi24, hp24, hl16⟩ := id hB
  refine a_iload_n (i := 1) C dX6_paymentAt_0 rfl rfl ?_
  refine a_aload_n (i := 0) C dX6_paymentAt_1 rfl rfl ?_
  refine a_get C dX6_paymentAt_2 fl_X6_19 xC_0 rfl ?_
  refine a_callV C dX6_paymentAt_5 cv_Jx4a65c_size_8abf5 tb142 (m_Jx4a65c_size_8abf5 hflags xC_3) rfl rfl xC_3 rfl (Nat.le_of_ble_eq_true rfl) ⟨Nat.le_of_ble_eq_true rfl, Nat.le_of_ble_eq_true rfl⟩ ⟨Nat.le_of_ble_eq_true rfl, Nat.le_of_ble_eq_true rfl⟩ (fun _ h => h.elim) xav_no (fun _ _ h => h.elim) (fun r5 hp5 hq5 => ?_)
  obtain ⟨rfl, rfl⟩ := hq5
  refine a_callS C dX6_paymentAt_8 cs_X6_requireIndex tb353 (m_X6_requireIndex hflags (by omega)) rfl rfl (Nat.le_of_ble_eq_true rfl) ⟨Nat.le_of_ble_eq_true rfl, Nat.le_of_ble_eq_true rfl⟩ ⟨Nat.le_of_ble_eq_true rfl, Nat.le_of_ble_eq_true rfl⟩ (fun _ h => h.elim) xav_no (fun _ _ ⟨e1, e2, e3⟩ => by subst e1; subst e2; exact a_out C (fun _ h => nomatch h) (hthr _ _ ⟨rfl, rfl, e3⟩) (Nat.le_of_ble_eq_true rfl) (Nat.le_of_ble_eq_true rfl)) (fun r8 hp8 hq8 => ?_)
  obtain ⟨rfl, rfl, hx⟩ := hq8
  obtain ⟨j, hj, rfl⟩ := xin_nI hx (by omega)
  refine a_aload_n (i := 0) C dX6_paymentAt_11 rfl rfl ?_
  refine a_get C dX6_paymentAt_12 fl_X6_19 xC_0 rfl ?_
  refine a_iload_n (i := 1) C dX6_paymentAt_15 rfl rfl ?_
  refine a_callV C dX6_paymentAt_16 cv_Jx4a65c_get_915e3 tb372 (m_Jx4a65c_get_915e3 hflags xC_3 (xC_l3 (by omega)) (by omega) (aCap_ge (by omega)) (Nat.lt_of_le_of_lt (aCap_le _) (by decide)) (xLr_lt (by omega))) rfl rfl xC_3 rfl (Nat.le_of_ble_eq_true rfl) ⟨Nat.le_of_ble_eq_true rfl, Nat.le_of_ble_eq_true rfl⟩ ⟨Nat.le_of_ble_eq_true rfl, Nat.le_of_ble_eq_true rfl⟩ (fun _ h => h.elim) xav_no (fun _ _ h => h.elim) (fun r16 hp16 hq16 => ?_)
  obtain ⟨rfl, rfl⟩ := hq16
  refine a_castS C dX6_paymentAt_19 tb534 (xC_pa (by omega) (by omega)) rfl rfl ?_
  exact a_aret C dX6_paymentAt_22 (by first | exact Or.inl ⟨_, rfl⟩ | exact Or.inr ⟨_, rfl⟩) (Nat.le_of_ble_eq_true rfl) (Nat.le_of_ble_eq_true rfl) (hret _ _ ⟨j, hj, rfl, rfl, rfl⟩)
set_option maxRecDepth 100000 in
set_option maxHeartbeats 4000000 in
theorem m_X6_amountOf {l : Launch} {N0 : Nat} {D : va_G} {dT : Nat → ClassId} (hflags : l.stackTraces = false) {h : xH} {nc ni np nl : Nat} {n : Nat → Int32} {f : Nat → Nat → Int32} {g : Nat → Nat → Int64} {jc : Nat → Nat → Int32} {jr : Nat → Int64} (hB : nc ≤ 6 ∧ ni ≤ 24 ∧ np ≤ 24 ∧ nl ≤ 16000) {w : Int32}   : xMet l N0 D dT yX6_amountOf cX6_amountOf 2 (some FieldType.int) 9 1 6 [.ref 0, .int w] (xC h nc ni np nl (n 1) f g jc jr) xNo (cP h nc ni np nl (oRd (xin w ni) (f 11 w.toNatClampNeg) n f g)) (cX (xC h nc ni np nl (n 1) f g jc jr) [("java/lang/IndexOutOfBoundsException", (1 : Int32))] (oRd (xin w ni) (f 11 w.toNatClampNeg) n f g)) := by
  refine xMet_of hflags (by decide +kernel) (fun _ _ h => h) (Nat.le_of_ble_eq_true rfl) ?_
  intro E C I hret hthr
  refine a_loc [(0, .ref 0), (1, .int w)] (xsub_cons rfl (xsub_cons rfl (xsub_nil))) ?_
  obtain ⟨hc6, hi24, hp24, hl16⟩ := id hB
  refine a_aload_n (i := 0) C dX6_amountOf_0 rfl rfl ?_
  refine a_iload_n (i := 1) C dX6_amountOf_1 rfl rfl ?_
  refine a_callV C dX6_amountOf_2 cv_X6_invoiceAt tb535 (m_X6_invoiceAt hflags hB) rfl rfl xC_0 rfl (Nat.le_of_ble_eq_true rfl) ⟨Nat.le_of_ble_eq_true rfl, Nat.le_of_ble_eq_true rfl⟩ ⟨Nat.le_of_ble_eq_true rfl, Nat.le_of_ble_eq_true rfl⟩ (fun _ h => h.elim) xav_no (fun _ _ ⟨e1, e2, e3⟩ => by subst e1; subst e2; exact a_out C (fun _ h => nomatch h) (hthr _ _ (cX_rf e3 (by simp))) (Nat.le_of_ble_eq_true rfl) (Nat.le_of_ble_eq_true rfl)) (fun r2 hp2 hq2 => ?_)
  obtain ⟨j, hj, rfl, rfl, rfl⟩ := hq2
  refine a_get C dX6_amountOf_5 fl_X6_150 (xC_in (by omega) (by omega)) rfl ?_
  exact a_iret C dX6_amountOf_8 (Nat.le_of_ble_eq_true rfl) (Nat.le_of_ble_eq_true rfl) (hret _ _ (cP_rt (xin_of hj (by omega)) (by rw [nI_clamp (by omega)])))
set_option maxRecDepth 100000 in
set_option maxHeartbeats 4000000 in
theorem m_X6_dueDay {l : Launch} {N0 : Nat} {D : va_G} {dT : Nat → ClassId} (hflags : l.stackTraces = false) {h : xH} {nc ni np nl : Nat} {n : Nat → Int32} {f : Nat → Nat → Int32} {g : Nat → Nat → Int64} {jc : Nat → Nat → Int32} {jr : Nat → Int64} (hB : nc ≤ 6 ∧ ni ≤ 24 ∧ np ≤ 24 ∧ nl ≤ 16000) {w : Int32}   : xMet l N0 D dT yX6_dueDay cX6_dueDay 2 (some FieldType.int) 9 1 6 [.ref 0, .int w] (xC h nc ni np nl (n 1) f g jc jr) xNo (cP h nc ni np nl (oRd (xin w ni) (f 12 w.toNatClampNeg) n f g)) (cX (xC h nc ni np nl (n 1) f g jc jr) [("java/lang/IndexOutOfBoundsException", (1 : Int32))] (oRd (xin w ni) (f 12 w.toNatClampNeg) n f g)) := by
  refine xMet_of hflags (by decide +kernel) (fun _ _ h => h) (Nat.le_of_ble_eq_true rfl) ?_
  intro E C I hret hthr
  refine a_loc [(0, .ref 0), (1, .int w)] (xsub_cons rfl (xsub_cons rfl (xsub_nil))) ?_
  obtain ⟨hc6, hi24, hp24, hl16⟩ := id hB
  refine a_aload_n (i := 0) C dX6_dueDay_0 rfl rfl ?_
  refine a_iload_n (i := 1) C dX6_dueDay_1 rfl rfl ?_
  refine a_callV C dX6_dueDay_2 cv_X6_invoiceAt tb535 (m_X6_invoiceAt hflags hB) rfl rfl xC_0 rfl (Nat.le_of_ble_eq_true rfl) ⟨Nat.le_of_ble_eq_true rfl, Nat.le_of_ble_eq_true rfl⟩ ⟨Nat.le_of_ble_eq_true rfl, Nat.le_of_ble_eq_true rfl⟩ (fun _ h => h.elim) xav_no (fun _ _ ⟨e1, e2, e3⟩ => by subst e1; subst e2; exact a_out C (fun _ h => nomatch h) (hthr _ _ (cX_rf e3 (by simp))) (Nat.le_of_ble_eq_true rfl) (Nat.le_of_ble_eq_true rfl)) (fun r2 hp2 hq2 => ?_)
  obtain ⟨j, hj, rfl, rfl, rfl⟩ := hq2
  refine a_get C dX6_dueDay_5 fl_X6_186 (xC_in (by omega) (by omega)) rfl ?_
  exact a_iret C dX6_dueDay_8 (Nat.le_of_ble_eq_true rfl) (Nat.le_of_ble_eq_true rfl) (hret _ _ (cP_rt (xin_of hj (by omega)) (by rw [nI_clamp (by omega)])))
set_option maxRecDepth 100000 in
set_option maxHeartbeats 4000000 in
theorem m_X6_disputedOf {l : Launch} {N0 : Nat} {D : va_G} {dT : Nat → ClassId} (hflags : l.stackTraces = false) {h : xH} {nc ni np nl : Nat} {n : Nat → Int32} {f : Nat → Nat → Int32} {g : Nat → Nat → Int64} {jc : Nat → Nat → Int32} {jr : Nat → Int64} (hB : nc ≤ 6 ∧ ni ≤ 24 ∧ np ≤ 24 ∧ nl ≤ 16000) {w : Int32}   : xMet l N0 D dT yX6_disputedOf cX6_disputedOf 2 (some FieldType.int) 9 1 6 [.ref 0, .int w] (xC h nc ni np nl (n 1) f g jc jr) xNo (cP h nc ni np nl (oRd (xin w ni) (f 14 w.toNatClampNeg) n f g)) (cX (xC h nc ni np nl (n 1) f g jc jr) [("java/lang/IndexOutOfBoundsException", (1 : Int32))] (oRd (xin w ni) (f 14 w.toNatClampNeg) n f g)) := by
  refine xMet_of hflags (by decide +kernel) (fun _ _ h => h) (Nat.le_of_ble_eq_true rfl) ?_
  intro E C I hret hthr
  refine a_loc [(0, .ref 0), (1, .int w)] (xsub_cons rfl (xsub_cons rfl (xsub_nil))) ?_
  obtain ⟨hc6, hi24, hp24, hl16⟩ := id hB
  refine a_aload_n (i := 0) C dX6_disputedOf_0 rfl rfl ?_
  refine a_iload_n (i := 1) C dX6_disputedOf_1 rfl rfl ?_
  refine a_callV C dX6_disputedOf_2 cv_X6_invoiceAt tb535 (m_X6_invoiceAt hflags hB) rfl rfl xC_0 rfl (Nat.le_of_ble_eq_true rfl) ⟨Nat.le_of_ble_eq_true rfl, Nat.le_of_ble_eq_true rfl⟩ ⟨Nat.le_of_ble_eq_true rfl, Nat.le_of_ble_eq_true rfl⟩ (fun _ h => h.elim) xav_no (fun _ _ ⟨e1, e2, e3⟩ => by subst e1; subst e2; exact a_out C (fun _ h => nomatch h) (hthr _ _ (cX_rf e3 (by simp))) (Nat.le_of_ble_eq_true rfl) (Nat.le_of_ble_eq_true rfl)) (fun r2 hp2 hq2 => ?_)
  obtain ⟨j, hj, rfl, rfl, rfl⟩ := hq2
  refine a_get C dX6_disputedOf_5 fl_X6_205 (xC_in (by omega) (by omega)) rfl ?_
  exact a_iret C dX6_disputedOf_8 (Nat.le_of_ble_eq_true rfl) (Nat.le_of_ble_eq_true rfl) (hret _ _ (cP_rt (xin_of hj (by omega)) (by rw [nI_clamp (by omega)])))
set_option maxRecDepth 100000 in
set_option maxHeartbeats 4000000 in
theorem m_X6_levelOf {l : Launch} {N0 : Nat} {D : va_G} {dT : Nat → ClassId} (hflags : l.stackTraces = false) {h : xH} {nc ni np nl : Nat} {n : Nat → Int32} {f : Nat → Nat → Int32} {g : Nat → Nat → Int64} {jc : Nat → Nat → Int32} {jr : Nat → Int64} (hB : nc ≤ 6 ∧ ni ≤ 24 ∧ np ≤ 24 ∧ nl ≤ 16000) {w : Int32}   : xMet l N0 D dT yX6_levelOf cX6_levelOf 2 (some FieldType.int) 9 1 6 [.ref 0, .int w] (xC h nc ni np nl (n 1) f g jc jr) xNo (cP h nc ni np nl (oRd (xin w ni) (f 17 w.toNatClampNeg) n f g)) (cX (xC h nc ni np nl (n 1) f g jc jr) [("java/lang/IndexOutOfBoundsException", (1 : Int32))] (oRd (xin w ni) (f 17 w.toNatClampNeg) n f g)) := by
  refine xMet_of hflags (by decide +kernel) (fun _ _ h => h) (Nat.le_of_ble_eq_true rfl) ?_
  intro E C I hret hthr
  refine a_loc [(0, .ref 0), (1, .int w)] (xsub_cons rfl (xsub_cons rfl (xsub_nil))) ?_
  obtain ⟨hc6, hi24, hp24, hl16⟩ := id hB
  refine a_aload_n (i := 0) C dX6_levelOf_0 rfl rfl ?_
  refine a_iload_n (i := 1) C dX6_levelOf_1 rfl rfl ?_
  refine a_callV C dX6_levelOf_2 cv_X6_invoiceAt tb535 (m_X6_invoiceAt hflags hB) rfl rfl xC_0 rfl (Nat.le_of_ble_eq_true rfl) ⟨Nat.le_of_ble_eq_true rfl, Nat.le_of_ble_eq_true rfl⟩ ⟨Nat.le_of_ble_eq_true rfl, Nat.le_of_ble_eq_true rfl⟩ (fun _ h => h.elim) xav_no (fun _ _ ⟨e1, e2, e3⟩ => by subst e1; subst e2; exact a_out C (fun _ h => nomatch h) (hthr _ _ (cX_rf e3 (by simp))) (Nat.le_of_ble_eq_true rfl) (Nat.le_of_ble_eq_true rfl)) (fun r2 hp2 hq2 => ?_)
  obtain ⟨j, hj, rfl, rfl, rfl⟩ := hq2
  refine a_get C dX6_levelOf_5 fl_X6_240 (xC_in (by omega) (by omega)) rfl ?_
  exact a_iret C dX6_levelOf_8 (Nat.le_of_ble_eq_true rfl) (Nat.le_of_ble_eq_true rfl) (hret _ _ (cP_rt (xin_of hj (by omega)) (by rw [nI_clamp (by omega)])))
set_option maxRecDepth 100000 in
set_option maxHeartbeats 4000000 in
theorem m_X6_openOf {l : Launch} {N0 : Nat} {D : va_G} {dT : Nat → ClassId} (hflags : l.stackTraces = false) {h : xH} {nc ni np nl : Nat} {n : Nat → Int32} {f : Nat → Nat → Int32} {g : Nat → Nat → Int64} {jc : Nat → Nat → Int32} {jr : Nat → Int64} (hB : nc ≤ 6 ∧ ni ≤ 24 ∧ np ≤ 24 ∧ nl ≤ 16000) {w : Int32}   : xMet l N0 D dT yX6_openOf cX6_openOf 2 (some FieldType.int) 9 1 6 [.ref 0, .int w] (xC h nc ni np nl (n 1) f g jc jr) xNo (cP h nc ni np nl (oRd (xin w ni) (f 13 w.toNatClampNeg) n f g)) (cX (xC h nc ni np nl (n 1) f g jc jr) [("java/lang/IndexOutOfBoundsException", (1 : Int32))] (oRd (xin w ni) (f 13 w.toNatClampNeg) n f g)) := by
  refine xMet_of hflags (by decide +kernel) (fun _ _ h => h) (Nat.le_of_ble_eq_true rfl) ?_
  intro E C I hret hthr
  refine a_loc [(0, .ref 0), (1, .int w)] (xsub_cons rfl (xsub_cons rfl (xsub_nil))) ?_
  obtain ⟨hc6, hi24, hp24, hl16⟩ := id hB
  refine a_aload_n (i := 0) C dX6_openOf_0 rfl rfl ?_
  refine a_iload_n (i := 1) C dX6_openOf_1 rfl rfl ?_
  refine a_callV C dX6_openOf_2 cv_X6_invoiceAt tb535 (m_X6_invoiceAt hflags hB) rfl rfl xC_0 rfl (Nat.le_of_ble_eq_true rfl) ⟨Nat.le_of_ble_eq_true rfl, Nat.le_of_ble_eq_true rfl⟩ ⟨Nat.le_of_ble_eq_true rfl, Nat.le_of_ble_eq_true rfl⟩ (fun _ h => h.elim) xav_no (fun _ _ ⟨e1, e2, e3⟩ => by subst e1; subst e2; exact a_out C (fun _ h => nomatch h) (hthr _ _ (cX_rf e3 (by simp))) (Nat.le_of_ble_eq_true rfl) (Nat.le_of_ble_eq_true rfl)) (fun r2 hp2 hq2 => ?_)
  obtain ⟨j, hj, rfl, rfl, rfl⟩ := hq2
  refine a_callV C dX6_openOf_5 cv_X2_openAmount tb547 (m_X2_openAmount hflags hB hj) rfl rfl (xC_in (by omega) (by omega)) rfl (Nat.le_of_ble_eq_true rfl) ⟨Nat.le_of_ble_eq_true rfl, Nat.le_of_ble_eq_true rfl⟩ ⟨Nat.le_of_ble_eq_true rfl, Nat.le_of_ble_eq_true rfl⟩ (fun _ h => h.elim) xav_no (fun _ _ h => h.elim) (fun r5 hp5 hq5 => ?_)
  obtain ⟨rfl, rfl⟩ := hq5
  exact a_iret C dX6_openOf_8 (Nat.le_of_ble_eq_true rfl) (Nat.le_of_ble_eq_true rfl) (hret _ _ (cP_rt (xin_of hj (by omega)) (by rw [nI_clamp (by omega)])))
set_option maxRecDepth 100000 in
set_option maxHeartbeats 4000000 in
theorem m_X6_accrued {l : Launch} {N0 : Nat} {D : va_G} {dT : Nat → ClassId} (hflags : l.stackTraces = false) {h : xH} {nc ni np nl : Nat} {n : Nat → Int32} {f : Nat → Nat → Int32} {g : Nat → Nat → Int64} {jc : Nat → Nat → Int32} {jr : Nat → Int64} (hB : nc ≤ 6 ∧ ni ≤ 24 ∧ np ≤ 24 ∧ nl ≤ 16000) {w : Int32} (hO : ∀ i, i < ni → xow f i < nc)  : xMet l N0 D dT yX6_accrued cX6_accrued 2 (some FieldType.int) 9 1 6 [.ref 0, .int w] (xC h nc ni np nl (n 1) f g jc jr) xNo (cP h nc ni np nl (oRd (xin w ni) (xac f g w.toNatClampNeg) n f g)) (cX (xC h nc ni np nl (n 1) f g jc jr) [("java/lang/IndexOutOfBoundsException", (1 : Int32))] (oRd (xin w ni) (xac f g w.toNatClampNeg) n f g)) := by
  refine xMet_of hflags (by decide +kernel) (fun _ _ h => h) (Nat.le_of_ble_eq_true rfl) ?_
  intro E C I hret hthr
  refine a_loc [(0, .ref 0), (1, .int w)] (xsub_cons rfl (xsub_cons rfl (xsub_nil))) ?_
  obtain ⟨hc6, hi24, hp24, hl16⟩ := id hB
  refine a_aload_n (i := 0) C dX6_accrued_0 rfl rfl ?_
  refine a_iload_n (i := 1) C dX6_accrued_1 rfl rfl ?_
  refine a_callV C dX6_accrued_2 cv_X6_invoiceAt tb535 (m_X6_invoiceAt hflags hB) rfl rfl xC_0 rfl (Nat.le_of_ble_eq_true rfl) ⟨Nat.le_of_ble_eq_true rfl, Nat.le_of_ble_eq_true rfl⟩ ⟨Nat.le_of_ble_eq_true rfl, Nat.le_of_ble_eq_true rfl⟩ (fun _ h => h.elim) xav_no (fun _ _ ⟨e1, e2, e3⟩ => by subst e1; subst e2; exact a_out C (fun _ h => nomatch h) (hthr _ _ (cX_rf e3 (by simp))) (Nat.le_of_ble_eq_true rfl) (Nat.le_of_ble_eq_true rfl)) (fun r2 hp2 hq2 => ?_)
  obtain ⟨j, hj, rfl, rfl, rfl⟩ := hq2
  refine a_callV C dX6_accrued_5 cv_X2_accruedCents tb693 (m_X2_accruedCents hflags hB hj (hO j hj)) rfl rfl (xC_in (by omega) (by omega)) rfl (Nat.le_of_ble_eq_true rfl) ⟨Nat.le_of_ble_eq_true rfl, Nat.le_of_ble_eq_true rfl⟩ ⟨Nat.le_of_ble_eq_true rfl, Nat.le_of_ble_eq_true rfl⟩ (fun _ h => h.elim) xav_no (fun _ _ h => h.elim) (fun r5 hp5 hq5 => ?_)
  obtain ⟨rfl, rfl⟩ := hq5
  exact a_iret C dX6_accrued_8 (Nat.le_of_ble_eq_true rfl) (Nat.le_of_ble_eq_true rfl) (hret _ _ (cP_rt (xin_of hj (by omega)) (by rw [nI_clamp (by omega)])))
set_option maxRecDepth 100000 in
set_option maxHeartbeats 4000000 in
theorem m_X6_bucketOf {l : Launch} {N0 : Nat} {D : va_G} {dT : Nat → ClassId} (hflags : l.stackTraces = false) {h : xH} {nc ni np nl : Nat} {n : Nat → Int32} {f : Nat → Nat → Int32} {g : Nat → Nat → Int64} {jc : Nat → Nat → Int32} {jr : Nat → Int64} (hB : nc ≤ 6 ∧ ni ≤ 24 ∧ np ≤ 24 ∧ nl ≤ 16000) {w : Int32}   : xMet l N0 D dT yX6_bucketOf cX6_bucketOf 2 (some FieldType.int) 9 1 6 [.ref 0, .int w] (xC h nc ni np nl (n 1) f g jc jr) xNo (cP h nc ni np nl (oRd (xin w ni) (xbk (n 1 - f 12 w.toNatClampNeg)) n f g)) (cX (xC h nc ni np nl (n 1) f g jc jr) [("java/lang/IndexOutOfBoundsException", (1 : Int32))] (oRd (xin w ni) (xbk (n 1 - f 12 w.toNatClampNeg)) n f g)) := by
  refine xMet_of hflags (by decide +kernel) (fun _ _ h => h) (Nat.le_of_ble_eq_true rfl) ?_
  intro E C I hret hthr
  refine a_loc [(0, .ref 0), (1, .int w)] (xsub_cons rfl (xsub_cons rfl (xsub_nil))) ?_
  obtain ⟨hc6, hi24, hp24, hl16⟩ := id hB
  refine a_aload_n (i := 0) C dX6_bucketOf_0 rfl rfl ?_
  refine a_iload_n (i := 1) C dX6_bucketOf_1 rfl rfl ?_
  refine a_callV C dX6_bucketOf_2 cv_X6_invoiceAt tb535 (m_X6_invoiceAt hflags hB) rfl rfl xC_0 rfl (Nat.le_of_ble_eq_true rfl) ⟨Nat.le_of_ble_eq_true rfl, Nat.le_of_ble_eq_true rfl⟩ ⟨Nat.le_of_ble_eq_true rfl, Nat.le_of_ble_eq_true rfl⟩ (fun _ h => h.elim) xav_no (fun _ _ ⟨e1, e2, e3⟩ => by subst e1; subst e2; exact a_out C (fun _ h => nomatch h) (hthr _ _ (cX_rf e3 (by simp))) (Nat.le_of_ble_eq_true rfl) (Nat.le_of_ble_eq_true rfl)) (fun r2 hp2 hq2 => ?_)
  obtain ⟨j, hj, rfl, rfl, rfl⟩ := hq2
  refine a_aload_n (i := 0) C dX6_bucketOf_5 rfl rfl ?_
  refine a_get C dX6_bucketOf_6 fl_X6_36 xC_0 rfl ?_
  refine a_callV C dX6_bucketOf_9 cv_X2_bucketOn tb842 (m_X2_bucketOn hflags hB hj) rfl rfl (xC_in (by omega) (by omega)) rfl (Nat.le_of_ble_eq_true rfl) ⟨Nat.le_of_ble_eq_true rfl, Nat.le_of_ble_eq_true rfl⟩ ⟨Nat.le_of_ble_eq_true rfl, Nat.le_of_ble_eq_true rfl⟩ (fun _ h => h.elim) xav_no (fun _ _ h => h.elim) (fun r9 hp9 hq9 => ?_)
  obtain ⟨rfl, rfl⟩ := hq9
  exact a_iret C dX6_bucketOf_12 (Nat.le_of_ble_eq_true rfl) (Nat.le_of_ble_eq_true rfl) (hret _ _ (cP_rt (xin_of hj (by omega)) (by rw [nI_clamp (by omega)])))
set_option maxRecDepth 100000 in
set_option maxHeartbeats 4000000 in
theorem m_X6_daysToReminder {l : Launch} {N0 : Nat} {D : va_G} {dT : Nat → ClassId} (hflags : l.stackTraces = false) {h : xH} {nc ni np nl : Nat} {n : Nat → Int32} {f : Nat → Nat → Int32} {g : Nat → Nat → Int64} {jc : Nat → Nat → Int32} {jr : Nat → Int64} (hB : nc ≤ 6 ∧ ni ≤ 24 ∧ np ≤ 24 ∧ nl ≤ 16000) {w : Int32} (hO : ∀ i, i < ni → xow f i < nc)  : xMet l N0 D dT yX6_daysToReminder cX6_daysToReminder 2 (some FieldType.int) 9 1 6 [.ref 0, .int w] (xC h nc ni np nl (n 1) f g jc jr) xNo (cP h nc ni np nl (oRd (xin w ni) (xdr n f w.toNatClampNeg) n f g)) (cX (xC h nc ni np nl (n 1) f g jc jr) [("java/lang/IndexOutOfBoundsException", (1 : Int32))] (oRd (xin w ni) (xdr n f w.toNatClampNeg) n f g)) := by
  refine xMet_of hflags (by decide +kernel) (fun _ _ h => h) (Nat.le_of_ble_eq_true rfl) ?_
  intro E C I hret hthr
  refine a_loc [(0, .ref 0), (1, .int w)] (xsub_cons rfl (xsub_cons rfl (xsub_nil))) ?_
  obtain ⟨hc6, hi24, hp24, hl16⟩ := id hB
  refine a_aload_n (i := 0) C dX6_daysToReminder_0 rfl rfl ?_
  refine a_iload_n (i := 1) C dX6_daysToReminder_1 rfl rfl ?_
  refine a_callV C dX6_daysToReminder_2 cv_X6_invoiceAt tb535 (m_X6_invoiceAt hflags hB) rfl rfl xC_0 rfl (Nat.le_of_ble_eq_true rfl) ⟨Nat.le_of_ble_eq_true rfl, Nat.le_of_ble_eq_true rfl⟩ ⟨Nat.le_of_ble_eq_true rfl, Nat.le_of_ble_eq_true rfl⟩ (fun _ h => h.elim) xav_no (fun _ _ ⟨e1, e2, e3⟩ => by subst e1; subst e2; exact a_out C (fun _ h => nomatch h) (hthr _ _ (cX_rf e3 (by simp))) (Nat.le_of_ble_eq_true rfl) (Nat.le_of_ble_eq_true rfl)) (fun r2 hp2 hq2 => ?_)
  obtain ⟨j, hj, rfl, rfl, rfl⟩ := hq2
  refine a_aload_n (i := 0) C dX6_daysToReminder_5 rfl rfl ?_
  refine a_get C dX6_daysToReminder_6 fl_X6_36 xC_0 rfl ?_
  refine a_callV C dX6_daysToReminder_9 cv_X2_daysToNextLevel tb759 (m_X2_daysToNextLevel hflags hB hj (hO j hj)) rfl rfl (xC_in (by omega) (by omega)) rfl (Nat.le_of_ble_eq_true rfl) ⟨Nat.le_of_ble_eq_true rfl, Nat.le_of_ble_eq_true rfl⟩ ⟨Nat.le_of_ble_eq_true rfl, Nat.le_of_ble_eq_true rfl⟩ (fun _ h => h.elim) xav_no (fun _ _ h => h.elim) (fun r9 hp9 hq9 => ?_)
  obtain ⟨rfl, rfl⟩ := hq9
  exact a_iret C dX6_daysToReminder_12 (Nat.le_of_ble_eq_true rfl) (Nat.le_of_ble_eq_true rfl) (hret _ _ (cP_rt (xin_of hj (by omega)) (by rw [nI_clamp (by omega)])))
set_option maxRecDepth 100000 in
set_option maxHeartbeats 4000000 in
theorem m_X6_unallocated {l : Launch} {N0 : Nat} {D : va_G} {dT : Nat → ClassId} (hflags : l.stackTraces = false) {h : xH} {nc ni np nl : Nat} {n : Nat → Int32} {f : Nat → Nat → Int32} {g : Nat → Nat → Int64} {jc : Nat → Nat → Int32} {jr : Nat → Int64} (hB : nc ≤ 6 ∧ ni ≤ 24 ∧ np ≤ 24 ∧ nl ≤ 16000) {w : Int32} (hRV : ∀ p, p < np → ¬ f 21 p = 0 → f 20 p = 0)  : xMet l N0 D dT yX6_unallocated cX6_unallocated 2 (some FieldType.int) 9 1 6 [.ref 0, .int w] (xC h nc ni np nl (n 1) f g jc jr) xNo (cP h nc ni np nl (oRd (xin w np) (f 20 w.toNatClampNeg) n f g)) (cX (xC h nc ni np nl (n 1) f g jc jr) [("java/lang/IndexOutOfBoundsException", (1 : Int32))] (oRd (xin w np) (f 20 w.toNatClampNeg) n f g)) := by
  refine xMet_of hflags (by decide +kernel) (fun _ _ h => h) (Nat.le_of_ble_eq_true rfl) ?_
  intro E C I hret hthr
  refine a_loc [(0, .ref 0), (1, .int w)] (xsub_cons rfl (xsub_cons rfl (xsub_nil))) ?_
  obtain ⟨hc6, hi24, hp24, hl16⟩ := id hB
  refine a_aload_n (i := 0) C dX6_unallocated_0 rfl rfl ?_
  refine a_iload_n (i := 1) C dX6_unallocated_1 rfl rfl ?_
  refine a_callV C dX6_unallocated_2 cv_X6_paymentAt tb530 (m_X6_paymentAt hflags hB) rfl rfl xC_0 rfl (Nat.le_of_ble_eq_true rfl) ⟨Nat.le_of_ble_eq_true rfl, Nat.le_of_ble_eq_true rfl⟩ ⟨Nat.le_of_ble_eq_true rfl, Nat.le_of_ble_eq_true rfl⟩ (fun _ h => h.elim) xav_no (fun _ _ ⟨e1, e2, e3⟩ => by subst e1; subst e2; exact a_out C (fun _ h => nomatch h) (hthr _ _ (cX_rf e3 (by simp))) (Nat.le_of_ble_eq_true rfl) (Nat.le_of_ble_eq_true rfl)) (fun r2 hp2 hq2 => ?_)
  obtain ⟨j, hj, rfl, rfl, rfl⟩ := hq2
  refine a_callV C dX6_unallocated_5 cv_X4_unspent tb543 (m_X4_unspent hflags hB hj (hRV j hj)) rfl rfl (xC_pa (by omega) (by omega)) rfl (Nat.le_of_ble_eq_true rfl) ⟨Nat.le_of_ble_eq_true rfl, Nat.le_of_ble_eq_true rfl⟩ ⟨Nat.le_of_ble_eq_true rfl, Nat.le_of_ble_eq_true rfl⟩ (fun _ h => h.elim) xav_no (fun _ _ h => h.elim) (fun r5 hp5 hq5 => ?_)
  obtain ⟨rfl, rfl⟩ := hq5
  exact a_iret C dX6_unallocated_8 (Nat.le_of_ble_eq_true rfl) (Nat.le_of_ble_eq_true rfl) (hret _ _ (cP_rt (xin_of hj (by omega)) (by rw [nI_clamp (by omega)])))
set_option maxRecDepth 100000 in
set_option maxHeartbeats 4000000 in
theorem m_X6_openByLedger {l : Launch} {N0 : Nat} {D : va_G} {dT : Nat → ClassId} (hflags : l.stackTraces = false) {h : xH} {nc ni np nl : Nat} {n : Nat → Int32} {f : Nat → Nat → Int32} {g : Nat → Nat → Int64} {jc : Nat → Nat → Int32} {jr : Nat → Int64} (hB : nc ≤ 6 ∧ ni ≤ 24 ∧ np ≤ 24 ∧ nl ≤ 16000) {w : Int32}   : xMet l N0 D dT yX6_openByLedger cX6_openByLedger 2 (some FieldType.int) 9 1 6 [.ref 0, .int w] (xC h nc ni np nl (n 1) f g jc jr) xNo (cP h nc ni np nl (oRd (xin w ni) (xsum (xlin f w) nl) n f g)) (cX (xC h nc ni np nl (n 1) f g jc jr) [("java/lang/IndexOutOfBoundsException", (1 : Int32))] (oRd (xin w ni) (xsum (xlin f w) nl) n f g)) := by
  refine xMet_of hflags (by decide +kernel) (fun _ _ h => h) (Nat.le_of_ble_eq_true rfl) ?_
  intro E C I hret hthr
  refine a_loc [(0, .ref 0), (1, .int w)] (xsub_cons rfl (xsub_cons rfl (xsub_nil))) ?_
  obtain ⟨hc6, hi24, hp24, hl16⟩ := id hB
  refine a_aload_n (i := 0) C dX6_openByLedger_0 rfl rfl ?_
  refine a_iload_n (i := 1) C dX6_openByLedger_1 rfl rfl ?_
  refine a_callV C dX6_openByLedger_2 cv_X6_invoiceAt tb535 (m_X6_invoiceAt hflags hB) rfl rfl xC_0 rfl (Nat.le_of_ble_eq_true rfl) ⟨Nat.le_of_ble_eq_true rfl, Nat.le_of_ble_eq_true rfl⟩ ⟨Nat.le_of_ble_eq_true rfl, Nat.le_of_ble_eq_true rfl⟩ (fun _ h => h.elim) xav_no (fun _ _ ⟨e1, e2, e3⟩ => by subst e1; subst e2; exact a_out C (fun _ h => nomatch h) (hthr _ _ (cX_rf e3 (by simp))) (Nat.le_of_ble_eq_true rfl) (Nat.le_of_ble_eq_true rfl)) (fun r2 hp2 hq2 => ?_)
  obtain ⟨j, hj, rfl, rfl, rfl⟩ := hq2
  refine a_pop C dX6_openByLedger_5 rfl ?_
  refine a_aload_n (i := 0) C dX6_openByLedger_6 rfl rfl ?_
  refine a_get C dX6_openByLedger_7 fl_X6_25 xC_0 rfl ?_
  refine a_iload_n (i := 1) C dX6_openByLedger_10 rfl rfl ?_
  refine a_callV C dX6_openByLedger_11 cv_X3_sumOf tb893 (m_X3_sumOf hflags hB) rfl rfl xC_7 rfl (Nat.le_of_ble_eq_true rfl) ⟨Nat.le_of_ble_eq_true rfl, Nat.le_of_ble_eq_true rfl⟩ ⟨Nat.le_of_ble_eq_true rfl, Nat.le_of_ble_eq_true rfl⟩ (fun _ h => h.elim) xav_no (fun _ _ h => h.elim) (fun r11 hp11 hq11 => ?_)
  obtain ⟨rfl, rfl⟩ := hq11
  exact a_iret C dX6_openByLedger_14 (Nat.le_of_ble_eq_true rfl) (Nat.le_of_ble_eq_true rfl) (hret _ _ (cP_rt (xin_of hj (by omega)) rfl))
set_option maxRecDepth 100000 in
set_option maxHeartbeats 4000000 in
theorem m_X6_isInterest {l : Launch} {N0 : Nat} {D : va_G} {dT : Nat → ClassId} (hflags : l.stackTraces = false) {h : xH} {nc ni np nl : Nat} {n : Nat → Int32} {f : Nat → Nat → Int32} {g : Nat → Nat → Int64} {jc : Nat → Nat → Int32} {jr : Nat → Int64} (hB : nc ≤ 6 ∧ ni ≤ 24 ∧ np ≤ 24 ∧ nl ≤ 16000) {w : Int32} (hZ : ∀ i, i < ni → f 16 i = bI (¬ f 16 i = 0))  : xMet l N0 D dT yX6_isInterest cX6_isInterest 2 (some FieldType.boolean) 9 1 6 [.ref 0, .int w] (xC h nc ni np nl (n 1) f g jc jr) xNo (cP h nc ni np nl (oRd (xin w ni) (bI (¬ f 16 w.toNatClampNeg = 0)) n f g)) (cX (xC h nc ni np nl (n 1) f g jc jr) [("java/lang/IndexOutOfBoundsException", (1 : Int32))] (oRd (xin w ni) (bI (¬ f 16 w.toNatClampNeg = 0)) n f g)) := by
  refine xMet_of hflags (by decide +kernel) (fun _ _ h => h) (Nat.le_of_ble_eq_true rfl) ?_
  intro E C I hret hthr
  refine a_loc [(0, .ref 0), (1, .int w)] (xsub_cons rfl (xsub_cons rfl (xsub_nil))) ?_
  obtain ⟨hc6, hi24, hp24, hl16⟩ := id hB
  refine a_aload_n (i := 0) C dX6_isInterest_0 rfl rfl ?_
  refine a_iload_n (i := 1) C dX6_isInterest_1 rfl rfl ?_
  refine a_callV C dX6_isInterest_2 cv_X6_invoiceAt tb535 (m_X6_invoiceAt hflags hB) rfl rfl xC_0 rfl (Nat.le_of_ble_eq_true rfl) ⟨Nat.le_of_ble_eq_true rfl, Nat.le_of_ble_eq_true rfl⟩ ⟨Nat.le_of_ble_eq_true rfl, Nat.le_of_ble_eq_true rfl⟩ (fun _ h => h.elim) xav_no (fun _ _ ⟨e1, e2, e3⟩ => by subst e1; subst e2; exact a_out C (fun _ h => nomatch h) (hthr _ _ (cX_rf e3 (by simp))) (Nat.le_of_ble_eq_true rfl) (Nat.le_of_ble_eq_true rfl)) (fun r2 hp2 hq2 => ?_)
  obtain ⟨j, hj, rfl, rfl, rfl⟩ := hq2
  refine a_get C dX6_isInterest_5 fl_X6_228 (xC_in (by omega) (by omega)) rfl ?_
  refine a_top (bI (¬ f 16 j = 0)) (hZ j hj) ?_
  exact a_zret C dX6_isInterest_8 (by first | rfl | exact bI_nar) (Nat.le_of_ble_eq_true rfl) (Nat.le_of_ble_eq_true rfl) (hret _ _ (cP_rt (xin_of hj (by omega)) (by rw [nI_clamp (by omega)])))
set_option maxRecDepth 100000 in
set_option maxHeartbeats 4000000 in
theorem m_X6_today {l : Launch} {N0 : Nat} {D : va_G} {dT : Nat → ClassId} (hflags : l.stackTraces = false) {h : xH} {nc ni np nl : Nat} {n : Nat → Int32} {f : Nat → Nat → Int32} {g : Nat → Nat → Int64} {jc : Nat → Nat → Int32} {jr : Nat → Int64} (hB : nc ≤ 6 ∧ ni ≤ 24 ∧ np ≤ 24 ∧ nl ≤ 16000) (hI : xI n nc ni np nl)  : xMet l N0 D dT yX6_today cX6_today 1 (some FieldType.int) 2 0 0 [.ref 0] (xC h nc ni np nl (n 1) f g jc jr) xNo (cP h nc ni np nl (n 1, nup n 0 0, f, g)) xNX := by
  refine xMet_of hflags (by decide +kernel) (fun _ _ h => h) (Nat.le_of_ble_eq_true rfl) ?_
  intro E C I hret hthr
  refine a_loc [(0, .ref 0)] (xsub_cons rfl (xsub_nil)) ?_
  obtain ⟨hc6, hi24, hp24, hl16⟩ := id hB
  refine a_aload_n (i := 0) C dX6_today_0 rfl rfl ?_
  refine a_get C dX6_today_1 fl_X6_36 xC_0 rfl ?_
  exact a_iret C dX6_today_4 (Nat.le_of_ble_eq_true rfl) (Nat.le_of_ble_eq_true rfl) (hret _ _ ⟨rfl, congrArg (fun z => some (Value.int z)) rfl, jc, jr, rfl⟩)
set_option maxRecDepth 100000 in
set_option maxHeartbeats 4000000 in
theorem m_X6_customers {l : Launch} {N0 : Nat} {D : va_G} {dT : Nat → ClassId} (hflags : l.stackTraces = false) {h : xH} {nc ni np nl : Nat} {n : Nat → Int32} {f : Nat → Nat → Int32} {g : Nat → Nat → Int64} {jc : Nat → Nat → Int32} {jr : Nat → Int64} (hB : nc ≤ 6 ∧ ni ≤ 24 ∧ np ≤ 24 ∧ nl ≤ 16000) (hI : xI n nc ni np nl)  : xMet l N0 D dT yX6_customers cX6_customers 1 (some FieldType.int) 2 0 0 [.ref 0] (xC h nc ni np nl (n 1) f g jc jr) xNo (cP h nc ni np nl (n 2, nup n 0 0, f, g)) xNX := by
  refine xMet_of hflags (by decide +kernel) (fun _ _ h => h) (Nat.le_of_ble_eq_true rfl) ?_
  intro E C I hret hthr
  refine a_loc [(0, .ref 0)] (xsub_cons rfl (xsub_nil)) ?_
  obtain ⟨hc6, hi24, hp24, hl16⟩ := id hB
  refine a_aload_n (i := 0) C dX6_customers_0 rfl rfl ?_
  refine a_get C dX6_customers_1 fl_X6_10 xC_0 rfl ?_
  refine a_callV C dX6_customers_4 cv_Jx4a65c_size_8abf5 tb142 (m_Jx4a65c_size_8abf5 hflags xC_1) rfl rfl xC_1 rfl (Nat.le_of_ble_eq_true rfl) ⟨Nat.le_of_ble_eq_true rfl, Nat.le_of_ble_eq_true rfl⟩ ⟨Nat.le_of_ble_eq_true rfl, Nat.le_of_ble_eq_true rfl⟩ (fun _ h => h.elim) xav_no (fun _ _ h => h.elim) (fun r4 hp4 hq4 => ?_)
  obtain ⟨rfl, rfl⟩ := hq4
  exact a_iret C dX6_customers_7 (Nat.le_of_ble_eq_true rfl) (Nat.le_of_ble_eq_true rfl) (hret _ _ ⟨rfl, congrArg (fun z => some (Value.int z)) hI.1.symm, jc, jr, rfl⟩)
set_option maxRecDepth 100000 in
set_option maxHeartbeats 4000000 in
theorem m_X6_invoices {l : Launch} {N0 : Nat} {D : va_G} {dT : Nat → ClassId} (hflags : l.stackTraces = false) {h : xH} {nc ni np nl : Nat} {n : Nat → Int32} {f : Nat → Nat → Int32} {g : Nat → Nat → Int64} {jc : Nat → Nat → Int32} {jr : Nat → Int64} (hB : nc ≤ 6 ∧ ni ≤ 24 ∧ np ≤ 24 ∧ nl ≤ 16000) (hI : xI n nc ni np nl)  : xMet l N0 D dT yX6_invoices cX6_invoices 1 (some FieldType.int) 2 0 0 [.ref 0] (xC h nc ni np nl (n 1) f g jc jr) xNo (cP h nc ni np nl (n 3, nup n 0 0, f, g)) xNX := by
  refine xMet_of hflags (by decide +kernel) (fun _ _ h => h) (Nat.le_of_ble_eq_true rfl) ?_
  intro E C I hret hthr
  refine a_loc [(0, .ref 0)] (xsub_cons rfl (xsub_nil)) ?_
  obtain ⟨hc6, hi24, hp24, hl16⟩ := id hB
  refine a_aload_n (i := 0) C dX6_invoices_0 rfl rfl ?_
  refine a_get C dX6_invoices_1 fl_X6_16 xC_0 rfl ?_
  refine a_callV C dX6_invoices_4 cv_Jx4a65c_size_8abf5 tb142 (m_Jx4a65c_size_8abf5 hflags xC_2) rfl rfl xC_2 rfl (Nat.le_of_ble_eq_true rfl) ⟨Nat.le_of_ble_eq_true rfl, Nat.le_of_ble_eq_true rfl⟩ ⟨Nat.le_of_ble_eq_true rfl, Nat.le_of_ble_eq_true rfl⟩ (fun _ h => h.elim) xav_no (fun _ _ h => h.elim) (fun r4 hp4 hq4 => ?_)
  obtain ⟨rfl, rfl⟩ := hq4
  exact a_iret C dX6_invoices_7 (Nat.le_of_ble_eq_true rfl) (Nat.le_of_ble_eq_true rfl) (hret _ _ ⟨rfl, congrArg (fun z => some (Value.int z)) hI.2.1.symm, jc, jr, rfl⟩)
set_option maxRecDepth 100000 in
set_option maxHeartbeats 4000000 in
theorem m_X6_payments {l : Launch} {N0 : Nat} {D : va_G} {dT : Nat → ClassId} (hflags : l.stackTraces = false) {h : xH} {nc ni np nl : Nat} {n : Nat → Int32} {f : Nat → Nat → Int32} {g : Nat → Nat → Int64} {jc : Nat → Nat → Int32} {jr : Nat → Int64} (hB : nc ≤ 6 ∧ ni ≤ 24 ∧ np ≤ 24 ∧ nl ≤ 16000) (hI : xI n nc ni np nl)  : xMet l N0 D dT yX6_payments cX6_payments 1 (some FieldType.int) 2 0 0 [.ref 0] (xC h nc ni np nl (n 1) f g jc jr) xNo (cP h nc ni np nl (n 4, nup n 0 0, f, g)) xNX := by
  refine xMet_of hflags (by decide +kernel) (fun _ _ h => h) (Nat.le_of_ble_eq_true rfl) ?_
  intro E C I hret hthr
  refine a_loc [(0, .ref 0)] (xsub_cons rfl (xsub_nil)) ?_
  obtain ⟨hc6, hi24, hp24, hl16⟩ := id hB
  refine a_aload_n (i := 0) C dX6_payments_0 rfl rfl ?_
  refine a_get C dX6_payments_1 fl_X6_19 xC_0 rfl ?_
  refine a_callV C dX6_payments_4 cv_Jx4a65c_size_8abf5 tb142 (m_Jx4a65c_size_8abf5 hflags xC_3) rfl rfl xC_3 rfl (Nat.le_of_ble_eq_true rfl) ⟨Nat.le_of_ble_eq_true rfl, Nat.le_of_ble_eq_true rfl⟩ ⟨Nat.le_of_ble_eq_true rfl, Nat.le_of_ble_eq_true rfl⟩ (fun _ h => h.elim) xav_no (fun _ _ h => h.elim) (fun r4 hp4 hq4 => ?_)
  obtain ⟨rfl, rfl⟩ := hq4
  exact a_iret C dX6_payments_7 (Nat.le_of_ble_eq_true rfl) (Nat.le_of_ble_eq_true rfl) (hret _ _ ⟨rfl, congrArg (fun z => some (Value.int z)) hI.2.2.1.symm, jc, jr, rfl⟩)
set_option maxRecDepth 100000 in
set_option maxHeartbeats 4000000 in
theorem m_X6_ledgerLines {l : Launch} {N0 : Nat} {D : va_G} {dT : Nat → ClassId} (hflags : l.stackTraces = false) {h : xH} {nc ni np nl : Nat} {n : Nat → Int32} {f : Nat → Nat → Int32} {g : Nat → Nat → Int64} {jc : Nat → Nat → Int32} {jr : Nat → Int64} (hB : nc ≤ 6 ∧ ni ≤ 24 ∧ np ≤ 24 ∧ nl ≤ 16000) (hI : xI n nc ni np nl)  : xMet l N0 D dT yX6_ledgerLines cX6_ledgerLines 1 (some FieldType.int) 2 0 0 [.ref 0] (xC h nc ni np nl (n 1) f g jc jr) xNo (cP h nc ni np nl (n 5, nup n 0 0, f, g)) xNX := by
  refine xMet_of hflags (by decide +kernel) (fun _ _ h => h) (Nat.le_of_ble_eq_true rfl) ?_
  intro E C I hret hthr
  refine a_loc [(0, .ref 0)] (xsub_cons rfl (xsub_nil)) ?_
  obtain ⟨hc6, hi24, hp24, hl16⟩ := id hB
  refine a_aload_n (i := 0) C dX6_ledgerLines_0 rfl rfl ?_
  refine a_get C dX6_ledgerLines_1 fl_X6_25 xC_0 rfl ?_
  refine a_get C dX6_ledgerLines_4 fl_X6_246 xC_7 rfl ?_
  exact a_iret C dX6_ledgerLines_7 (Nat.le_of_ble_eq_true rfl) (Nat.le_of_ble_eq_true rfl) (hret _ _ ⟨rfl, congrArg (fun z => some (Value.int z)) hI.2.2.2.1.symm, jc, jr, rfl⟩)
set_option maxRecDepth 100000 in
set_option maxHeartbeats 4000000 in
theorem m_X6_lineInvoice {l : Launch} {N0 : Nat} {D : va_G} {dT : Nat → ClassId} (hflags : l.stackTraces = false) {h : xH} {nc ni np nl : Nat} {n : Nat → Int32} {f : Nat → Nat → Int32} {g : Nat → Nat → Int64} {jc : Nat → Nat → Int32} {jr : Nat → Int64} (hB : nc ≤ 6 ∧ ni ≤ 24 ∧ np ≤ 24 ∧ nl ≤ 16000) {w : Int32}  : xMet l N0 D dT yX6_lineInvoice cX6_lineInvoice 2 (some FieldType.int) 9 1 6 [.ref 0, .int w] (xC h nc ni np nl (n 1) f g jc jr) xNo (cP h nc ni np nl (oRd (xin w nl) (f 23 w.toNatClampNeg) n f g)) (cX (xC h nc ni np nl (n 1) f g jc jr) [("java/lang/IndexOutOfBoundsException", (1 : Int32))] (oRd (xin w nl) (f 23 w.toNatClampNeg) n f g)) := by
  refine xMet_of hflags (by decide +kernel) (fun _ _ h => h) (Nat.le_of_ble_eq_true rfl) ?_
  intro E C I hret hthr
  refine a_loc [(0, .ref 0), (1, .int w)] (xsub_cons rfl (xsub_cons rfl (xsub_nil))) ?_
  obtain ⟨hc6, hi24, hp24, hl16⟩ := id hB
  refine a_iload_n (i := 1) C dX6_lineInvoice_0 rfl rfl ?_
  refine a_aload_n (i := 0) C dX6_lineInvoice_1 rfl rfl ?_
  refine a_get C dX6_lineInvoice_2 fl_X6_25 xC_0 rfl ?_
  refine a_get C dX6_lineInvoice_5 fl_X6_246 xC_7 rfl ?_
  refine a_callS C dX6_lineInvoice_8 cs_X6_requireIndex tb353 (m_X6_requireIndex hflags (by omega)) rfl rfl (Nat.le_of_ble_eq_true rfl) ⟨Nat.le_of_ble_eq_true rfl, Nat.le_of_ble_eq_true rfl⟩ ⟨Nat.le_of_ble_eq_true rfl, Nat.le_of_ble_eq_true rfl⟩ (fun _ h => h.elim) xav_no (fun _ _ ⟨e1, e2, e3⟩ => by subst e1; subst e2; exact a_out C (fun _ h => nomatch h) (hthr _ _ (cX_rf e3 (by simp))) (Nat.le_of_ble_eq_true rfl) (Nat.le_of_ble_eq_true rfl)) (fun r8 hp8 hq8 => ?_)
  obtain ⟨rfl, rfl, hx⟩ := hq8
  obtain ⟨j, hj, rfl⟩ := xin_nI hx (by omega)
  refine a_aload_n (i := 0) C dX6_lineInvoice_11 rfl rfl ?_
  refine a_get C dX6_lineInvoice_12 fl_X6_25 xC_0 rfl ?_
  refine a_iload_n (i := 1) C dX6_lineInvoice_15 rfl rfl ?_
  refine a_callV C dX6_lineInvoice_16 cv_X3_invoiceIn tb860 (m_X3_invoiceIn hflags hB hj) rfl rfl xC_7 rfl (Nat.le_of_ble_eq_true rfl) ⟨Nat.le_of_ble_eq_true rfl, Nat.le_of_ble_eq_true rfl⟩ ⟨Nat.le_of_ble_eq_true rfl, Nat.le_of_ble_eq_true rfl⟩ (fun _ h => h.elim) xav_no (fun _ _ h => h.elim) (fun r16 hp16 hq16 => ?_)
  obtain ⟨rfl, rfl⟩ := hq16
  exact a_iret C dX6_lineInvoice_19 (Nat.le_of_ble_eq_true rfl) (Nat.le_of_ble_eq_true rfl) (hret _ _ (cP_rt (xin_of hj (by omega)) (by rw [nI_clamp (by omega)])))
set_option maxRecDepth 100000 in
set_option maxHeartbeats 4000000 in
theorem m_X6_lineAmount {l : Launch} {N0 : Nat} {D : va_G} {dT : Nat → ClassId} (hflags : l.stackTraces = false) {h : xH} {nc ni np nl : Nat} {n : Nat → Int32} {f : Nat → Nat → Int32} {g : Nat → Nat → Int64} {jc : Nat → Nat → Int32} {jr : Nat → Int64} (hB : nc ≤ 6 ∧ ni ≤ 24 ∧ np ≤ 24 ∧ nl ≤ 16000) {w : Int32}  : xMet l N0 D dT yX6_lineAmount cX6_lineAmount 2 (some FieldType.int) 9 1 6 [.ref 0, .int w] (xC h nc ni np nl (n 1) f g jc jr) xNo (cP h nc ni np nl (oRd (xin w nl) (f 24 w.toNatClampNeg) n f g)) (cX (xC h nc ni np nl (n 1) f g jc jr) [("java/lang/IndexOutOfBoundsException", (1 : Int32))] (oRd (xin w nl) (f 24 w.toNatClampNeg) n f g)) := by
  refine xMet_of hflags (by decide +kernel) (fun _ _ h => h) (Nat.le_of_ble_eq_true rfl) ?_
  intro E C I hret hthr
  refine a_loc [(0, .ref 0), (1, .int w)] (xsub_cons rfl (xsub_cons rfl (xsub_nil))) ?_
  obtain ⟨hc6, hi24, hp24, hl16⟩ := id hB
  refine a_iload_n (i := 1) C dX6_lineAmount_0 rfl rfl ?_
  refine a_aload_n (i := 0) C dX6_lineAmount_1 rfl rfl ?_
  refine a_get C dX6_lineAmount_2 fl_X6_25 xC_0 rfl ?_
  refine a_get C dX6_lineAmount_5 fl_X6_246 xC_7 rfl ?_
  refine a_callS C dX6_lineAmount_8 cs_X6_requireIndex tb353 (m_X6_requireIndex hflags (by omega)) rfl rfl (Nat.le_of_ble_eq_true rfl) ⟨Nat.le_of_ble_eq_true rfl, Nat.le_of_ble_eq_true rfl⟩ ⟨Nat.le_of_ble_eq_true rfl, Nat.le_of_ble_eq_true rfl⟩ (fun _ h => h.elim) xav_no (fun _ _ ⟨e1, e2, e3⟩ => by subst e1; subst e2; exact a_out C (fun _ h => nomatch h) (hthr _ _ (cX_rf e3 (by simp))) (Nat.le_of_ble_eq_true rfl) (Nat.le_of_ble_eq_true rfl)) (fun r8 hp8 hq8 => ?_)
  obtain ⟨rfl, rfl, hx⟩ := hq8
  obtain ⟨j, hj, rfl⟩ := xin_nI hx (by omega)
  refine a_aload_n (i := 0) C dX6_lineAmount_11 rfl rfl ?_
  refine a_get C dX6_lineAmount_12 fl_X6_25 xC_0 rfl ?_
  refine a_iload_n (i := 1) C dX6_lineAmount_15 rfl rfl ?_
  refine a_callV C dX6_lineAmount_16 cv_X3_amountIn tb871 (m_X3_amountIn hflags hB hj) rfl rfl xC_7 rfl (Nat.le_of_ble_eq_true rfl) ⟨Nat.le_of_ble_eq_true rfl, Nat.le_of_ble_eq_true rfl⟩ ⟨Nat.le_of_ble_eq_true rfl, Nat.le_of_ble_eq_true rfl⟩ (fun _ h => h.elim) xav_no (fun _ _ h => h.elim) (fun r16 hp16 hq16 => ?_)
  obtain ⟨rfl, rfl⟩ := hq16
  exact a_iret C dX6_lineAmount_19 (Nat.le_of_ble_eq_true rfl) (Nat.le_of_ble_eq_true rfl) (hret _ _ (cP_rt (xin_of hj (by omega)) (by rw [nI_clamp (by omega)])))
