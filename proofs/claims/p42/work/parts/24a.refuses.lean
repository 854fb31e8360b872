/-! refused calls change nothing -/
abbrev nwLaw : Nat → Prop := fun j => j < 900
theorem xnwD_law {a b : Nat} (h : a < 340 ∨ 399 < a) (e : a = b) : ¬ xnwD b := fun z => by
  have z1 : 340 ≤ b ∧ b ≤ 399 := z
  omega
theorem xnwB_law {a b : Nat} (h : a < 16 ∨ (127 < a ∧ a < 300) ∨ 399 < a) (e : a = b) : ¬ xnwB b := xnwB_ok h e
theorem xnwB_lt {j : Nat} (h : xnwB j) : nwLaw j := by
  have z : (16 ≤ j ∧ j ≤ 127) ∨ (300 ≤ j ∧ j ≤ 399) := h
  show j < 900
  omega
theorem xin_out {c : Nat} (hc : c < 2 ^ 31) : ¬ xin (nI c) c := fun z => by
  unfold xin at z
  rw [nI_toInt (by omega)] at z
  omega
theorem xin_m1 {c : Nat} : ¬ xin (-1) c := fun z => absurd z.1 (by decide)
theorem xin_0 {c : Nat} (h : 0 < c) (hc : c < 2 ^ 31) : xin 0 c := xin_of (j := 0) h hc
theorem R_settle {h : xH} {n : Nat → Int32} {f : Nat → Nat → Int32} {g : Nat → Nat → Int64} {nc ni np nl nc' ni' np' nl' : Nat} {r : Option Value} {h' : xH} (hi : 0 < ni) (hn : ni ≤ 24) (H : pP h n f g nc ni np nl nc' ni' np' nl' (o_settle ni nl 0 (-1) n f g) (fun k => if k = 1 then eP else if k = 2 then eN else if k = 3 then eV else eP) r h') : r = some (.long (if f 14 0 = 0 then eN else eV)) ∧ ∃ jc jr, h' = xC h nc ni np nl (n 1) f g jc jr := by
  have h0 : xin 0 ni := xin_0 hi (by omega)
  have e0 : (0 : Int32).toNatClampNeg = 0 := rfl
  by_cases hd : f 14 0 = 0
  · rw [if_pos hd]
    exact pP_no H (k := 2) (by unfold o_settle; rw [if_neg (fun z => z h0), e0, if_pos hd]; rfl) (by decide) rfl
  · rw [if_neg hd]
    exact pP_no H (k := 3) (by unfold o_settle; rw [if_neg (fun z => z h0), e0, if_neg hd, if_pos (fun z => absurd z.1 (by decide))]; rfl) (by decide) rfl
theorem R_settleN {n : Nat → Int32} {f : Nat → Nat → Int32} {g : Nat → Nat → Int64} {ni nl : Nat} (hi : 0 < ni) (hn : ni ≤ 24) : ¬ (o_settle ni nl 0 (-1) n f g).2.1 0 = 0 := by
  have h0 : xin 0 ni := xin_0 hi (by omega)
  have e0 : (0 : Int32).toNatClampNeg = 0 := rfl
  unfold o_settle
  rw [if_neg (fun z => z h0), e0]
  by_cases hd : f 14 0 = 0
  · rw [if_pos hd]; exact (show ¬ (2 : Int32) = 0 by decide)
  · rw [if_neg hd, if_pos (fun z => absurd z.1 (by decide))]; exact (show ¬ (3 : Int32) = 0 by decide)
set_option maxRecDepth 100000 in
set_option maxHeartbeats 4000000 in
theorem p_refuses {l : Launch} {N0 : Nat} {D : va_G} {dT : Nat → ClassId} (hflags : l.stackTraces = false) {h : xH} {n : Nat → Int32} {f : Nat → Nat → Int32} {g : Nat → Nat → Int64} {nc ni np nl q9 : Nat} {jc : Nat → Nat → Int32} {jr : Nat → Int64} (hbs : xBs h) (hJ : JI n f g nc ni np nl q9) (hq : q9 ≤ 500) (hc0 : 0 < nc) : xMetP l N0 D dT yL_refuses cL_refuses 7 (some FieldType.boolean) 12 500 3000 [.ref 0] (xC h nc ni np nl (n 1) f g jc jr) xnwB (fun r h' => r = some (.int 1) ∧ ∃ jc jr, h' = xC h nc ni np nl (n 1) f g jc jr) := by
  have hnl := JI_nl hJ (by omega)
  obtain ⟨hI, ⟨t9, ht, ht2, hG⟩, hLl⟩ := id hJ
  obtain ⟨-, -, -, -, hc6, hi24, hp24, hl16⟩ := id hI
  refine xMetP_of hflags (by decide +kernel) (fun j h1 h2 => by omega) (Nat.le_of_ble_eq_true rfl) ?_
  intro E C hN hret
  refine a_loc [(0, .ref 0)] (xsub_cons rfl (xsub_nil)) ?_
  refine a_aload_n (i := 0) C dL_refuses_0 rfl rfl ?_
  refine a_callSP (na := 1) C hN dL_refuses_1 ⟨tb768, tb23, tb769, ⟨by decide, by decide, by decide +kernel⟩⟩ tb767 (p_now hflags hbs hJ hq) rfl rfl (Nat.le_of_ble_eq_true rfl) ⟨Nat.le_of_ble_eq_true rfl, Nat.le_of_ble_eq_true rfl⟩ ⟨Nat.le_of_ble_eq_true rfl, Nat.le_of_ble_eq_true rfl⟩ (fun _ h => h.elim) xav_no (fun r1 hp1 hq1 => ?_)
  obtain ⟨rfl, jc1, jr1, rfl⟩ := hq1
  refine a_lstore_n (i := 1) C dL_refuses_4 rfl (by decide) ?_
  refine a_aload_n (i := 0) C dL_refuses_5 rfl rfl ?_
  refine a_callV C dL_refuses_6 cv_X6_invoices tb146 (k_invoices hflags) rfl rfl xC_0 rfl (Nat.le_of_ble_eq_true rfl) ⟨Nat.le_of_ble_eq_true rfl, Nat.le_of_ble_eq_true rfl⟩ ⟨Nat.le_of_ble_eq_true rfl, Nat.le_of_ble_eq_true rfl⟩ (fun _ h => h.elim) xav_no (fun _ _ h => h.elim) (fun r6 hp6 hq6 => ?_)
  obtain ⟨rfl, rfl⟩ := hq6
  refine a_istore_n (i := 3) C dL_refuses_9 rfl (by decide) ?_
  refine a_aload_n (i := 0) C dL_refuses_10 rfl rfl ?_
  refine a_callV C dL_refuses_11 cv_X6_customers tb138 (k_customers hflags) rfl rfl xC_0 rfl (Nat.le_of_ble_eq_true rfl) ⟨Nat.le_of_ble_eq_true rfl, Nat.le_of_ble_eq_true rfl⟩ ⟨Nat.le_of_ble_eq_true rfl, Nat.le_of_ble_eq_true rfl⟩ (fun _ h => h.elim) xav_no (fun _ _ h => h.elim) (fun r11 hp11 hq11 => ?_)
  obtain ⟨rfl, rfl⟩ := hq11
  refine a_istore (i := 4) C dL_refuses_14 (by decide) ?_
  refine a_aload_n (i := 0) C dL_refuses_16 rfl rfl ?_
  refine a_callV C dL_refuses_17 cv_X6_payments tb150 (k_payments hflags) rfl rfl xC_0 rfl (Nat.le_of_ble_eq_true rfl) ⟨Nat.le_of_ble_eq_true rfl, Nat.le_of_ble_eq_true rfl⟩ ⟨Nat.le_of_ble_eq_true rfl, Nat.le_of_ble_eq_true rfl⟩ (fun _ h => h.elim) xav_no (fun _ _ h => h.elim) (fun r17 hp17 hq17 => ?_)
  obtain ⟨rfl, rfl⟩ := hq17
  refine a_istore (i := 5) C dL_refuses_20 (by decide) ?_
  refine a_loc [(0, .ref 0), (1, .long (yN2 n f g nc nl ni np)), (3, .int (nI ni)), (4, .int (nI nc)), (5, .int (nI np))] (xsub_cons rfl (xsub_cons rfl (xsub_cons rfl (xsub_cons rfl (xsub_cons rfl (xsub_nil)))))) ?_
  refine a_aload_n (i := 0) C dL_refuses_22 rfl rfl ?_
  refine a_iconst (v := 3) C dL_refuses_23 (by decide) ?_
  refine a_iconst (v := 0) C dL_refuses_24 (by decide) ?_
  refine a_iconst (v := 0) C dL_refuses_25 (by decide) ?_
  refine a_callSN (na := 4) C hN dL_refuses_26 ⟨tb160, tb23, tb161, ⟨by decide, by decide, by decide +kernel⟩⟩ tb159 (w_customer hflags hbs hJ hq) rfl rfl (Nat.le_of_ble_eq_true rfl) ⟨Nat.le_of_ble_eq_true rfl, Nat.le_of_ble_eq_true rfl⟩ ⟨Nat.le_of_ble_eq_true rfl, Nat.le_of_ble_eq_true rfl⟩ (fun _ h => h) ⟨fun q hq j hj => (by simp only [List.mem_cons, List.not_mem_nil, or_false] at hq; rcases hq with rfl | rfl | rfl | rfl | rfl <;> first | exact Value.noConfusion hj | exact xnwB_law (by decide) (Value.ref.inj hj)), fun v hv => nomatch hv⟩ (fun r26 hp26 hq26 => ?_)
  obtain ⟨rfl, jc26, jr26, rfl⟩ := pP_no (k := 1) (v := eV) hq26 (show (o_addCustomer nc 3 0 0 n f g).2.1 0 = 1 from by unfold o_addCustomer; rw [if_pos (by decide)]; rfl) (by decide) rfl
  refine a_ldc2 C dL_refuses_29 tb339 ?_
  refine a_lcmp C dL_refuses_32 ?_
  refine a_if_ne (tgt := 407) C dL_refuses_33 (by decide) (fun c33 => ?_) (fun c33 => ?_)
  · exact absurd (lcmp_eq.mpr rfl) c33
  · refine a_aload_n (i := 0) C dL_refuses_36 rfl rfl ?_
    refine a_iconst (v := 0) C dL_refuses_37 (by decide) ?_
    refine a_iconst (v := 0) C dL_refuses_38 (by decide) ?_
    refine a_sipush (v := 3001) C dL_refuses_39 (by decide) ?_
    refine a_callSN (na := 4) C hN dL_refuses_42 ⟨tb160, tb23, tb161, ⟨by decide, by decide, by decide +kernel⟩⟩ tb159 (w_customer hflags hbs hJ hq) rfl rfl (Nat.le_of_ble_eq_true rfl) ⟨Nat.le_of_ble_eq_true rfl, Nat.le_of_ble_eq_true rfl⟩ ⟨Nat.le_of_ble_eq_true rfl, Nat.le_of_ble_eq_true rfl⟩ (fun _ h => h) ⟨fun q hq j hj => (by simp only [List.mem_cons, List.not_mem_nil, or_false] at hq; rcases hq with rfl | rfl | rfl | rfl | rfl <;> first | exact Value.noConfusion hj | exact xnwB_law (by decide) (Value.ref.inj hj)), fun v hv => nomatch hv⟩ (fun r42 hp42 hq42 => ?_)
    obtain ⟨rfl, jc42, jr42, rfl⟩ := pP_no (k := 1) (v := eV) hq42 (show (o_addCustomer nc 0 0 3001 n f g).2.1 0 = 1 from by unfold o_addCustomer; rw [if_pos (by decide)]; rfl) (by decide) rfl
    refine a_ldc2 C dL_refuses_45 tb339 ?_
    refine a_lcmp C dL_refuses_48 ?_
    refine a_if_ne (tgt := 407) C dL_refuses_49 (by decide) (fun c49 => ?_) (fun c49 => ?_)
    · exact absurd (lcmp_eq.mpr rfl) c49
    · refine a_aload_n (i := 0) C dL_refuses_52 rfl rfl ?_
      refine a_iload (i := 4) C dL_refuses_53 rfl ?_
      refine a_iconst (v := 0) C dL_refuses_55 (by decide) ?_
      refine a_callSN (na := 3) C hN dL_refuses_56 ⟨tb342, tb23, tb343, ⟨by decide, by decide, by decide +kernel⟩⟩ tb341 (w_rule hflags hbs hJ hq) rfl rfl (Nat.le_of_ble_eq_true rfl) ⟨Nat.le_of_ble_eq_true rfl, Nat.le_of_ble_eq_true rfl⟩ ⟨Nat.le_of_ble_eq_true rfl, Nat.le_of_ble_eq_true rfl⟩ (fun _ h => h.elim) xav_no (fun r56 hp56 hq56 => ?_)
      obtain ⟨rfl, jc56, jr56, rfl⟩ := pP_no (k := 1) (v := eP) hq56 (show (o_setRule nc (nI nc) 0 n f g).2.1 0 = 1 from by unfold o_setRule; rw [if_pos (xin_out (by omega))]; rfl) (by decide) rfl
      refine a_ldc2 C dL_refuses_59 tb386 ?_
      refine a_lcmp C dL_refuses_62 ?_
      refine a_if_ne (tgt := 407) C dL_refuses_63 (by decide) (fun c63 => ?_) (fun c63 => ?_)
      · exact absurd (lcmp_eq.mpr rfl) c63
      · refine a_aload_n (i := 0) C dL_refuses_66 rfl rfl ?_
        refine a_iconst (v := 0) C dL_refuses_67 (by decide) ?_
        refine a_iconst (v := 3) C dL_refuses_68 (by decide) ?_
        refine a_callSN (na := 3) C hN dL_refuses_69 ⟨tb342, tb23, tb343, ⟨by decide, by decide, by decide +kernel⟩⟩ tb341 (w_rule hflags hbs hJ hq) rfl rfl (Nat.le_of_ble_eq_true rfl) ⟨Nat.le_of_ble_eq_true rfl, Nat.le_of_ble_eq_true rfl⟩ ⟨Nat.le_of_ble_eq_true rfl, Nat.le_of_ble_eq_true rfl⟩ (fun _ h => h.elim) xav_no (fun r69 hp69 hq69 => ?_)
        obtain ⟨rfl, jc69, jr69, rfl⟩ := pP_no (k := 2) (v := eV) hq69 (show (o_setRule nc 0 3 n f g).2.1 0 = 2 from by unfold o_setRule; rw [if_neg (fun z => z (xin_0 hc0 (by omega))), if_pos (by decide)]; rfl) (by decide) rfl
        refine a_ldc2 C dL_refuses_72 tb339 ?_
        refine a_lcmp C dL_refuses_75 ?_
        refine a_if_ne (tgt := 407) C dL_refuses_76 (by decide) (fun c76 => ?_) (fun c76 => ?_)
        · exact absurd (lcmp_eq.mpr rfl) c76
        · refine a_aload_n (i := 0) C dL_refuses_79 rfl rfl ?_
          refine a_iconst (v := 0) C dL_refuses_80 (by decide) ?_
          refine a_iconst (v := (-1)) C dL_refuses_81 (by decide) ?_
          refine a_callSN (na := 3) C hN dL_refuses_82 ⟨tb792, tb23, tb793, ⟨by decide, by decide, by decide +kernel⟩⟩ tb791 (w_rate hflags hbs hJ hq) rfl rfl (Nat.le_of_ble_eq_true rfl) ⟨Nat.le_of_ble_eq_true rfl, Nat.le_of_ble_eq_true rfl⟩ ⟨Nat.le_of_ble_eq_true rfl, Nat.le_of_ble_eq_true rfl⟩ (fun _ h => h.elim) xav_no (fun r82 hp82 hq82 => ?_)
          obtain ⟨rfl, jc82, jr82, rfl⟩ := pP_no (k := 2) (v := eV) hq82 (show (o_setRate nc 0 (-1) n f g).2.1 0 = 2 from by unfold o_setRate; rw [if_neg (fun z => z (xin_0 hc0 (by omega))), if_pos (by decide)]; rfl) (by decide) rfl
          refine a_ldc2 C dL_refuses_85 tb339 ?_
          refine a_lcmp C dL_refuses_88 ?_
          refine a_if_ne (tgt := 407) C dL_refuses_89 (by decide) (fun c89 => ?_) (fun c89 => ?_)
          · exact absurd (lcmp_eq.mpr rfl) c89
          · refine a_aload_n (i := 0) C dL_refuses_92 rfl rfl ?_
            refine a_iconst (v := (-1)) C dL_refuses_93 (by decide) ?_
            refine a_iconst (v := 0) C dL_refuses_94 (by decide) ?_
            refine a_callSN (na := 3) C hN dL_refuses_95 ⟨tb388, tb23, tb389, ⟨by decide, by decide, by decide +kernel⟩⟩ tb387 (w_pause hflags hbs hJ hq) rfl rfl (Nat.le_of_ble_eq_true rfl) ⟨Nat.le_of_ble_eq_true rfl, Nat.le_of_ble_eq_true rfl⟩ ⟨Nat.le_of_ble_eq_true rfl, Nat.le_of_ble_eq_true rfl⟩ (fun _ h => h.elim) xav_no (fun r95 hp95 hq95 => ?_)
            obtain ⟨rfl, jc95, jr95, rfl⟩ := pP_no (k := 1) (v := eP) hq95 (show (o_pause nc (-1) 0 n f g).2.1 0 = 1 from by unfold o_pause; rw [if_pos xin_m1]; rfl) (by decide) rfl
            refine a_ldc2 C dL_refuses_98 tb386 ?_
            refine a_lcmp C dL_refuses_101 ?_
            refine a_if_ne (tgt := 407) C dL_refuses_102 (by decide) (fun c102 => ?_) (fun c102 => ?_)
            · exact absurd (lcmp_eq.mpr rfl) c102
            · refine a_aload_n (i := 0) C dL_refuses_105 rfl rfl ?_
              refine a_iconst (v := 0) C dL_refuses_106 (by decide) ?_
              refine a_iconst (v := (-1)) C dL_refuses_107 (by decide) ?_
              refine a_callSN (na := 3) C hN dL_refuses_108 ⟨tb388, tb23, tb389, ⟨by decide, by decide, by decide +kernel⟩⟩ tb387 (w_pause hflags hbs hJ hq) rfl rfl (Nat.le_of_ble_eq_true rfl) ⟨Nat.le_of_ble_eq_true rfl, Nat.le_of_ble_eq_true rfl⟩ ⟨Nat.le_of_ble_eq_true rfl, Nat.le_of_ble_eq_true rfl⟩ (fun _ h => h.elim) xav_no (fun r108 hp108 hq108 => ?_)
              obtain ⟨rfl, jc108, jr108, rfl⟩ := pP_no (k := 2) (v := eV) hq108 (show (o_pause nc 0 (-1) n f g).2.1 0 = 2 from by unfold o_pause; rw [if_neg (fun z => z (xin_0 hc0 (by omega))), if_pos (by decide)]; rfl) (by decide) rfl
              refine a_ldc2 C dL_refuses_111 tb339 ?_
              refine a_lcmp C dL_refuses_114 ?_
              refine a_if_ne (tgt := 407) C dL_refuses_115 (by decide) (fun c115 => ?_) (fun c115 => ?_)
              · exact absurd (lcmp_eq.mpr rfl) c115
              · refine a_aload_n (i := 0) C dL_refuses_118 rfl rfl ?_
                refine a_iconst (v := 0) C dL_refuses_119 (by decide) ?_
                refine a_callSN (na := 2) C hN dL_refuses_120 ⟨tb395, tb23, tb396, ⟨by decide, by decide, by decide +kernel⟩⟩ tb394 (w_pass hflags hbs hJ hq) rfl rfl (Nat.le_of_ble_eq_true rfl) ⟨Nat.le_of_ble_eq_true rfl, Nat.le_of_ble_eq_true rfl⟩ ⟨Nat.le_of_ble_eq_true rfl, Nat.le_of_ble_eq_true rfl⟩ (fun _ h => h.elim) xav_no (fun r120 hp120 hq120 => ?_)
                obtain ⟨rfl, jc120, jr120, rfl⟩ := pP_no (k := 1) (v := eV) hq120 (show (o_passDays ni 0 n f g).2.1 0 = 1 from by unfold o_passDays; rw [if_pos (by decide)]; rfl) (by decide) rfl
                refine a_ldc2 C dL_refuses_123 tb339 ?_
                refine a_lcmp C dL_refuses_126 ?_
                refine a_if_ne (tgt := 407) C dL_refuses_127 (by decide) (fun c127 => ?_) (fun c127 => ?_)
                · exact absurd (lcmp_eq.mpr rfl) c127
                · refine a_aload_n (i := 0) C dL_refuses_130 rfl rfl ?_
                  refine a_sipush (v := 401) C dL_refuses_131 (by decide) ?_
                  refine a_callSN (na := 2) C hN dL_refuses_134 ⟨tb395, tb23, tb396, ⟨by decide, by decide, by decide +kernel⟩⟩ tb394 (w_pass hflags hbs hJ hq) rfl rfl (Nat.le_of_ble_eq_true rfl) ⟨Nat.le_of_ble_eq_true rfl, Nat.le_of_ble_eq_true rfl⟩ ⟨Nat.le_of_ble_eq_true rfl, Nat.le_of_ble_eq_true rfl⟩ (fun _ h => h.elim) xav_no (fun r134 hp134 hq134 => ?_)
                  obtain ⟨rfl, jc134, jr134, rfl⟩ := pP_no (k := 1) (v := eV) hq134 (show (o_passDays ni 401 n f g).2.1 0 = 1 from by unfold o_passDays; rw [if_pos (by decide)]; rfl) (by decide) rfl
                  refine a_ldc2 C dL_refuses_137 tb339 ?_
                  refine a_lcmp C dL_refuses_140 ?_
                  refine a_if_ne (tgt := 407) C dL_refuses_141 (by decide) (fun c141 => ?_) (fun c141 => ?_)
                  · exact absurd (lcmp_eq.mpr rfl) c141
                  · refine a_aload_n (i := 0) C dL_refuses_144 rfl rfl ?_
                    refine a_iload (i := 4) C dL_refuses_145 rfl ?_
                    refine a_iconst (v := 1) C dL_refuses_147 (by decide) ?_
                    refine a_iconst (v := 0) C dL_refuses_148 (by decide) ?_
                    refine a_callSN (na := 4) C hN dL_refuses_149 ⟨tb448, tb23, tb449, ⟨by decide, by decide, by decide +kernel⟩⟩ tb447 (v_invoice hflags hbs hJ hq (show ¬ (o_postInvoice nc ni nl (nI nc) 1 0 n f g).2.1 0 = 0 from by rw [(show (o_postInvoice nc ni nl (nI nc) 1 0 n f g).2.1 0 = 1 from by unfold o_postInvoice; rw [if_pos (xin_out (by omega))]; rfl)]; decide)) rfl rfl (Nat.le_of_ble_eq_true rfl) ⟨Nat.le_of_ble_eq_true rfl, Nat.le_of_ble_eq_true rfl⟩ ⟨Nat.le_of_ble_eq_true rfl, Nat.le_of_ble_eq_true rfl⟩ (fun _ h => h.elim) xav_no (fun r149 hp149 hq149 => ?_)
                    obtain ⟨rfl, jc149, jr149, rfl⟩ := pP_no (k := 1) (v := eP) hq149 (show (o_postInvoice nc ni nl (nI nc) 1 0 n f g).2.1 0 = 1 from by unfold o_postInvoice; rw [if_pos (xin_out (by omega))]; rfl) (by decide) rfl
                    refine a_ldc2 C dL_refuses_152 tb386 ?_
                    refine a_lcmp C dL_refuses_155 ?_
                    refine a_if_ne (tgt := 407) C dL_refuses_156 (by decide) (fun c156 => ?_) (fun c156 => ?_)
                    · exact absurd (lcmp_eq.mpr rfl) c156
                    · refine a_aload_n (i := 0) C dL_refuses_159 rfl rfl ?_
                      refine a_iconst (v := 0) C dL_refuses_160 (by decide) ?_
                      refine a_iconst (v := 0) C dL_refuses_161 (by decide) ?_
                      refine a_iconst (v := 0) C dL_refuses_162 (by decide) ?_
                      refine a_callSN (na := 4) C hN dL_refuses_163 ⟨tb448, tb23, tb449, ⟨by decide, by decide, by decide +kernel⟩⟩ tb447 (v_invoice hflags hbs hJ hq (show ¬ (o_postInvoice nc ni nl 0 0 0 n f g).2.1 0 = 0 from by rw [(show (o_postInvoice nc ni nl 0 0 0 n f g).2.1 0 = 2 from by unfold o_postInvoice; rw [if_neg (fun z => z (xin_0 hc0 (by omega))), if_pos (by decide)]; rfl)]; decide)) rfl rfl (Nat.le_of_ble_eq_true rfl) ⟨Nat.le_of_ble_eq_true rfl, Nat.le_of_ble_eq_true rfl⟩ ⟨Nat.le_of_ble_eq_true rfl, Nat.le_of_ble_eq_true rfl⟩ (fun _ h => h.elim) xav_no (fun r163 hp163 hq163 => ?_)
                      obtain ⟨rfl, jc163, jr163, rfl⟩ := pP_no (k := 2) (v := eV) hq163 (show (o_postInvoice nc ni nl 0 0 0 n f g).2.1 0 = 2 from by unfold o_postInvoice; rw [if_neg (fun z => z (xin_0 hc0 (by omega))), if_pos (by decide)]; rfl) (by decide) rfl
                      refine a_ldc2 C dL_refuses_166 tb339 ?_
                      refine a_lcmp C dL_refuses_169 ?_
                      refine a_if_ne (tgt := 407) C dL_refuses_170 (by decide) (fun c170 => ?_) (fun c170 => ?_)
                      · exact absurd (lcmp_eq.mpr rfl) c170
                      · refine a_aload_n (i := 0) C dL_refuses_173 rfl rfl ?_
                        refine a_iconst (v := 0) C dL_refuses_174 (by decide) ?_
                        refine a_iconst (v := 1) C dL_refuses_175 (by decide) ?_
                        refine a_bipush (v := 121) C dL_refuses_176 (by decide) ?_
                        refine a_callSN (na := 4) C hN dL_refuses_178 ⟨tb448, tb23, tb449, ⟨by decide, by decide, by decide +kernel⟩⟩ tb447 (v_invoice hflags hbs hJ hq (show ¬ (o_postInvoice nc ni nl 0 1 121 n f g).2.1 0 = 0 from by rw [(show (o_postInvoice nc ni nl 0 1 121 n f g).2.1 0 = 2 from by unfold o_postInvoice; rw [if_neg (fun z => z (xin_0 hc0 (by omega))), if_pos (by decide)]; rfl)]; decide)) rfl rfl (Nat.le_of_ble_eq_true rfl) ⟨Nat.le_of_ble_eq_true rfl, Nat.le_of_ble_eq_true rfl⟩ ⟨Nat.le_of_ble_eq_true rfl, Nat.le_of_ble_eq_true rfl⟩ (fun _ h => h.elim) xav_no (fun r178 hp178 hq178 => ?_)
                        obtain ⟨rfl, jc178, jr178, rfl⟩ := pP_no (k := 2) (v := eV) hq178 (show (o_postInvoice nc ni nl 0 1 121 n f g).2.1 0 = 2 from by unfold o_postInvoice; rw [if_neg (fun z => z (xin_0 hc0 (by omega))), if_pos (by decide)]; rfl) (by decide) rfl
                        refine a_ldc2 C dL_refuses_181 tb339 ?_
                        refine a_lcmp C dL_refuses_184 ?_
                        refine a_if_ne (tgt := 407) C dL_refuses_185 (by decide) (fun c185 => ?_) (fun c185 => ?_)
                        · exact absurd (lcmp_eq.mpr rfl) c185
                        · refine a_aload_n (i := 0) C dL_refuses_188 rfl rfl ?_
                          refine a_iload (i := 4) C dL_refuses_189 rfl ?_
                          refine a_iconst (v := 1) C dL_refuses_191 (by decide) ?_
                          refine a_callSN (na := 3) C hN dL_refuses_192 ⟨tb799, tb23, tb800, ⟨by decide, by decide, by decide +kernel⟩⟩ tb798 (v_pay hflags hbs hJ hq (show ¬ (o_postPayment nc ni np nl (nI nc) 1 n f g).2.1 0 = 0 from by rw [(show (o_postPayment nc ni np nl (nI nc) 1 n f g).2.1 0 = 1 from by unfold o_postPayment; rw [if_pos (xin_out (by omega))]; rfl)]; decide)) rfl rfl (Nat.le_of_ble_eq_true rfl) ⟨Nat.le_of_ble_eq_true rfl, Nat.le_of_ble_eq_true rfl⟩ ⟨Nat.le_of_ble_eq_true rfl, Nat.le_of_ble_eq_true rfl⟩ (fun _ h => h.elim) xav_no (fun r192 hp192 hq192 => ?_)
                          obtain ⟨rfl, jc192, jr192, rfl⟩ := pP_no (k := 1) (v := eP) hq192 (show (o_postPayment nc ni np nl (nI nc) 1 n f g).2.1 0 = 1 from by unfold o_postPayment; rw [if_pos (xin_out (by omega))]; rfl) (by decide) rfl
                          refine a_ldc2 C dL_refuses_195 tb386 ?_
                          refine a_lcmp C dL_refuses_198 ?_
                          refine a_if_ne (tgt := 407) C dL_refuses_199 (by decide) (fun c199 => ?_) (fun c199 => ?_)
                          · exact absurd (lcmp_eq.mpr rfl) c199
                          · refine a_aload_n (i := 0) C dL_refuses_202 rfl rfl ?_
                            refine a_iconst (v := 0) C dL_refuses_203 (by decide) ?_
                            refine a_iconst (v := 0) C dL_refuses_204 (by decide) ?_
                            refine a_callSN (na := 3) C hN dL_refuses_205 ⟨tb799, tb23, tb800, ⟨by decide, by decide, by decide +kernel⟩⟩ tb798 (v_pay hflags hbs hJ hq (show ¬ (o_postPayment nc ni np nl 0 0 n f g).2.1 0 = 0 from by rw [(show (o_postPayment nc ni np nl 0 0 n f g).2.1 0 = 2 from by unfold o_postPayment; rw [if_neg (fun z => z (xin_0 hc0 (by omega))), if_pos (by decide)]; rfl)]; decide)) rfl rfl (Nat.le_of_ble_eq_true rfl) ⟨Nat.le_of_ble_eq_true rfl, Nat.le_of_ble_eq_true rfl⟩ ⟨Nat.le_of_ble_eq_true rfl, Nat.le_of_ble_eq_true rfl⟩ (fun _ h => h.elim) xav_no (fun r205 hp205 hq205 => ?_)
                            obtain ⟨rfl, jc205, jr205, rfl⟩ := pP_no (k := 2) (v := eV) hq205 (show (o_postPayment nc ni np nl 0 0 n f g).2.1 0 = 2 from by unfold o_postPayment; rw [if_neg (fun z => z (xin_0 hc0 (by omega))), if_pos (by decide)]; rfl) (by decide) rfl
                            refine a_ldc2 C dL_refuses_208 tb339 ?_
                            refine a_lcmp C dL_refuses_211 ?_
                            refine a_if_ne (tgt := 407) C dL_refuses_212 (by decide) (fun c212 => ?_) (fun c212 => ?_)
                            · exact absurd (lcmp_eq.mpr rfl) c212
                            · refine a_aload_n (i := 0) C dL_refuses_215 rfl rfl ?_
                              refine a_iload (i := 5) C dL_refuses_216 rfl ?_
                              refine a_iconst (v := 0) C dL_refuses_218 (by decide) ?_
                              refine a_iconst (v := 1) C dL_refuses_219 (by decide) ?_
                              refine a_callSN (na := 4) C hN dL_refuses_220 ⟨tb524, tb23, tb525, ⟨by decide, by decide, by decide +kernel⟩⟩ tb523 (v_allocate hflags hbs hJ hq (show ¬ (o_allocate ni np nl (nI np) 0 1 n f g).2.1 0 = 0 from by rw [(show (o_allocate ni np nl (nI np) 0 1 n f g).2.1 0 = 1 from by unfold o_allocate; rw [if_pos (fun z => xin_out (by omega) z.1)]; rfl)]; decide)) rfl rfl (Nat.le_of_ble_eq_true rfl) ⟨Nat.le_of_ble_eq_true rfl, Nat.le_of_ble_eq_true rfl⟩ ⟨Nat.le_of_ble_eq_true rfl, Nat.le_of_ble_eq_true rfl⟩ (fun _ h => h.elim) xav_no (fun r220 hp220 hq220 => ?_)
                              obtain ⟨rfl, jc220, jr220, rfl⟩ := pP_no (k := 1) (v := eP) hq220 (show (o_allocate ni np nl (nI np) 0 1 n f g).2.1 0 = 1 from by unfold o_allocate; rw [if_pos (fun z => xin_out (by omega) z.1)]; rfl) (by decide) rfl
                              refine a_ldc2 C dL_refuses_223 tb386 ?_
                              refine a_lcmp C dL_refuses_226 ?_
                              refine a_if_ne (tgt := 407) C dL_refuses_227 (by decide) (fun c227 => ?_) (fun c227 => ?_)
                              · exact absurd (lcmp_eq.mpr rfl) c227
                              · refine a_aload_n (i := 0) C dL_refuses_230 rfl rfl ?_
                                refine a_iload (i := 4) C dL_refuses_231 rfl ?_
                                refine a_callSN (na := 2) C hN dL_refuses_233 ⟨tb566, tb23, tb567, ⟨by decide, by decide, by decide +kernel⟩⟩ tb565 (v_rest hflags hbs hJ hq (show ¬ (o_allocateRest nc ni np nl (nI nc) n f g).2.1 0 = 0 from by rw [(show (o_allocateRest nc ni np nl (nI nc) n f g).2.1 0 = 1 from by unfold o_allocateRest; rw [if_pos (xin_out (by omega))]; rfl)]; decide)) rfl rfl (Nat.le_of_ble_eq_true rfl) ⟨Nat.le_of_ble_eq_true rfl, Nat.le_of_ble_eq_true rfl⟩ ⟨Nat.le_of_ble_eq_true rfl, Nat.le_of_ble_eq_true rfl⟩ (fun _ h => h.elim) xav_no (fun r233 hp233 hq233 => ?_)
                                obtain ⟨rfl, jc233, jr233, rfl⟩ := pP_no (k := 1) (v := eP) hq233 (show (o_allocateRest nc ni np nl (nI nc) n f g).2.1 0 = 1 from by unfold o_allocateRest; rw [if_pos (xin_out (by omega))]; rfl) (by decide) rfl
                                refine a_ldc2 C dL_refuses_236 tb386 ?_
                                refine a_lcmp C dL_refuses_239 ?_
                                refine a_if_ne (tgt := 407) C dL_refuses_240 (by decide) (fun c240 => ?_) (fun c240 => ?_)
                                · exact absurd (lcmp_eq.mpr rfl) c240
                                · refine a_aload_n (i := 0) C dL_refuses_243 rfl rfl ?_
                                  refine a_iload (i := 5) C dL_refuses_244 rfl ?_
                                  refine a_iconst (v := 0) C dL_refuses_246 (by decide) ?_
                                  refine a_callSN (na := 3) C hN dL_refuses_247 ⟨tb637, tb23, tb638, ⟨by decide, by decide, by decide +kernel⟩⟩ tb636 (v_release hflags hbs hJ hq (show ¬ (o_release ni np nl (nI np) 0 n f g).2.1 0 = 0 from by rw [(show (o_release ni np nl (nI np) 0 n f g).2.1 0 = 1 from by unfold o_release; rw [if_pos (fun z => xin_out (by omega) z.1)]; rfl)]; decide)) rfl rfl (Nat.le_of_ble_eq_true rfl) ⟨Nat.le_of_ble_eq_true rfl, Nat.le_of_ble_eq_true rfl⟩ ⟨Nat.le_of_ble_eq_true rfl, Nat.le_of_ble_eq_true rfl⟩ (fun _ h => h.elim) xav_no (fun r247 hp247 hq247 => ?_)
                                  obtain ⟨rfl, jc247, jr247, rfl⟩ := pP_no (k := 1) (v := eP) hq247 (show (o_release ni np nl (nI np) 0 n f g).2.1 0 = 1 from by unfold o_release; rw [if_pos (fun z => xin_out (by omega) z.1)]; rfl) (by decide) rfl
                                  refine a_ldc2 C dL_refuses_250 tb386 ?_
                                  refine a_lcmp C dL_refuses_253 ?_
                                  refine a_if_ne (tgt := 407) C dL_refuses_254 (by decide) (fun c254 => ?_) (fun c254 => ?_)
                                  · exact absurd (lcmp_eq.mpr rfl) c254
                                  · refine a_aload_n (i := 0) C dL_refuses_257 rfl rfl ?_
                                    refine a_iload (i := 5) C dL_refuses_258 rfl ?_
                                    refine a_callSN (na := 2) C hN dL_refuses_260 ⟨tb656, tb23, tb657, ⟨by decide, by decide, by decide +kernel⟩⟩ tb655 (v_reverse hflags hbs hJ hq (show ¬ (o_reverse ni np nl (nI np) n f g).2.1 0 = 0 from by rw [(show (o_reverse ni np nl (nI np) n f g).2.1 0 = 1 from by unfold o_reverse; rw [if_pos (xin_out (by omega))]; rfl)]; decide)) rfl rfl (Nat.le_of_ble_eq_true rfl) ⟨Nat.le_of_ble_eq_true rfl, Nat.le_of_ble_eq_true rfl⟩ ⟨Nat.le_of_ble_eq_true rfl, Nat.le_of_ble_eq_true rfl⟩ (fun _ h => h.elim) xav_no (fun r260 hp260 hq260 => ?_)
                                    obtain ⟨rfl, jc260, jr260, rfl⟩ := pP_no (k := 1) (v := eP) hq260 (show (o_reverse ni np nl (nI np) n f g).2.1 0 = 1 from by unfold o_reverse; rw [if_pos (xin_out (by omega))]; rfl) (by decide) rfl
                                    refine a_ldc2 C dL_refuses_263 tb386 ?_
                                    refine a_lcmp C dL_refuses_266 ?_
                                    refine a_if_ne (tgt := 407) C dL_refuses_267 (by decide) (fun c267 => ?_) (fun c267 => ?_)
                                    · exact absurd (lcmp_eq.mpr rfl) c267
                                    · refine a_aload_n (i := 0) C dL_refuses_270 rfl rfl ?_
                                      refine a_iload_n (i := 3) C dL_refuses_271 rfl rfl ?_
                                      refine a_iconst (v := 1) C dL_refuses_272 (by decide) ?_
                                      refine a_callSN (na := 3) C hN dL_refuses_273 ⟨tb829, tb23, tb830, ⟨by decide, by decide, by decide +kernel⟩⟩ tb828 (w_dispute hflags hbs hJ hq) rfl rfl (Nat.le_of_ble_eq_true rfl) ⟨Nat.le_of_ble_eq_true rfl, Nat.le_of_ble_eq_true rfl⟩ ⟨Nat.le_of_ble_eq_true rfl, Nat.le_of_ble_eq_true rfl⟩ (fun _ h => h.elim) xav_no (fun r273 hp273 hq273 => ?_)
                                      obtain ⟨rfl, jc273, jr273, rfl⟩ := pP_no (k := 1) (v := eP) hq273 (show (o_dispute ni (nI ni) 1 n f g).2.1 0 = 1 from by unfold o_dispute; rw [if_pos (xin_out (by omega))]; rfl) (by decide) rfl
                                      refine a_ldc2 C dL_refuses_276 tb386 ?_
                                      refine a_lcmp C dL_refuses_279 ?_
                                      refine a_if_ne (tgt := 407) C dL_refuses_280 (by decide) (fun c280 => ?_) (fun c280 => ?_)
                                      · exact absurd (lcmp_eq.mpr rfl) c280
                                      · refine a_aload_n (i := 0) C dL_refuses_283 rfl rfl ?_
                                        refine a_iload (i := 4) C dL_refuses_284 rfl ?_
                                        refine a_iconst (v := 1) C dL_refuses_286 (by decide) ?_
                                        refine a_callSN (na := 3) C hN dL_refuses_287 ⟨tb663, tb23, tb664, ⟨by decide, by decide, by decide +kernel⟩⟩ tb662 (w_disputeAll hflags hbs hJ hq) rfl rfl (Nat.le_of_ble_eq_true rfl) ⟨Nat.le_of_ble_eq_true rfl, Nat.le_of_ble_eq_true rfl⟩ ⟨Nat.le_of_ble_eq_true rfl, Nat.le_of_ble_eq_true rfl⟩ (fun _ h => h.elim) xav_no (fun r287 hp287 hq287 => ?_)
                                        obtain ⟨rfl, jc287, jr287, rfl⟩ := pP_no (k := 1) (v := eP) hq287 (show (o_disputeAll nc ni (nI nc) 1 n f g).2.1 0 = 1 from by unfold o_disputeAll; rw [if_pos (xin_out (by omega))]; rfl) (by decide) rfl
                                        refine a_ldc2 C dL_refuses_290 tb386 ?_
                                        refine a_lcmp C dL_refuses_293 ?_
                                        refine a_if_ne (tgt := 407) C dL_refuses_294 (by decide) (fun c294 => ?_) (fun c294 => ?_)
                                        · exact absurd (lcmp_eq.mpr rfl) c294
                                        · refine a_aload_n (i := 0) C dL_refuses_297 rfl rfl ?_
                                          refine a_iconst (v := 0) C dL_refuses_298 (by decide) ?_
                                          refine a_iconst (v := 0) C dL_refuses_299 (by decide) ?_
                                          refine a_callSN (na := 3) C hN dL_refuses_300 ⟨tb663, tb23, tb664, ⟨by decide, by decide, by decide +kernel⟩⟩ tb662 (w_disputeAll hflags hbs hJ hq) rfl rfl (Nat.le_of_ble_eq_true rfl) ⟨Nat.le_of_ble_eq_true rfl, Nat.le_of_ble_eq_true rfl⟩ ⟨Nat.le_of_ble_eq_true rfl, Nat.le_of_ble_eq_true rfl⟩ (fun _ h => h.elim) xav_no (fun r300 hp300 hq300 => ?_)
                                          obtain ⟨rfl, jc300, jr300, rfl⟩ := pP_no (k := 2) (v := eV) hq300 (show (o_disputeAll nc ni 0 0 n f g).2.1 0 = 2 from by unfold o_disputeAll; rw [if_neg (fun z => z (xin_0 hc0 (by omega))), if_pos (by decide)]; rfl) (by decide) rfl
                                          refine a_ldc2 C dL_refuses_303 tb339 ?_
                                          refine a_lcmp C dL_refuses_306 ?_
                                          refine a_if_ne (tgt := 407) C dL_refuses_307 (by decide) (fun c307 => ?_) (fun c307 => ?_)
                                          · exact absurd (lcmp_eq.mpr rfl) c307
                                          · refine a_aload_n (i := 0) C dL_refuses_310 rfl rfl ?_
                                            refine a_iload_n (i := 3) C dL_refuses_311 rfl rfl ?_
                                            refine a_iconst (v := 0) C dL_refuses_312 (by decide) ?_
                                            refine a_callSN (na := 3) C hN dL_refuses_313 ⟨tb672, tb23, tb673, ⟨by decide, by decide, by decide +kernel⟩⟩ tb671 (v_settle hflags hbs hJ hq (show ¬ (o_settle ni nl (nI ni) 0 n f g).2.1 0 = 0 from by rw [(show (o_settle ni nl (nI ni) 0 n f g).2.1 0 = 1 from by unfold o_settle; rw [if_pos (xin_out (by omega))]; rfl)]; decide)) rfl rfl (Nat.le_of_ble_eq_true rfl) ⟨Nat.le_of_ble_eq_true rfl, Nat.le_of_ble_eq_true rfl⟩ ⟨Nat.le_of_ble_eq_true rfl, Nat.le_of_ble_eq_true rfl⟩ (fun _ h => h.elim) xav_no (fun r313 hp313 hq313 => ?_)
                                            obtain ⟨rfl, jc313, jr313, rfl⟩ := pP_no (k := 1) (v := eP) hq313 (show (o_settle ni nl (nI ni) 0 n f g).2.1 0 = 1 from by unfold o_settle; rw [if_pos (xin_out (by omega))]; rfl) (by decide) rfl
                                            refine a_ldc2 C dL_refuses_316 tb386 ?_
                                            refine a_lcmp C dL_refuses_319 ?_
                                            refine a_if_ne (tgt := 407) C dL_refuses_320 (by decide) (fun c320 => ?_) (fun c320 => ?_)
                                            · exact absurd (lcmp_eq.mpr rfl) c320
                                            · refine a_aload_n (i := 0) C dL_refuses_323 rfl rfl ?_
                                              refine a_iload (i := 4) C dL_refuses_324 rfl ?_
                                              refine a_iconst (v := 0) C dL_refuses_326 (by decide) ?_
                                              refine a_callSN (na := 3) C hN dL_refuses_327 ⟨tb683, tb23, tb684, ⟨by decide, by decide, by decide +kernel⟩⟩ tb682 (v_charge hflags hbs hJ hq (show ¬ (o_charge nc ni nl (nI nc) 0 n f g).2.1 0 = 0 from by rw [(show (o_charge nc ni nl (nI nc) 0 n f g).2.1 0 = 1 from by unfold o_charge; rw [if_pos (xin_out (by omega))]; rfl)]; decide)) rfl rfl (Nat.le_of_ble_eq_true rfl) ⟨Nat.le_of_ble_eq_true rfl, Nat.le_of_ble_eq_true rfl⟩ ⟨Nat.le_of_ble_eq_true rfl, Nat.le_of_ble_eq_true rfl⟩ (fun _ h => h.elim) xav_no (fun r327 hp327 hq327 => ?_)
                                              obtain ⟨rfl, jc327, jr327, rfl⟩ := pP_no (k := 1) (v := eP) hq327 (show (o_charge nc ni nl (nI nc) 0 n f g).2.1 0 = 1 from by unfold o_charge; rw [if_pos (xin_out (by omega))]; rfl) (by decide) rfl
                                              refine a_ldc2 C dL_refuses_330 tb386 ?_
                                              refine a_lcmp C dL_refuses_333 ?_
                                              refine a_if_ne (tgt := 407) C dL_refuses_334 (by decide) (fun c334 => ?_) (fun c334 => ?_)
                                              · exact absurd (lcmp_eq.mpr rfl) c334
                                              · refine a_aload_n (i := 0) C dL_refuses_337 rfl rfl ?_
                                                refine a_iconst (v := 0) C dL_refuses_338 (by decide) ?_
                                                refine a_bipush (v := 121) C dL_refuses_339 (by decide) ?_
                                                refine a_callSN (na := 3) C hN dL_refuses_341 ⟨tb683, tb23, tb684, ⟨by decide, by decide, by decide +kernel⟩⟩ tb682 (v_charge hflags hbs hJ hq (show ¬ (o_charge nc ni nl 0 121 n f g).2.1 0 = 0 from by rw [(show (o_charge nc ni nl 0 121 n f g).2.1 0 = 2 from by unfold o_charge; rw [if_neg (fun z => z (xin_0 hc0 (by omega))), if_pos (by decide)]; rfl)]; decide)) rfl rfl (Nat.le_of_ble_eq_true rfl) ⟨Nat.le_of_ble_eq_true rfl, Nat.le_of_ble_eq_true rfl⟩ ⟨Nat.le_of_ble_eq_true rfl, Nat.le_of_ble_eq_true rfl⟩ (fun _ h => h.elim) xav_no (fun r341 hp341 hq341 => ?_)
                                                obtain ⟨rfl, jc341, jr341, rfl⟩ := pP_no (k := 2) (v := eV) hq341 (show (o_charge nc ni nl 0 121 n f g).2.1 0 = 2 from by unfold o_charge; rw [if_neg (fun z => z (xin_0 hc0 (by omega))), if_pos (by decide)]; rfl) (by decide) rfl
                                                refine a_ldc2 C dL_refuses_344 tb339 ?_
                                                refine a_lcmp C dL_refuses_347 ?_
                                                refine a_if_ne (tgt := 407) C dL_refuses_348 (by decide) (fun c348 => ?_) (fun c348 => ?_)
                                                · exact absurd (lcmp_eq.mpr rfl) c348
                                                · refine a_aload_n (i := 0) C dL_refuses_351 rfl rfl ?_
                                                  refine a_iconst (v := 0) C dL_refuses_352 (by decide) ?_
                                                  refine a_iconst (v := 5) C dL_refuses_353 (by decide) ?_
                                                  refine a_callSN (na := 3) C hN dL_refuses_354 ⟨tb836, tb23, tb837, ⟨by decide, by decide, by decide +kernel⟩⟩ tb835 (w_ageing hflags hbs hJ hq) rfl rfl (Nat.le_of_ble_eq_true rfl) ⟨Nat.le_of_ble_eq_true rfl, Nat.le_of_ble_eq_true rfl⟩ ⟨Nat.le_of_ble_eq_true rfl, Nat.le_of_ble_eq_true rfl⟩ (fun _ h => h.elim) xav_no (fun r354 hp354 hq354 => ?_)
                                                  obtain ⟨rfl, jc354, jr354, rfl⟩ := pP_rn (w := eP) hq354 (fun z => absurd z.2.2 (by decide)) rfl
                                                  refine a_ldc2 C dL_refuses_357 tb386 ?_
                                                  refine a_lcmp C dL_refuses_360 ?_
                                                  refine a_if_ne (tgt := 407) C dL_refuses_361 (by decide) (fun c361 => ?_) (fun c361 => ?_)
                                                  · exact absurd (lcmp_eq.mpr rfl) c361
                                                  · refine a_aload_n (i := 0) C dL_refuses_364 rfl rfl ?_
                                                    refine a_iconst (v := 5) C dL_refuses_365 (by decide) ?_
                                                    refine a_callSN (na := 2) C hN dL_refuses_366 ⟨tb847, tb23, tb848, ⟨by decide, by decide, by decide +kernel⟩⟩ tb846 (w_atLevel hflags hbs hJ hq) rfl rfl (Nat.le_of_ble_eq_true rfl) ⟨Nat.le_of_ble_eq_true rfl, Nat.le_of_ble_eq_true rfl⟩ ⟨Nat.le_of_ble_eq_true rfl, Nat.le_of_ble_eq_true rfl⟩ (fun _ h => h.elim) xav_no (fun r366 hp366 hq366 => ?_)
                                                    obtain ⟨rfl, jc366, jr366, rfl⟩ := pP_rn (w := eV) hq366 (fun z => absurd z.2 (by decide)) rfl
                                                    refine a_ldc2 C dL_refuses_369 tb339 ?_
                                                    refine a_lcmp C dL_refuses_372 ?_
                                                    refine a_if_ne (tgt := 407) C dL_refuses_373 (by decide) (fun c373 => ?_) (fun c373 => ?_)
                                                    · exact absurd (lcmp_eq.mpr rfl) c373
                                                    · refine a_aload_n (i := 0) C dL_refuses_376 rfl rfl ?_
                                                      refine a_aload_n (i := 0) C dL_refuses_377 rfl rfl ?_
                                                      refine a_callV C dL_refuses_378 cv_X6_ledgerLines tb771 (k_ledgerLines hflags) rfl rfl xC_0 rfl (Nat.le_of_ble_eq_true rfl) ⟨Nat.le_of_ble_eq_true rfl, Nat.le_of_ble_eq_true rfl⟩ ⟨Nat.le_of_ble_eq_true rfl, Nat.le_of_ble_eq_true rfl⟩ (fun _ h => h.elim) xav_no (fun _ _ h => h.elim) (fun r378 hp378 hq378 => ?_)
                                                      obtain ⟨rfl, rfl⟩ := hq378
                                                      refine a_callSN (na := 2) C hN dL_refuses_381 ⟨tb854, tb23, tb855, ⟨by decide, by decide, by decide +kernel⟩⟩ tb853 (w_lineOf hflags hbs hJ hq) rfl rfl (Nat.le_of_ble_eq_true rfl) ⟨Nat.le_of_ble_eq_true rfl, Nat.le_of_ble_eq_true rfl⟩ ⟨Nat.le_of_ble_eq_true rfl, Nat.le_of_ble_eq_true rfl⟩ (fun _ h => h.elim) xav_no (fun r381 hp381 hq381 => ?_)
                                                      obtain ⟨rfl, jc381, jr381, rfl⟩ := pP_rn (w := eP) hq381 (xin_out (by omega)) rfl
                                                      refine a_ldc2 C dL_refuses_384 tb386 ?_
                                                      refine a_lcmp C dL_refuses_387 ?_
                                                      refine a_if_ne (tgt := 407) C dL_refuses_388 (by decide) (fun c388 => ?_) (fun c388 => ?_)
                                                      · exact absurd (lcmp_eq.mpr rfl) c388
                                                      · refine a_aload_n (i := 0) C dL_refuses_391 rfl rfl ?_
                                                        refine a_iconst (v := (-1)) C dL_refuses_392 (by decide) ?_
                                                        refine a_callSN (na := 2) C hN dL_refuses_393 ⟨tb865, tb23, tb866, ⟨by decide, by decide, by decide +kernel⟩⟩ tb864 (w_lineAmount hflags hbs hJ hq) rfl rfl (Nat.le_of_ble_eq_true rfl) ⟨Nat.le_of_ble_eq_true rfl, Nat.le_of_ble_eq_true rfl⟩ ⟨Nat.le_of_ble_eq_true rfl, Nat.le_of_ble_eq_true rfl⟩ (fun _ h => h.elim) xav_no (fun r393 hp393 hq393 => ?_)
                                                        obtain ⟨rfl, jc393, jr393, rfl⟩ := pP_rn (w := eP) hq393 xin_m1 rfl
                                                        refine a_ldc2 C dL_refuses_396 tb386 ?_
                                                        refine a_lcmp C dL_refuses_399 ?_
                                                        refine a_if_ne (tgt := 407) C dL_refuses_400 (by decide) (fun c400 => ?_) (fun c400 => ?_)
                                                        · exact absurd (lcmp_eq.mpr rfl) c400
                                                        · refine a_iconst (v := 1) C dL_refuses_403 (by decide) ?_
                                                          refine a_goto (tgt := 408) C dL_refuses_404 (by decide) ?_
                                                          refine a_istore (i := 6) C dL_refuses_408 (by decide) ?_
                                                          refine a_iload (i := 6) C dL_refuses_410 rfl ?_
                                                          refine a_if_eq (tgt := 474) C dL_refuses_412 (by decide) (fun z => absurd z (by decide)) (fun _ => ?_)
                                                          refine a_iload_n (i := 3) C dL_refuses_415 rfl rfl ?_
                                                          refine a_if_eq (tgt := 461) C dL_refuses_416 (by decide) (fun c416 => ?_) (fun c416 => ?_)
                                                          · refine a_aload_n (i := 0) C dL_refuses_461 rfl rfl ?_
                                                            refine a_callSP (na := 1) C hN dL_refuses_462 ⟨tb768, tb23, tb769, ⟨by decide, by decide, by decide +kernel⟩⟩ tb767 (p_now hflags hbs hJ hq) rfl rfl (Nat.le_of_ble_eq_true rfl) ⟨Nat.le_of_ble_eq_true rfl, Nat.le_of_ble_eq_true rfl⟩ ⟨Nat.le_of_ble_eq_true rfl, Nat.le_of_ble_eq_true rfl⟩ (fun _ h => h.elim) xav_no (fun r462 hp462 hq462 => ?_)
                                                            obtain ⟨rfl, jc462, jr462, rfl⟩ := hq462
                                                            refine a_lload_n (i := 1) C dL_refuses_465 rfl rfl ?_
                                                            refine a_lcmp C dL_refuses_466 ?_
                                                            refine a_if_ne (tgt := 474) C dL_refuses_467 (by decide) (fun c467 => ?_) (fun c467 => ?_)
                                                            · exact absurd (lcmp_eq.mpr rfl) c467
                                                            · refine a_iconst (v := 1) C dL_refuses_470 (by decide) ?_
                                                              refine a_goto (tgt := 475) C dL_refuses_471 (by decide) ?_
                                                              exact a_zret C dL_refuses_475 (by first | rfl | exact bI_nar) (Nat.le_of_ble_eq_true rfl) (Nat.le_of_ble_eq_true rfl) (hret _ _ ⟨rfl, _, _, rfl⟩)
                                                          · have hi0 : 0 < ni := by
                                                              rcases Nat.eq_zero_or_pos ni with q | q
                                                              · exact absurd (by rw [q]; rfl) c416
                                                              · exact q
                                                            refine a_aload_n (i := 0) C dL_refuses_419 rfl rfl ?_
                                                            refine a_iconst (v := 0) C dL_refuses_420 (by decide) ?_
                                                            refine a_iconst (v := 0) C dL_refuses_421 (by decide) ?_
                                                            refine a_callSN (na := 3) C hN dL_refuses_422 ⟨tb829, tb23, tb830, ⟨by decide, by decide, by decide +kernel⟩⟩ tb828 (w_dispute hflags hbs hJ hq) rfl rfl (Nat.le_of_ble_eq_true rfl) ⟨Nat.le_of_ble_eq_true rfl, Nat.le_of_ble_eq_true rfl⟩ ⟨Nat.le_of_ble_eq_true rfl, Nat.le_of_ble_eq_true rfl⟩ (fun _ h => h.elim) xav_no (fun r422 hp422 hq422 => ?_)
                                                            obtain ⟨rfl, jc422, jr422, rfl⟩ := pP_no (k := 2) (v := eV) hq422 (show (o_dispute ni 0 0 n f g).2.1 0 = 2 from by unfold o_dispute; rw [if_neg (fun z => z (xin_0 hi0 (by omega))), if_pos (by decide)]; rfl) (by decide) rfl
                                                            refine a_ldc2 C dL_refuses_425 tb339 ?_
                                                            refine a_lcmp C dL_refuses_428 ?_
                                                            refine a_if_ne (tgt := 474) C dL_refuses_429 (by decide) (fun c429 => ?_) (fun c429 => ?_)
                                                            · exact absurd (lcmp_eq.mpr rfl) c429
                                                            · refine a_aload_n (i := 0) C dL_refuses_432 rfl rfl ?_
                                                              refine a_iconst (v := 0) C dL_refuses_433 (by decide) ?_
                                                              refine a_iconst (v := (-1)) C dL_refuses_434 (by decide) ?_
                                                              refine a_callSN (na := 3) C hN dL_refuses_435 ⟨tb672, tb23, tb673, ⟨by decide, by decide, by decide +kernel⟩⟩ tb671 (v_settle hflags hbs hJ hq (R_settleN hi0 hi24)) rfl rfl (Nat.le_of_ble_eq_true rfl) ⟨Nat.le_of_ble_eq_true rfl, Nat.le_of_ble_eq_true rfl⟩ ⟨Nat.le_of_ble_eq_true rfl, Nat.le_of_ble_eq_true rfl⟩ (fun _ h => h.elim) xav_no (fun r435 hp435 hq435 => ?_)
                                                              obtain ⟨rfl, jc435, jr435, rfl⟩ := R_settle hi0 hi24 hq435
                                                              refine a_aload_n (i := 0) C dL_refuses_438 rfl rfl ?_
                                                              refine a_iconst (v := 0) C dL_refuses_439 (by decide) ?_
                                                              refine a_callSN (na := 2) C hN dL_refuses_440 ⟨tb732, tb23, tb733, ⟨by decide, by decide, by decide +kernel⟩⟩ tb731 (w_disputed hflags hbs hJ hq) rfl rfl (Nat.le_of_ble_eq_true rfl) ⟨Nat.le_of_ble_eq_true rfl, Nat.le_of_ble_eq_true rfl⟩ ⟨Nat.le_of_ble_eq_true rfl, Nat.le_of_ble_eq_true rfl⟩ (fun _ h => h.elim) xav_no (fun r440 hp440 hq440 => ?_)
                                                              obtain ⟨rfl, jc440, jr440, rfl⟩ := pP_rd (v' := f 14 0) hq440 (xin_0 hi0 (by omega)) (rfl)
                                                              refine a_lconst (v := 0) C dL_refuses_443 (by decide) ?_
                                                              refine a_lcmp C dL_refuses_444 ?_
                                                              refine a_if_ne (tgt := 454) C dL_refuses_445 (by decide) (fun c445 => ?_) (fun c445 => ?_)
                                                              · refine a_ldc2 C dL_refuses_454 tb339 ?_
                                                                refine a_lcmp C dL_refuses_457 ?_
                                                                refine a_if_ne (tgt := 474) C dL_refuses_458 (by decide) (fun c458 => ?_) (fun c458 => ?_)
                                                                · first | exact absurd (lcmp_eq.mpr (if_pos (by have := lcmp_eq.mp c445; rw [← x64_0] at this; exact x64_eq.mp this))) c458 | exact absurd (lcmp_eq.mpr (if_neg (fun z => c445 (lcmp_eq.mpr (by rw [z]; rfl))))) c458
                                                                · refine a_aload_n (i := 0) C dL_refuses_461 rfl rfl ?_
                                                                  refine a_callSP (na := 1) C hN dL_refuses_462 ⟨tb768, tb23, tb769, ⟨by decide, by decide, by decide +kernel⟩⟩ tb767 (p_now hflags hbs hJ hq) rfl rfl (Nat.le_of_ble_eq_true rfl) ⟨Nat.le_of_ble_eq_true rfl, Nat.le_of_ble_eq_true rfl⟩ ⟨Nat.le_of_ble_eq_true rfl, Nat.le_of_ble_eq_true rfl⟩ (fun _ h => h.elim) xav_no (fun r462 hp462 hq462 => ?_)
                                                                  obtain ⟨rfl, jc462, jr462, rfl⟩ := hq462
                                                                  refine a_lload_n (i := 1) C dL_refuses_465 rfl rfl ?_
                                                                  refine a_lcmp C dL_refuses_466 ?_
                                                                  refine a_if_ne (tgt := 474) C dL_refuses_467 (by decide) (fun c467 => ?_) (fun c467 => ?_)
                                                                  · exact absurd (lcmp_eq.mpr rfl) c467
                                                                  · refine a_iconst (v := 1) C dL_refuses_470 (by decide) ?_
                                                                    refine a_goto (tgt := 475) C dL_refuses_471 (by decide) ?_
                                                                    exact a_zret C dL_refuses_475 (by first | rfl | exact bI_nar) (Nat.le_of_ble_eq_true rfl) (Nat.le_of_ble_eq_true rfl) (hret _ _ ⟨rfl, _, _, rfl⟩)
                                                              · refine a_ldc2 C dL_refuses_448 tb340 ?_
                                                                refine a_goto (tgt := 457) C dL_refuses_451 (by decide) ?_
                                                                refine a_lcmp C dL_refuses_457 ?_
                                                                refine a_if_ne (tgt := 474) C dL_refuses_458 (by decide) (fun c458 => ?_) (fun c458 => ?_)
                                                                · first | exact absurd (lcmp_eq.mpr (if_pos (by have := lcmp_eq.mp c445; rw [← x64_0] at this; exact x64_eq.mp this))) c458 | exact absurd (lcmp_eq.mpr (if_neg (fun z => c445 (lcmp_eq.mpr (by rw [z]; rfl))))) c458
                                                                · refine a_aload_n (i := 0) C dL_refuses_461 rfl rfl ?_
                                                                  refine a_callSP (na := 1) C hN dL_refuses_462 ⟨tb768, tb23, tb769, ⟨by decide, by decide, by decide +kernel⟩⟩ tb767 (p_now hflags hbs hJ hq) rfl rfl (Nat.le_of_ble_eq_true rfl) ⟨Nat.le_of_ble_eq_true rfl, Nat.le_of_ble_eq_true rfl⟩ ⟨Nat.le_of_ble_eq_true rfl, Nat.le_of_ble_eq_true rfl⟩ (fun _ h => h.elim) xav_no (fun r462 hp462 hq462 => ?_)
                                                                  obtain ⟨rfl, jc462, jr462, rfl⟩ := hq462
                                                                  refine a_lload_n (i := 1) C dL_refuses_465 rfl rfl ?_
                                                                  refine a_lcmp C dL_refuses_466 ?_
                                                                  refine a_if_ne (tgt := 474) C dL_refuses_467 (by decide) (fun c467 => ?_) (fun c467 => ?_)
                                                                  · exact absurd (lcmp_eq.mpr rfl) c467
                                                                  · refine a_iconst (v := 1) C dL_refuses_470 (by decide) ?_
                                                                    refine a_goto (tgt := 475) C dL_refuses_471 (by decide) ?_
                                                                    exact a_zret C dL_refuses_475 (by first | rfl | exact bI_nar) (Nat.le_of_ble_eq_true rfl) (Nat.le_of_ble_eq_true rfl) (hret _ _ ⟨rfl, _, _, rfl⟩)
